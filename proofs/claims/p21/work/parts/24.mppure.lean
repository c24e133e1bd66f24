theorem in_vp {v hi : Int32} {n : Nat} (h : ¬ fX6_in v 0 hi = 0) (h1 : hi.toInt < n) (hn : n < 2 ^ 31) : vp_in v n := by
  unfold fX6_in at h
  by_cases c1 : v < 0
  · rw [if_pos c1] at h
    exact absurd rfl h
  · rw [if_neg c1] at h
    by_cases c2 : hi < v
    · rw [if_pos c2] at h
      exact absurd rfl h
    · rw [fa_lt] at c1 c2
      exact vp_in_iff.mpr ⟨by have : (0 : Int32).toInt = 0 := rfl; omega, by omega⟩
theorem in_lo {v lo hi : Int32} (h : ¬ fX6_in v lo hi = 0) : lo.toInt ≤ v.toInt ∧ v.toInt ≤ hi.toInt := by
  unfold fX6_in at h
  by_cases c1 : v < lo
  · rw [if_pos c1] at h
    exact absurd rfl h
  · rw [if_neg c1] at h
    by_cases c2 : hi < v
    · rw [if_pos c2] at h
      exact absurd rfl h
    · rw [fa_lt] at c1 c2
      omega
theorem isCell_in {v : Int32} (h : ¬ fX6_isCell v = 0) : vp_in v 12 := in_vp h (by decide) (by decide)
theorem asked1 {g : zG} {a : Int32} {u : Int32 × zG} (hu : u = fX6_asked g a) (h : ¬ u.1 = 0) : ¬ a = 0 := by
  rw [hu] at h
  exact h
theorem asked2 {g : zG} {a b : Int32} {u : Int32 × zG} (hu : u = fX6_asked_ g a b) (h : ¬ u.1 = 0) : ¬ a = 0 ∧ ¬ b = 0 := by
  rw [hu] at h
  simp only [fX6_asked_, jn] at h
  constructor
  · intro e
    rw [if_pos e] at h
    exact h rfl
  · intro e
    rw [if_pos e] at h
    by_cases e2 : a = 0
    · rw [if_pos e2] at h
      exact h rfl
    · rw [if_neg e2] at h
      exact h rfl
theorem asked3 {g : zG} {a b c : Int32} {u : Int32 × zG} (hu : u = fX6_asked__ g a b c) (h : ¬ u.1 = 0) : ¬ a = 0 ∧ ¬ b = 0 ∧ ¬ c = 0 := by
  rw [hu] at h
  simp only [fX6_asked__, jn] at h
  by_cases e1 : a = 0
  · rw [if_pos e1] at h
    exact absurd rfl h
  · by_cases e2 : b = 0
    · rw [if_neg e1, if_pos e2] at h
      exact absurd rfl h
    · by_cases e3 : c = 0
      · rw [if_neg e1, if_neg e2, if_pos e3] at h
        exact absurd rfl h
      · exact ⟨e1, e2, e3⟩
theorem asked3_g (g : zG) (a b c : Int32) : ∃ v, (fX6_asked__ g a b c).2 = va_up g 10 (upd (g 10) 0 v) := by
  simp only [fX6_asked__, jn]
  (repeat' split) <;> exact ⟨_, rfl⟩
theorem asked2_g (g : zG) (a b : Int32) : ∃ v, (fX6_asked_ g a b).2 = va_up g 10 (upd (g 10) 0 v) := by
  simp only [fX6_asked_, jn]
  (repeat' split) <;> exact ⟨_, rfl⟩
theorem asked3_s {g : zG} {a b c : Int32} {u : Int32 × zG} (hu : u = fX6_asked__ g a b c) : u.2 0 = g 0 := by
  obtain ⟨v, hv⟩ := asked3_g g a b c
  rw [hu, hv]
  rfl
theorem asked2_r {g : zG} {a b : Int32} {u : Int32 × zG} (hu : u = fX6_asked_ g a b) : u.2 10 5 = g 10 5 := by
  obtain ⟨v, hv⟩ := asked2_g g a b
  rw [hu, hv]
  rfl
theorem com_in {a b v : Int32} (hv : v = if fX6_isCell a = 0 then 0 else if fX6_isCell b = 0 then 0 else 1) (h : ¬ v = 0) : ¬ fX6_isCell a = 0 ∧ ¬ fX6_isCell b = 0 := by
  rw [hv] at h
  constructor
  · intro e
    rw [if_pos e] at h
    exact h rfl
  · intro e
    by_cases e2 : fX6_isCell a = 0
    · rw [if_pos e2] at h
      exact h rfl
    · rw [if_neg e2, if_pos e] at h
      exact h rfl
theorem nI_m1 {fl n : Nat} (h : fl ≤ n) (hn : n < 2 ^ 30) : (nI fl - 1).toInt < n := by
  have h1 : (nI fl - 1).toInt = (fl : Int) - 1 := pk_sub_toInt (a := fl) (b := 1) (by omega) (by decide)
  omega
theorem in_fl {g : zG} {v : Int32} (h : ∃ fl, fl ≤ 720 ∧ g 0 90 = nI fl) (hv : ¬ fX6_in v 0 (g 0 90 - 1) = 0) : vp_in v 720 := by
  obtain ⟨fl, h1, h2⟩ := h
  rw [h2] at hv
  exact in_vp hv (nI_m1 h1 (by decide)) (by decide)
theorem in_fc {g : zG} {v : Int32} (h : ∃ fl, fl ≤ 10 ∧ g 10 5 = nI fl) (hv : ¬ fX6_in v 0 (g 10 5 - 1) = 0) : vp_in v 10 := by
  obtain ⟨fl, h1, h2⟩ := h
  rw [h2] at hv
  exact in_vp hv (nI_m1 h1 (by decide)) (by decide)
theorem in_yr {g : zG} {v : Int32} (h : vp_in (g 0 89) 61) (hv : ¬ fX6_in v 0 (g 0 89) = 0) : vp_in v 61 := in_vp hv (vp_in_iff.mp h).2 (by decide)
theorem fc_in {g : zG} (h : ∃ fl, fl ≤ 10 ∧ g 10 5 = nI fl) : vp_in (g 10 5) 11 := by
  obtain ⟨fl, h1, h2⟩ := h
  rw [h2]
  exact vp_in_nI (by omega) (by decide)
theorem fc_p {v w : Int32} (hv : v = fX6_in w 1 20) (h : ¬ v = 0) : vp_in w 21 := by
  rw [hv] at h
  have h1 := in_lo h
  exact vp_in_iff.mpr ⟨by have : (1 : Int32).toInt = 1 := rfl; omega, by have : (20 : Int32).toInt = 20 := rfl; omega⟩
theorem would_p {v w x : Int32} (hv : v = if fX6_in w 1 20 = 0 then 0 else if fX6_in x 0 9 = 0 then 0 else 1) (h : ¬ v = 0) : vp_in w 21 := by
  refine fc_p rfl (fun e => h ?_)
  rw [hv, if_pos e]
theorem year_le {g : zG} {yr : Nat} {w v1 v2 : Int32} (hy : g 0 89 = nI yr) (h60 : yr ≤ 60) (hp : vp_in w 21) (hv : v2 = if v1 = 0 then 0 else if 60 < g 0 89 + w then 0 else 1) (h : ¬ v2 = 0) : yr + w.toNatClampNeg ≤ 60 := by
  by_cases c1 : v1 = 0
  · rw [hv, if_pos c1] at h
    exact absurd rfl h
  · by_cases c2 : 60 < g 0 89 + w
    · rw [hv, if_neg c1, if_pos c2] at h
      exact absurd rfl h
    · have hw := zn_lt hp
      rw [hy, ← zn_in hp, nI_add, fa_lt, nI_toInt (by omega)] at c2
      have : (60 : Int32).toInt = 60 := rfl
      omega
theorem year_le2 {g : zG} {yr : Nat} {w v1 v2 x : Int32} (hy : g 0 89 = nI yr) (h60 : yr ≤ 60) (hp : vp_in w 21) (hv : v2 = if v1 = 0 then 0 else if 60 < g 0 89 + w then 0 else if 10 ≤ x then 0 else 1) (h : ¬ v2 = 0) : yr + w.toNatClampNeg ≤ 60 := by
  by_cases c1 : 10 ≤ x
  · rw [hv] at h
    by_cases c2 : v1 = 0
    · rw [if_pos c2] at h
      exact absurd rfl h
    · rw [if_neg c2, if_pos c1] at h
      by_cases c3 : 60 < g 0 89 + w
      · rw [if_pos c3] at h
        exact absurd rfl h
      · rw [if_neg c3] at h
        exact absurd rfl h
  · rw [if_neg c1] at hv
    exact year_le hy h60 hp hv h
theorem fc_lt {g : zG} {v1 v2 w : Int32} (hf : ∃ fl, fl ≤ 10 ∧ g 10 5 = nI fl) (hv : v2 = if v1 = 0 then 0 else if 60 < g 0 89 + w then 0 else if 10 ≤ g 10 5 then 0 else 1) (h : ¬ v2 = 0) : vp_in (g 10 5) 10 := by
  by_cases c1 : 10 ≤ g 10 5
  · rw [hv, if_pos c1] at h
    by_cases c2 : v1 = 0
    · rw [if_pos c2] at h
      exact absurd rfl h
    · rw [if_neg c2] at h
      by_cases c3 : 60 < g 0 89 + w
      · rw [if_pos c3] at h
        exact absurd rfl h
      · rw [if_neg c3] at h
        exact absurd rfl h
  · obtain ⟨fl, h1, h2⟩ := hf
    rw [h2] at c1 ⊢
    rw [fa_le, nI_toInt (by omega)] at c1
    have : (10 : Int32).toInt = 10 := rfl
    exact vp_in_nI (by omega) (by decide)
/-- the invariant speaks of rows 0 and, of row 10, of the climate -/
theorem MP.of {g g' : zG} {b yr fb bb : Nat} (h : MP g b yr fb bb) (h0 : g' 0 = g 0) (h2 : g' 10 2 = g 10 2) (h3 : g' 10 3 = g 10 3) (h4 : g' 10 4 = g 10 4) : MP g' b yr fb bb := by
  unfold MP at h ⊢
  rw [h0, h2, h3, h4]
  exact h
theorem mp_asked3 {g : zG} {b yr fb bb : Nat} {p q r : Int32} {u : Int32 × zG} (h : MP g b yr fb bb) (hu : u = fX6_asked__ g p q r) : MP u.2 b yr fb bb := by
  obtain ⟨v, hv⟩ := asked3_g g p q r
  rw [hu, hv]
  exact h.of rfl rfl rfl rfl
theorem mp_asked2 {g : zG} {b yr fb bb : Nat} {p q : Int32} {u : Int32 × zG} (h : MP g b yr fb bb) (hu : u = fX6_asked_ g p q) : MP u.2 b yr fb bb := by
  obtain ⟨v, hv⟩ := asked2_g g p q
  rw [hu, hv]
  exact h.of rfl rfl rfl rfl
theorem mp_aims {g y : zG} {b yr fb bb : Nat} {f : Nat → Int32} (hy : y = va_up g 6 f) (h : MP g b yr fb bb) : MP y b yr fb bb := by
  rw [hy]
  exact h.of rfl rfl rfl rfl
/-- keeps(false): row 0 stays, row 1 is as row 0 -/
theorem keeps0_L (n : Nat) : ∀ (k : Nat) (g : zG), (∀ j, j ≠ 1 → (fX6_keeps_L2 0 n k g) j = g j) ∧ ∀ j, (fX6_keeps_L2 0 n k g) 1 j = if k ≤ j ∧ j < k + n then g 0 j else g 1 j := by
  induction n with
  | zero =>
    intro k g
    refine ⟨fun j hj => rfl, fun j => ?_⟩
    rw [if_neg (by omega)]
    rfl
  | succ n ih =>
    intro k g
    have e : fX6_keeps_L2 0 (n + 1) k g = fX6_keeps_L2 0 n (k + 1) (va_up (va_up g 0 (upd (g 0) k (g 0 k))) 1 (upd (g 1) k (g 0 k))) := rfl
    obtain ⟨h1, h2⟩ := ih (k + 1) (va_up (va_up g 0 (upd (g 0) k (g 0 k))) 1 (upd (g 1) k (g 0 k)))
    rw [e]
    refine ⟨fun j hj => ?_, fun j => ?_⟩
    · rw [h1 j hj]
      show va_up (va_up g 0 (upd (g 0) k (g 0 k))) 1 _ j = g j
      unfold va_up
      rw [if_neg hj]
      by_cases c : j = 0
      · subst c
        rw [if_pos rfl]
        exact fa_upd_same rfl
      · rw [if_neg c]
    · rw [h2 j]
      show (if k + 1 ≤ j ∧ j < k + 1 + n then upd (g 0) k (g 0 k) j else upd (g 1) k (g 0 k) j) = _
      unfold upd
      by_cases c : j = k
      · rw [if_neg (c := k + 1 ≤ j ∧ j < k + 1 + n) (by omega), if_pos (c := k ≤ j ∧ j < k + (n + 1)) (by omega), if_pos c, c]
      · by_cases c2 : k + 1 ≤ j ∧ j < k + 1 + n
        · rw [if_pos (c := k + 1 ≤ j ∧ j < k + 1 + n) c2, if_pos (c := k ≤ j ∧ j < k + (n + 1)) (by omega), if_neg c]
        · rw [if_neg (c := k + 1 ≤ j ∧ j < k + 1 + n) c2, if_neg (c := k ≤ j ∧ j < k + (n + 1)) (by omega), if_neg c]
theorem mp_keeps0 {g : zG} {b yr fb bb : Nat} (h : MP g b yr fb bb) : MP (fX6_keeps g 0) b yr fb bb := by
  have h1 := (keeps0_L 1024 0 g).1
  exact h.of (h1 0 (by decide)) (by show fX6_keeps_L2 0 1024 0 g 10 2 = _; rw [h1 10 (by decide)]) (by show fX6_keeps_L2 0 1024 0 g 10 3 = _; rw [h1 10 (by decide)]) (by show fX6_keeps_L2 0 1024 0 g 10 4 = _; rw [h1 10 (by decide)])
theorem keeps_10L (v : Int32) (n : Nat) : ∀ (k : Nat) (g : zG), ∀ j, j ≠ 0 → j ≠ 1 → (fX6_keeps_L2 v n k g) j = g j := by
  induction n with
  | zero => exact fun k g j _ _ => rfl
  | succ n ih =>
    intro k g j h0 h1
    show (fX6_keeps_L2 v n (k + 1) _) j = g j
    rw [ih _ _ j h0 h1]
    unfold va_up
    rw [if_neg h1, if_neg h0]
theorem keeps_10 (g : zG) (v : Int32) : fX6_keeps g v 10 = g 10 := keeps_10L v 1024 0 g 10 (by decide) (by decide)
theorem snows_j {j : Nat} (hj : j ≠ 0) (g : zG) : fX6_snows g j = g j := by
  have H1 : ∀ (c n : Nat) (v : Int32) (x : zG), fX6_snows_L182 c n v x j = x j := by
    intro c n
    induction n with
    | zero => intro v x; unfold fX6_snows_L182; rfl
    | succ n ih =>
      intro v x
      unfold fX6_snows_L182
      split
      · rfl
      · rw [jn_eq, ih, up_n hj]
  have H : ∀ (n k : Nat) (x : zG), fX6_snows_L2 n k x j = x j := by
    intro n
    induction n with
    | zero => intro k x; unfold fX6_snows_L2; rfl
    | succ n ih =>
      intro k x
      unfold fX6_snows_L2
      rw [jn_eq, ih]
      unfold mSnow
      rw [jn_eq, jn_eq, jn_eq, jn_eq, jn_eq, jn_eq, jn_eq, jn_eq, jn_eq, jn_eq, jn_eq, H1, up_n hj, up_n hj, up_n hj, up_n hj, up_n hj]
  exact H 12 0 g
theorem flows_j {j : Nat} (hj : j ≠ 0) (h9 : j ≠ 9) (g : zG) : fX6_flows g j = g j := by
  have H1 : ∀ (k f n i : Nat) (v : Int32) (x : zG), fX6_flows_L193 k f n i v x j = x j := by
    intro k f n
    induction n with
    | zero => intro i v x; unfold fX6_flows_L193; rfl
    | succ n ih =>
      intro i v x
      unfold fX6_flows_L193
      split
      · rfl
      · rw [jn_eq, jn_eq, jn_eq, ih, up_n hj, up_n hj]
  have HB : ∀ (n k : Nat) (x : zG), fX6_flows_L104 n k x j = x j := by
    intro n
    induction n with
    | zero => intro k x; unfold fX6_flows_L104; rfl
    | succ n ih =>
      intro k x
      unfold fX6_flows_L104
      rw [jn_eq, ih]
      unfold mFlowB
      rw [jn_eq, jn_eq, jn_eq, jn_eq, jn_eq, H1, up_n hj, up_n hj]
  have HA : ∀ (n k : Nat) (x : zG), fX6_flows_L36 n k x j = x j := by
    intro n
    induction n with
    | zero => intro k x; unfold fX6_flows_L36; exact HB 11 0 x
    | succ n ih =>
      intro k x
      unfold fX6_flows_L36
      rw [jn_eq, ih]
      unfold mFlowA
      rw [jn_eq, jn_eq, jn_eq, up_n h9]
  have H0 : ∀ (n k : Nat) (x : zG), fX6_flows_L2 n k x j = x j := by
    intro n
    induction n with
    | zero => intro k x; unfold fX6_flows_L2; exact HA 11 0 x
    | succ n ih =>
      intro k x
      unfold fX6_flows_L2
      rw [ih, up_n hj, up_n hj]
  exact H0 12 0 g
theorem runs_j {j : Nat} (hj : j ≠ 0) (g : zG) : fX6_runs g j = g j := by
  have H : ∀ (n k : Nat) (x : zG), fX6_runs_L2 n k x j = x j := by
    intro n
    induction n with
    | zero => intro k x; unfold fX6_runs_L2; rfl
    | succ n ih =>
      intro k x
      unfold fX6_runs_L2
      rw [jn_eq, ih]
      unfold mRun
      rw [jn_eq, jn_eq, jn_eq]
      generalize (if (fX6_isInSea x k) = 0 then (if k = 11 then (1 : Int32) else 0) else 1) = v7
      generalize (if v7 = 0 then (if k = 0 then k + 1 else if fX6_potentialOf x (k - 1) < fX6_potentialOf x (k + 1) then k - 1 else k + 1) else k) = w
      by_cases c : v7 = 0
      · rw [if_pos c]
        split
        · rfl
        · rw [up_n hj, up_n hj]
      · rw [if_neg c, up_n hj, up_n hj]
  exact H 12 0 g
theorem breaks_j {j : Nat} (hj : j ≠ 0) (h3 : j ≠ 3) (h4 : j ≠ 4) (h5 : j ≠ 5) (g : zG) : fX6_breaks g j = g j := by
  have H : ∀ (n k : Nat) (x : zG), fX6_breaks_L2 n k x j = x j := by
    intro n
    induction n with
    | zero => intro k x; unfold fX6_breaks_L2; rfl
    | succ n ih =>
      intro k x
      unfold fX6_breaks_L2
      rw [jn_eq, ih]
      unfold mBreak
      rw [jn_eq, jn_eq]
      split
      · rfl
      · split
        · rfl
        · split
          · rfl
          · rw [jn_eq, jn_eq, up_n hj, up_n hj, up_n hj, up_n h5, up_n h4, up_n h3]
  exact H 12 0 g
theorem calves_j {j : Nat} (hj : j ≠ 0) (g : zG) : fX6_calves g j = g j := by
  have H1 : ∀ (c n k : Nat) (x : zG), fX6_calves_L78 c n k x j = x j := by
    intro c n
    induction n with
    | zero => intro k x; unfold fX6_calves_L78; rfl
    | succ n ih =>
      intro k x
      unfold fX6_calves_L78
      rw [ih, up_n hj]
  have H : ∀ (n : Nat) (v : Int32) (x : zG), fX6_calves_L5 n v x j = x j := by
    intro n
    induction n with
    | zero => intro v x; unfold fX6_calves_L5; rfl
    | succ n ih =>
      intro v x
      unfold fX6_calves_L5
      split
      · rfl
      · rw [jn_eq, jn_eq, jn_eq, ih]
        generalize (if (fX6_isInSea x n) = 0 then (0 : Int32) else (if fX6_iceOf x n = 0 then 1 else (if (10 * ((x 10 1) - ((x 0) (0 + n)))) ≤ (9 * fX6_iceOf x n) then 0 else 1))) = w
        by_cases c : w = 0
        · rw [if_pos c]
        · rw [if_neg c, jn_eq, H1, up_n hj]
  exact H 12 1 g
theorem ends_j {j : Nat} (hj : j ≠ 0) (g : zG) : fX6_ends g j = g j := by
  have H : ∀ (n k : Nat) (v : Int32) (x : zG), fX6_ends_L4 n k v x j = x j := by
    intro n
    induction n with
    | zero =>
      intro k v x
      unfold fX6_ends_L4
      rw [jn_eq]
      split
      · rw [up_n hj]
      · rw [up_n hj, up_n hj]
    | succ n ih =>
      intro k v x
      unfold fX6_ends_L4
      rw [jn_eq, ih]
      unfold mEnd
      rw [jn_eq, jn_eq, jn_eq, jn_eq]
      dsimp only
      rw [up_n hj]
  exact H 12 0 (-1) g
theorem passes_j {j : Nat} (hj : j ≠ 0) (h3 : j ≠ 3) (h4 : j ≠ 4) (h5 : j ≠ 5) (h9 : j ≠ 9) (g : zG) (y : Nat) : fX6_passes g y j = g j := by
  have H : ∀ (n k : Nat) (x : zG), fX6_passes_L2 n k x j = x j := by
    intro n
    induction n with
    | zero => intro k x; unfold fX6_passes_L2; rfl
    | succ n ih =>
      intro k x
      unfold fX6_passes_L2
      rw [jn_eq, jn_eq, jn_eq, jn_eq, jn_eq, jn_eq, ih, ends_j hj, calves_j hj, breaks_j hj h3 h4 h5, runs_j hj, flows_j hj h9, snows_j hj, up_n hj]
  exact H y 0 g
theorem passes_10 (g : zG) (y : Nat) : fX6_passes g y 10 = g 10 := passes_j (by decide) (by decide) (by decide) (by decide) (by decide) g y
theorem mp_passes {g : zG} {b yr fb bb y : Nat} (h : MP g b yr fb bb) (h1 : yr + y ≤ 60) (h2 : b + 240 * y ≤ 1000000) (h3 : fb + 12 * y ≤ 720) (h4 : bb + y ≤ 1000) : MP (fX6_passes g y) (b + 240 * y) (yr + y) (fb + 12 * y) (bb + y) := by
  have H : ∀ (n k : Nat) (x : zG), k + n = y → MP x (b + 240 * k) (yr + k) (fb + 12 * k) (bb + k) → MP (fX6_passes_L2 n k x) (b + 240 * y) (yr + y) (fb + 12 * y) (bb + y) := by
    intro n
    induction n with
    | zero => intro k x hk hx; unfold fX6_passes_L2; rw [← show k = y by omega]; exact hx
    | succ n ih =>
      intro k x hk hx
      unfold fX6_passes_L2
      rw [jn_eq, jn_eq, jn_eq, jn_eq, jn_eq, jn_eq]
      refine ih (k + 1) _ (by omega) ?_
      have q1 := mp_snows (mp_year1 hx (by omega)) (by omega)
      have q2 := mp_breaks (mp_runs (mp_flows q1 (by omega) (by omega))) (by omega)
      have q3 := mp_ends (mp_calves q2 (by omega)) (by omega)
      rw [show b + 240 * (k + 1) = b + 240 * k + 240 by omega, show yr + (k + 1) = yr + k + 1 by omega, show fb + 12 * (k + 1) = fb + 12 * k + 12 by omega, show bb + (k + 1) = bb + k + 1 by omega]
      exact q3
  exact H y 0 g (by omega) h
theorem pass56 (n : Nat) : ∀ (k : Nat) (g : zG), ∀ j, j ≠ 8 → (fX6_pass_L56 n k g) j = g j := by
  induction n with
  | zero => exact fun k g j _ => rfl
  | succ n ih =>
    intro k g j h
    show (fX6_pass_L56 n (k + 1) _) j = g j
    rw [ih _ _ j h]
    unfold va_up
    rw [if_neg h]
theorem pass_keep {x u v : zG} {b yr k n : Nat} {r : Int32} (h : MP x (b + 240 * k) (yr + k) (12 * (yr + k)) (yr + k) ∧ x 10 5 = r) (hk : yr + k + 1 ≤ 60) (hb : b + 240 * k + 240 ≤ 1000000) (hu : u = fX6_passes x 1) (hv : v = fX6_pass_L56 n 0 u) : MP v (b + 240 * (k + 1)) (yr + (k + 1)) (12 * (yr + (k + 1))) (yr + (k + 1)) ∧ v 10 5 = r := by
  have h1 := mp_passes h.1 (y := 1) (by omega) (by omega) (by omega) (by omega)
  have h2 := pass56 n 0 u
  constructor
  · rw [hv, show b + 240 * (k + 1) = b + 240 * k + 240 * 1 by omega, show yr + (k + 1) = yr + k + 1 by omega, show 12 * (yr + k + 1) = 12 * (yr + k) + 12 * 1 by omega]
    rw [← hu] at h1
    exact h1.of (h2 0 (by decide)) (by rw [h2 10 (by decide)]) (by rw [h2 10 (by decide)]) (by rw [h2 10 (by decide)])
  · rw [hv, h2 10 (by decide), hu, passes_10]
    exact h.2
