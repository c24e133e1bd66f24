/-! what holds of an object between the law's rounds: there is a value of the reference's beside it, and it has forecasts of none; n rounds, year yr -/
def IV (n yr : Nat) (gP gA : zG) : Prop := yr ≤ 60 ∧ gP 10 0 = nI yr ∧ ∃ g : zG, REL n gP gA gF0 g
theorem iv_y {n yr : Nat} {gP gA : zG} (h : IV n yr gP gA) : yr ≤ 60 := h.1
theorem iv_10 {n yr : Nat} {gP gA : zG} (h : IV n yr gP gA) : gP 10 0 = nI yr := h.2.1
theorem iv_ry {n yr : Nat} {gP gA : zG} (h : IV n yr gP gA) : ∃ g : zG, RY (999 * n + 240 * yr) yr gP gA gF0 g := by
  obtain ⟨hy, e, g, y2, m1, m2, m3⟩ := h
  have hy2 := mp_yr m1
  have e2 : gP 10 0 = nI y2 := m2.2.2.2.1.1.trans (mp_year m1)
  have e3 : yr = y2 := (nI_eq (by omega) (by omega)).mp (by rw [← e, ← e2])
  subst e3
  exact ⟨g, m1, m2, m3⟩
theorem iv_of {n yr : Nat} {gP gA g : zG} (hy : yr ≤ 60) (e : gP 10 0 = nI yr) (h : REL n gP gA gF0 g) : IV n yr gP gA := ⟨hy, e, g, h⟩
theorem iv_skip {n yr : Nat} {gP gA : zG} (h : IV n yr gP gA) : IV (n + 1) yr gP gA := by
  obtain ⟨hy, e, g, hR⟩ := h
  exact ⟨hy, e, g, rel_skip hR⟩
theorem iv_up : ∀ (j : Nat) {n yr : Nat} {gP gA : zG}, IV n yr gP gA → IV (n + j) yr gP gA := by
  intro j
  induction j with
  | zero => intro n yr gP gA h; exact h
  | succ j ih => intro n yr gP gA h; exact iv_skip (ih h)
theorem iv_init : IV 0 0 gL0 gA0 := by
  refine ⟨by omega, ?_, gM0, rel_init⟩
  rw [l0_10 (by decide)]
  rfl
theorem iv_fl {n yr : Nat} {gP gA : zG} (h : IV n yr gP gA) : ∃ fl, fl ≤ 720 ∧ gA 6 0 = nI fl := by
  have hy := h.1
  obtain ⟨g, m1, m2, m3, m4⟩ := iv_ry h
  obtain ⟨fl, hf, ef⟩ := mp_fl m1
  exact ⟨fl, by omega, by rw [m3.2.2.1]; exact ef⟩
theorem iv_ash {n yr : Nat} {gP gA : zG} (h : IV n yr gP gA) : ∀ i, i < 61 → gA 0 i = 0 ∨ gA 0 i = 1 := by
  obtain ⟨g, m1, m2, m3, m4⟩ := iv_ry h
  exact fun i hi => by rw [(m3.1 i hi).1]; exact (m3.1 i hi).2
theorem iv_in {n yr : Nat} {gP gA : zG} (h : IV n yr gP gA) : vp_in (gP 10 0) 61 := by
  have hy := h.1
  rw [h.2.1]
  exact vp_in_nI (by omega) (by decide)
/-! what is told -/
def uL (gP : zG) (k : Nat) (v : Int32) : zG := (fX5_land gP gP gP gP k v).2
def uS (gP : zG) (v : Int32) : zG := (fX5_sea gP gP gP gP v).2
def uC (gP : zG) (v1 v2 v3 : Int32) : zG := fX5_climate gP gP gP gP v1 v2 v3
def uI (gP : zG) (k : Nat) (v : Int32) : zG := (fX5_ice gP gP gP gP k v).2
def uA (gA : zG) (yr : Nat) : zG := va_up gA 0 (upd (gA 0) yr 1)
theorem iv_land {n yr : Nat} {gP gA : zG} {k : Nat} {v : Int32} (hk : k < 12) (h1 : ¬ v < 0) (h2 : ¬ 500 < v) (h : IV n yr gP gA) : IV n yr (uL gP k v) gA := by
  obtain ⟨hy, e, g, hR⟩ := h
  exact ⟨hy, e, _, rel_land gP hk h1 h2 hR⟩
theorem iv_sea {n yr : Nat} {gP gA : zG} (v : Int32) (h : IV n yr gP gA) : IV n yr (uS gP v) gA := by
  obtain ⟨hy, e, g, hR⟩ := h
  refine ⟨hy, ?_, _, rel_sea v hR (gT := gP)⟩
  show va_up gP 10 (upd (gP 10) 1 v) 10 0 = _
  rw [up_t, pk_un (by decide)]
  exact e
theorem iv_climate {n yr : Nat} {gP gA : zG} {v1 v2 v3 : Int32} (h1 : ¬ v1 < (-300)) (h2 : ¬ 300 < v1) (h3 : ¬ v2 < 0) (h4 : ¬ 20 < v2) (h5 : ¬ v3 < 0) (h6 : ¬ 9 < v3) (h : IV n yr gP gA) : IV n yr (uC gP v1 v2 v3) gA := by
  obtain ⟨hy, e, g, hR⟩ := h
  refine ⟨hy, ?_, _, rel_climate gP gP gP h1 h2 h3 h4 h5 h6 hR⟩
  show va_up (va_up (va_up gP 10 (upd (gP 10) 2 v1)) 10 (upd (upd (gP 10) 2 v1) 3 v2)) 10 (upd (upd (upd (gP 10) 2 v1) 3 v2) 4 v3) 10 0 = _
  rw [up_t, pk_un (by decide), pk_un (by decide), pk_un (by decide)]
  exact e
theorem iv_ice {n yr : Nat} {gP gA : zG} {k : Nat} {v : Int32} (hn : n < 512) (hk : k < 12) (h1 : ¬ v < 1) (h2 : ¬ 999 < v) (h : IV n yr gP gA) : IV (n + 1) yr (uI gP k v) gA := by
  obtain ⟨hy, e, g, hR⟩ := h
  have hR0 := hR
  obtain ⟨y2, m1, m2, m3⟩ := hR
  have hy2 := mp_yr m1
  exact ⟨hy, e, _, rel_iced gP hn hk h1 h2 hR0 (mp_year m1) hy2⟩
theorem iv_ashed {n yr : Nat} {gP gA : zG} (h : IV n yr gP gA) : IV n yr gP (uA gA yr) := by
  obtain ⟨hy, e, g, hR⟩ := h
  exact ⟨hy, e, _, rel_ashed (by omega) hR⟩
theorem ash_u {gP gT gA gF : zG} {n yr : Nat} (h : IV n yr gP gA) : (fX5_ash gP gT gA gF).2 = uA gA yr := by
  have hy := h.1
  show va_up gA 0 (upd (gA 0) (gP 10 0).toNatClampNeg (vp_nar .boolean 1)) = _
  rw [h.2.1, nI_clamp (n := yr) (by omega)]
  rfl
/-! years -/
def PS (gP gA : zG) (j : Nat) : zG × zG := (fX5_pass_L14 j 0 gP gA).2
theorem pass_k : ∀ (n k j : Nat) (x y : zG), fX5_pass_L14 n k x y = fX5_pass_L14 n j x y := by
  intro n
  induction n with
  | zero => intro k j x y; rfl
  | succ n ih =>
    intro k j x y
    unfold fX5_pass_L14
    simp only [jn_eq]
    exact ih _ _ _ _
theorem pass_1 (k : Nat) (x y : zG) : fX5_pass_L14 1 k x y = (fX3_goThroughYear x 10 0, fX3_goThroughYear x, fX0_note y (fX3_goThroughYear x)) := by
  unfold fX5_pass_L14
  simp only [jn_eq]
  unfold fX5_pass_L14
  rfl
theorem pass_s (n k : Nat) (x y : zG) : fX5_pass_L14 (n + 1) k x y = fX5_pass_L14 n (k + 1) (fX3_goThroughYear x) (fX0_note y (fX3_goThroughYear x)) := by
  conv => lhs; unfold fX5_pass_L14
  simp only [jn_eq]
theorem pass_snoc : ∀ (n k : Nat) (x y : zG), fX5_pass_L14 (n + 1) k x y = fX5_pass_L14 1 0 (fX5_pass_L14 n k x y).2.1 (fX5_pass_L14 n k x y).2.2 := by
  intro n
  induction n with
  | zero => intro k x y; rw [pass_k 1 k 0]; rfl
  | succ n ih =>
    intro k x y
    rw [pass_s, ih, pass_s n k]
theorem pass_10 : ∀ (n k : Nat) (x y : zG), (fX5_pass_L14 n k x y).1 = (fX5_pass_L14 n k x y).2.1 10 0 := by
  intro n
  induction n with
  | zero => intro k x y; rfl
  | succ n ih => intro k x y; rw [pass_s]; exact ih _ _ _
theorem ps_0 (gP gA : zG) : PS gP gA 0 = (gP, gA) := rfl
theorem ps_s {gP gA gT gF : zG} {j : Nat} : (fX5_pass (PS gP gA j).1 gT (PS gP gA j).2 gF 1).2 = PS gP gA (j + 1) := by
  show (fX5_pass_L14 1 0 (PS gP gA j).1 (PS gP gA j).2).2 = (fX5_pass_L14 (j + 1) 0 gP gA).2
  rw [pass_snoc j 0 gP gA]
  rfl
theorem ps_n {gP gA gT gF : zG} {j : Nat} : (fX5_pass gP gT gA gF j).2 = PS gP gA j := rfl
theorem ps_try : ∀ (n k j : Nat) (x y : zG), (fX5_pass_L14 n k x y).2.1 = fX5_tryOut_L13 n j x := by
  intro n
  induction n with
  | zero => intro k j x y; rfl
  | succ n ih => intro k j x y; rw [pass_s, try_s]; exact ih _ _ _ _
theorem ps_t (gP gA : zG) (n : Nat) : (PS gP gA n).1 = fX5_tryOut_L13 n 0 gP := ps_try n 0 0 gP gA
theorem iv_ps {n yr j : Nat} {gP gA : zG} (hn : n < 512) (h : IV n yr gP gA) (hj : yr + j ≤ 60) : IV n (yr + j) (PS gP gA j).1 (PS gP gA j).2 := by
  obtain ⟨g, hr⟩ := iv_ry h
  obtain ⟨r1, r2, r3⟩ := ry_pass (gF := gF0) j 0 _ yr gP gA g hr hj (by omega)
  have m1 := r2.1
  have e : (PS gP gA j).1 10 0 = nI (yr + j) := r2.2.1.2.2.2.1.1.trans (mp_year m1)
  refine ⟨hj, e, (fX6_pass_L43 j 0 g).2, yr + j, ?_⟩
  rw [show 999 * n + 240 * (yr + j) = 999 * n + 240 * yr + 240 * j by omega]
  exact r2
theorem ps_v {n yr j : Nat} {gP gA gT gF : zG} (hn : n < 512) (h : IV n yr gP gA) (hj : yr + j ≤ 60) : (fX5_pass gP gT gA gF j).1 = nI (yr + j) := by
  show (fX5_pass_L14 j 0 gP gA).1 = _
  rw [pass_10]
  exact (iv_ps hn h hj).2.1
theorem ps_v1 {n yr j : Nat} {gP gA gT gF : zG} (hn : n < 512) (h : IV n yr gP gA) (hj : yr + (j + 1) ≤ 60) : (fX5_pass (PS gP gA j).1 gT (PS gP gA j).2 gF 1).1 = nI (yr + j + 1) := by
  rw [Nat.add_assoc]
  show (fX5_pass_L14 1 0 (PS gP gA j).1 (PS gP gA j).2).1 = _
  rw [pass_10]
  show (fX5_pass_L14 1 0 (fX5_pass_L14 j 0 gP gA).2.1 (fX5_pass_L14 j 0 gP gA).2.2).2.1 10 0 = _
  rw [← pass_snoc j 0 gP gA]
  exact (iv_ps hn h hj).2.1
/-! what was noted of the last year -/
theorem note_2L {g : zG} : ∀ (n k : Nat) (x : zG), fX0_note_L31 g n k x 2 = x 2 := by
  intro n
  induction n with
  | zero => intro k x; rfl
  | succ n ih =>
    intro k x
    unfold fX0_note_L31
    by_cases c : (g 7) k ≤ 0
    · rw [if_pos c]; exact ih _ _
    · rw [if_neg c]
      by_cases c2 : 720 ≤ (x 6 0)
      · rw [if_pos c2]; exact ih _ _
      · rw [if_neg c2, ih, up_n (by decide), up_n (by decide), up_n (by decide), up_n (by decide)]
theorem note_2 (gA g : zG) : fX0_note gA g 2 (g 10 0).toNatClampNeg = fX1_allIce (g 8) (g 9) := by
  unfold fX0_note
  rw [note_2L, up_t, pk_us]
theorem ps_2 {n yr : Nat} {gP gA : zG} (p : Nat) (hn : n < 512) (hp : 1 ≤ p) (h : IV n yr gP gA) (hy : yr + p ≤ 60) : (PS gP gA p).2 2 (yr + p) = fX1_allIce ((PS gP gA p).1 8) ((PS gP gA p).1 9) := by
  obtain ⟨j, rfl⟩ : ∃ j, p = j + 1 := ⟨p - 1, by omega⟩
  have e : PS gP gA (j + 1) = (fX3_goThroughYear (PS gP gA j).1, fX0_note (PS gP gA j).2 (fX3_goThroughYear (PS gP gA j).1)) := by
    show (fX5_pass_L14 (j + 1) 0 gP gA).2 = _
    rw [pass_snoc j 0 gP gA, pass_1]
    rfl
  have e10 := (iv_ps hn h hy).2.1
  rw [e] at e10 ⊢
  dsimp only at e10 ⊢
  have q := note_2 (PS gP gA j).2 (fX3_goThroughYear (PS gP gA j).1)
  rw [e10, nI_clamp (n := yr + (j + 1)) (by omega)] at q
  exact q
/-! what would be -/
def TT (gP gT : zG) (p : Nat) : zG := fX5_tryOut_L13 p 0 (fX3_becomeLike gT gP)
theorem would_e (gP gT gA gF : zG) (p k w : Nat) : fX5_would gP gT gA gF p k w = (fX3_tellOf (TT gP gT p) k w, TT gP gT p) := by
  unfold fX5_would fX5_tryOut
  rw [jn_eq, jn_eq]
  rfl
theorem fore_e (gP gT gA gF : zG) (p : Nat) : fX5_forecast gP gT gA gF p = (fX1_allIce (TT gP gT p 8) (TT gP gT p 9), TT gP gT p, fX2_keep gF (TT gP gT p 10 0) (fX1_allIce (TT gP gT p 8) (TT gP gT p 9))) := by
  unfold fX5_forecast fX5_tryOut
  rw [jn_eq, jn_eq, jn_eq, jn_eq]
  rfl
theorem iv_try {n yr : Nat} {gP gA : zG} (gT : zG) (p : Nat) (hn : n < 512) (h : IV n yr gP gA) (hp : 1 ≤ p) (hy : yr + p ≤ 60) : (∀ k w, k < 12 → w < 10 → fX3_tellOf (TT gP gT p) k w = fX3_tellOf (PS gP gA p).1 k w) ∧ fX1_allIce (TT gP gT p 8) (TT gP gT p 9) = fX1_allIce ((PS gP gA p).1 8) ((PS gP gA p).1 9) ∧ TT gP gT p 10 0 = nI (yr + p) := by
  rw [ps_t]
  unfold TT
  obtain ⟨g, m1, m2, m3, m4⟩ := iv_ry h
  obtain ⟨fl, hfl, efl⟩ := mp_fl m1
  obtain ⟨t1, t2, -, -⟩ := tried (like_yr (gT := gT) m2) m1 (show fl ≤ 720 by omega) efl hp hy (by omega)
  obtain ⟨s1, s2, -, -⟩ := tried (yr_of m2) m1 (show fl ≤ 720 by omega) efl hp hy (by omega)
  refine ⟨fun k w hk hw => (tz_tell hk hw t1.1 t2).trans (tz_tell hk hw s1.1 s2).symm, (all_eq (fun k hk => t1.1.2.1.1 k hk)).trans (all_eq (fun k hk => s1.1.2.1.1 k hk)).symm, t1.1.2.2.1.1.trans (mp_year t1.2.1)⟩
/-- what the forecast notes -/
theorem keep_0 {gF : zG} {c : Nat} {y v : Int32} (hc : c < 10) (e : gF 2 0 = nI c) : fX2_keep gF y v 2 0 = nI (c + 1) ∧ fX2_keep gF y v 0 c = y ∧ fX2_keep gF y v 1 c = v := by
  have h10 : ¬ (10 : Int32) ≤ nI c := fun q => (fa_of_lt (nI_lt (a := c) (b := 10) hc (by decide))).2.1 q
  unfold fX2_keep
  rw [e, if_neg h10, nI_clamp (n := c) (by omega)]
  refine ⟨?_, ?_, ?_⟩
  · rw [up_t, pk_us]; exact nI_1 c
  · rw [up_n (by decide), up_n (by decide), up_t, pk_us]
  · rw [up_n (by decide), up_t, pk_us]
theorem miss_0 {n yr c : Nat} {gP gA gF1 gT : zG} (p : Nat) (hn : n < 512) (hp : 1 ≤ p) (h : IV n yr gP gA) (hy : yr + p ≤ 60) (e0 : gF1 0 c = nI (yr + p)) (e1 : gF1 1 c = fX1_allIce ((PS gP gA p).1 8) ((PS gP gA p).1 9)) : fX5_miss (PS gP gA p).1 gT (PS gP gA p).2 gF1 c = 0 := by
  have e10 := (iv_ps hn h hy).2.1
  have e2 := ps_2 p hn hp h hy
  unfold fX5_miss
  rw [e0, e10, nI_clamp (n := yr + p) (by omega), e1, e2, if_pos (fa_of_nlt (nI_nlt (Nat.le_refl _) (by omega))), Int32.sub_self, if_pos (by decide)]
theorem tot_0 (gP gT gA gF : zG) : fX5_total gP gT gA gF 0 = fX1_allIce (gP 8) (gP 9) := by
  unfold fX5_total
  rw [if_pos rfl]
