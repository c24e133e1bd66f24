/-! the year of the class beside the year of the reference: layers -/
def LR (fI fU : Nat → Int32) (x : zG) : Prop := (∀ c, c < 12 → fI c = fX6_iceOf x c) ∧ ∀ c y, c < 12 → y < 61 → fU (c * 61 + y) = x 0 (100 + 61 * c + y)
theorem lr_c {fI fU : Nat → Int32} {x y : zG} (h : LR fI fU x) (e : ∀ i, 100 ≤ i → i < 832 → y 0 i = x 0 i) : LR fI fU y := by
  refine ⟨fun c hc => ?_, fun c j hc hj => ?_⟩
  · rw [h.1 c hc]
    exact (iceOf_c (fun j hj => e _ (by omega) (by omega))).symm
  · rw [h.2 c j hc hj]
    exact (e _ (by omega) (by omega)).symm
theorem lr_lay {fI fU : Nat → Int32} {x : zG} {k y : Nat} {v : Int32} (h : LR fI fU x) (hk : k < 12) (hy : y < 61) : LR (fX1_lay fI fU k y v).1 (fX1_lay fI fU k y v).2 (va_up x 0 (upd (x 0) (100 + 61 * k + y) (x 0 (100 + 61 * k + y) + v))) := by
  unfold fX1_lay
  dsimp only
  refine ⟨fun c hc => ?_, fun c j hc hj => ?_⟩
  · by_cases e : c = k
    · subst e
      rw [pk_us, h.1 c hc]
      refine (iceOf_add (y := y) hy ?_ (fun j hj hjy => ?_)).symm
      · rw [up_t, pk_us]
      · rw [up_t, pk_un (by omega)]
    · rw [pk_un e, h.1 c hc]
      refine (iceOf_c (fun j hj => ?_)).symm
      rw [up_t, pk_un (by omega)]
  · rw [up_t]
    by_cases e : c = k ∧ j = y
    · obtain ⟨rfl, rfl⟩ := e
      rw [pk_us, pk_us, h.2 c j hc hj]
    · rw [pk_un (by omega), pk_un (by omega)]
      exact h.2 c j hc hj
theorem min_eq (a v : Int32) : (if a < v then a else v) = (if v ≤ a then v else a) := by
  by_cases c : a < v
  · rw [if_pos c, if_neg (fa_of_lt c).2.1]
  · rw [if_neg c, if_pos (fa_of_nlt c)]
theorem sub_neg (a w : Int32) : a - w = a + -w := Int32.sub_eq_add_neg a w
theorem take_eq {k : Nat} (hk : k < 12) : ∀ (n : Nat) (v : Int32) (fI fU : Nat → Int32) (x : zG), n ≤ 61 → LR fI fU x →
    LR (fX1_takeLatest_L6 k n v fI fU).1 (fX1_takeLatest_L6 k n v fI fU).2 (fX6_snows_L182 k n v x) ∧ (∀ j, j ≠ 0 → fX6_snows_L182 k n v x j = x j) ∧ ∀ i, (i < 100 ∨ 832 ≤ i) → fX6_snows_L182 k n v x 0 i = x 0 i := by
  intro n
  induction n with
  | zero => intro v fI fU x _ h; unfold fX1_takeLatest_L6 fX6_snows_L182; exact ⟨h, fun _ _ => rfl, fun _ _ => rfl⟩
  | succ n ih =>
    intro v fI fU x hn h
    unfold fX1_takeLatest_L6 fX6_snows_L182
    by_cases hv : v ≤ 0
    · rw [if_pos hv, if_pos hv]
      exact ⟨h, fun _ _ => rfl, fun _ _ => rfl⟩
    · rw [if_neg hv, if_neg hv, jn_eq, jn_eq, min_eq]
      have e : fX1_unitsOf fI fU k n = x 0 (100 + 61 * k + n) := h.2 k n hk (by omega)
      rw [e, sub_neg (x 0 (100 + 61 * k + n))]
      generalize (if v ≤ x 0 (100 + 61 * k + n) then v else x 0 (100 + 61 * k + n)) = w
      obtain ⟨r1, r2, r3⟩ := ih (v - w) _ _ _ (by omega) (lr_lay (v := -w) h hk (show n < 61 by omega))
      refine ⟨r1, fun j hj => ?_, fun i hi => ?_⟩
      · rw [r2 j hj, up_n hj]
      · rw [r3 i hi, up_t, pk_un (by omega)]
theorem carry_eq {k8 f o : Nat} (hk : k8 < 11) (hf : f = k8 ∨ f = k8 + 1) (ho : o = 2 * k8 + 1 - f) : ∀ (n i : Nat) (v : Int32) (fI fU : Nat → Int32) (x : zG), i + n = 61 → LR fI fU x →
    LR (fX1_carryEarliest_L6 f o n i v fI fU).1 (fX1_carryEarliest_L6 f o n i v fI fU).2 (fX6_flows_L193 k8 f n i v x) ∧ (∀ j, j ≠ 0 → fX6_flows_L193 k8 f n i v x j = x j) ∧ ∀ i1, (i1 < 100 ∨ 832 ≤ i1) → fX6_flows_L193 k8 f n i v x 0 i1 = x 0 i1 := by
  intro n
  induction n with
  | zero => intro i v fI fU x _ h; unfold fX1_carryEarliest_L6 fX6_flows_L193; exact ⟨h, fun _ _ => rfl, fun _ _ => rfl⟩
  | succ n ih =>
    intro i v fI fU x hn h
    unfold fX1_carryEarliest_L6 fX6_flows_L193
    by_cases hv : v ≤ 0
    · rw [if_pos hv, if_pos hv]
      exact ⟨h, fun _ _ => rfl, fun _ _ => rfl⟩
    · rw [if_neg hv, if_neg hv, jn_eq, jn_eq, jn_eq, jn_eq, jn_eq, min_eq]
      have e : fX1_unitsOf fI fU f i = x 0 (100 + 61 * f + i) := h.2 f i (by omega) (by omega)
      rw [e, sub_neg (x 0 (100 + 61 * f + i)), ← ho]
      generalize (if v ≤ x 0 (100 + 61 * f + i) then v else x 0 (100 + 61 * f + i)) = w
      have l1 := lr_lay (v := -w) h (show f < 12 by omega) (show i < 61 by omega)
      have l2 := lr_lay (v := w) l1 (show o < 12 by omega) (show i < 61 by omega)
      obtain ⟨r1, r2, r3⟩ := ih (i + 1) (v - w) _ _ _ (by omega) l2
      refine ⟨r1, fun j hj => ?_, fun i1 hi => ?_⟩
      · rw [r2 j hj, up_n hj, up_n hj]
      · rw [r3 i1 hi, up_t, pk_un (by omega), up_t, pk_un (by omega)]
/-- the class's land beside the reference, the sums up to o -/
def YR (o : Nat → Int32) (gP g : zG) : Prop := (∀ k, k < 12 → gP 0 k = g 0 k ∧ gP 1 k = g 0 (12 + k) ∧ gP 2 k = g 0 (24 + k) ∧ gP 3 k = g 0 (36 + k)) ∧ LR (gP 8) (gP 9) g ∧
  (gP 10 0 = g 0 89 ∧ gP 10 1 = g 10 1 ∧ gP 10 2 = g 10 2 ∧ gP 10 3 = g 10 3 ∧ gP 10 4 = g 10 4) ∧ (gP 11 0 = g 0 86 + o 0 ∧ gP 11 2 = g 0 88 + o 2 ∧ gP 11 3 = g 0 84 + o 3 ∧ gP 11 4 = g 0 85 + o 4) ∧ (gP 11 1 = g 0 87 + o 1)
/-- snow fell on the cells below n as the reference has it -/
def YS (n : Nat) (gP g : zG) : Prop := ∀ k, k < n → gP 4 k = g 0 (48 + k)
def YG (n : Nat) (gP g : zG) : Prop := ∀ k, k < n → gP 5 k = g 0 (60 + k) - g 0 (72 + k)
theorem surf_eq {o : Nat → Int32} {gP g : zG} (h : YR o gP g) {k : Nat} (hk : k < 12) : fX3_surface gP k = fX6_surfaceOf g k := by
  unfold fX3_surface fX6_surfaceOf
  rw [(h.1 k hk).1, h.2.1.1 k hk, Nat.zero_add]
theorem sea_eq {o : Nat → Int32} {gP g : zG} (h : YR o gP g) {k : Nat} (hk : k < 12) : fX3_standsInSea gP k = fX6_isInSea g k := by
  unfold fX3_standsInSea fX6_isInSea
  rw [(h.1 k hk).1, h.2.2.1.2.1, Nat.zero_add]
theorem pot_eq {o : Nat → Int32} {gP g : zG} (h : YR o gP g) {k : Nat} (hk : k < 12) : fX3_potential gP k = fX6_potentialOf g k := by
  unfold fX3_potential fX6_potentialOf
  rw [(h.1 k hk).1, h.2.1.1 k hk, Nat.zero_add]
theorem year_run {o : Nat → Int32} {gP g : zG} {k : Nat} (hk : k < 12) (h : YR o gP g) : YR o (fX3_runOff gP k) (mRun k g) ∧ (∀ j, j ≠ 2 → j ≠ 11 → fX3_runOff gP k j = gP j) ∧ (∀ i, (i < 24 ∨ 36 ≤ i) → i ≠ 84 → mRun k g 0 i = g 0 i) := by
  have hs := sea_eq h hk
  have w2 := (h.1 k hk).2.2.1
  obtain ⟨h1, h2, h3, ⟨s0, s2, s3, s4⟩, s1⟩ := id h
  -- into the sea
  have A : YR o (va_up (va_up gP 11 (upd (gP 11) 3 (gP 11 3 + gP 2 k))) 2 (upd (gP 2) k 0)) (va_up (va_up g 0 (upd (g 0) 84 (g 0 84 + g 0 (24 + k)))) 0 (upd (upd (g 0) 84 (g 0 84 + g 0 (24 + k))) (24 + k) 0)) := by
    have t : ∀ i, i ≠ 84 → i ≠ 24 + k → va_up (va_up g 0 (upd (g 0) 84 (g 0 84 + g 0 (24 + k)))) 0 (upd (upd (g 0) 84 (g 0 84 + g 0 (24 + k))) (24 + k) 0) 0 i = g 0 i := fun i a b => by rw [up_t, pk_un b, pk_un a]
    refine ⟨fun c hc => ?_, lr_c h2 (fun i a b => t i (by omega) (by omega)), ?_, ⟨?_, ?_, ?_, ?_⟩, ?_⟩
    · rw [t c (by omega) (by omega), t (12 + c) (by omega) (by omega), t (36 + c) (by omega) (by omega)]
      refine ⟨(h1 c hc).1, (h1 c hc).2.1, ?_, (h1 c hc).2.2.2⟩
      rw [up_t, up_t]
      by_cases e : c = k
      · subst e
        rw [pk_us, pk_us]
      · rw [pk_un e, pk_un (by omega), pk_un (by omega)]
        exact (h1 c hc).2.2.1
    · rw [t 89 (by omega) (by omega)]
      exact h3
    · rw [t 86 (by omega) (by omega)]
      show upd (gP 11) 3 (gP 11 3 + gP 2 k) 0 = _
      rw [pk_un (by decide)]
      exact s0
    · rw [t 88 (by omega) (by omega)]
      show upd (gP 11) 3 (gP 11 3 + gP 2 k) 2 = _
      rw [pk_un (by decide)]
      exact s2
    · show upd (gP 11) 3 (gP 11 3 + gP 2 k) 3 = _
      rw [pk_us, up_t, pk_un (by omega), pk_us, s3, w2, Int32.add_assoc, Int32.add_comm (o 3), ← Int32.add_assoc]
    · rw [t 85 (by omega) (by omega)]
      show upd (gP 11) 3 (gP 11 3 + gP 2 k) 4 = _
      rw [pk_un (by decide)]
      exact s4
    · rw [t 87 (by omega) (by omega)]
      show upd (gP 11) 3 (gP 11 3 + gP 2 k) 1 = _
      rw [pk_un (by decide)]
      exact s1
  unfold fX3_runOff mRun
  simp only [jn_eq]
  generalize h7 : (if fX6_isInSea g k = 0 then (if k = 11 then (1 : Int32) else 0) else 1) = v7
  by_cases c : v7 = 0
  · have h11 := run_ne h7.symm c
    have hsea : fX6_isInSea g k = 0 := by
      by_cases q : fX6_isInSea g k = 0
      · exact q
      · rw [if_neg q] at h7
        rw [← h7] at c
        exact absurd c (by decide)
    simp only [if_pos c, if_neg h11, hs, if_pos hsea]
    have ew : (if k = 0 then k + 1 else if fX3_potential gP (k + 1) ≤ fX3_potential gP (k - 1) then k + 1 else k - 1) = (if k = 0 then k + 1 else if fX6_potentialOf g (k - 1) < fX6_potentialOf g (k + 1) then k - 1 else k + 1) := by
      by_cases q : k = 0
      · rw [if_pos q, if_pos q]
      · rw [if_neg q, if_neg q, pot_eq h (show k + 1 < 12 by omega), pot_eq h (show k - 1 < 12 by omega)]
        by_cases q2 : fX6_potentialOf g (k - 1) < fX6_potentialOf g (k + 1)
        · rw [if_pos q2, if_neg (fa_of_lt q2).2.1]
        · rw [if_neg q2, if_pos (fa_of_nlt q2)]
    simp only [ew]
    have hwk : (if k = 0 then k + 1 else if fX6_potentialOf g (k - 1) < fX6_potentialOf g (k + 1) then k - 1 else k + 1) < 12 ∧ (if k = 0 then k + 1 else if fX6_potentialOf g (k - 1) < fX6_potentialOf g (k + 1) then k - 1 else k + 1) ≠ k := by
      split
      · omega
      · split <;> omega
    generalize (if k = 0 then k + 1 else if fX6_potentialOf g (k - 1) < fX6_potentialOf g (k + 1) then k - 1 else k + 1) = w at hwk
    simp only [pot_eq h hk, pot_eq h hwk.1]
    by_cases q : fX6_potentialOf g k ≤ fX6_potentialOf g w
    · simp only [if_pos q]
      exact ⟨h, fun _ _ _ => trivial, fun _ _ _ => trivial⟩
    · simp only [if_neg q]
      have t : ∀ i, i ≠ 24 + w → i ≠ 24 + k → va_up (va_up g 0 (upd (g 0) (24 + w) (g 0 (24 + w) + g 0 (24 + k)))) 0 (upd (upd (g 0) (24 + w) (g 0 (24 + w) + g 0 (24 + k))) (24 + k) 0) 0 i = g 0 i := fun i a b => by rw [up_t, pk_un b, pk_un a]
      refine ⟨⟨fun c9 hc => ?_, lr_c h2 (fun i a b => t i (by omega) (by omega)), ?_, ⟨?_, ?_, ?_, ?_⟩, ?_⟩, fun j a b => ?_, fun i a b => t i (by omega) (by omega)⟩
      · rw [t c9 (by omega) (by omega), t (12 + c9) (by omega) (by omega), t (36 + c9) (by omega) (by omega)]
        refine ⟨(h1 c9 hc).1, (h1 c9 hc).2.1, ?_, (h1 c9 hc).2.2.2⟩
        rw [up_t, up_t]
        by_cases e : c9 = k
        · subst e
          rw [pk_us, pk_us]
        · rw [pk_un e, pk_un (j := 24 + c9) (k := 24 + k) (by omega)]
          by_cases e2 : c9 = w
          · subst e2
            rw [pk_us, pk_us, (h1 c9 hc).2.2.1, w2]
          · rw [pk_un e2, pk_un (by omega)]
            exact (h1 c9 hc).2.2.1
      · rw [t 89 (by omega) (by omega)]
        exact h3
      · rw [t 86 (by omega) (by omega)]
        exact s0
      · rw [t 88 (by omega) (by omega)]
        exact s2
      · rw [t 84 (by omega) (by omega)]
        exact s3
      · rw [t 85 (by omega) (by omega)]
        exact s4
      · rw [t 87 (by omega) (by omega)]
        exact s1
      · rw [up_n a, up_n a]
  · simp only [if_neg c]
    have t : ∀ i, i ≠ 84 → i ≠ 24 + k → va_up (va_up g 0 (upd (g 0) 84 (g 0 84 + g 0 (24 + k)))) 0 (upd (upd (g 0) 84 (g 0 84 + g 0 (24 + k))) (24 + k) 0) 0 i = g 0 i := fun i a b => by rw [up_t, pk_un b, pk_un a]
    by_cases q : k = 11
    · simp only [if_pos q]
      exact ⟨A, fun j a b => by rw [up_n a, up_n b], fun i a b => t i b (by omega)⟩
    · simp only [if_neg q]
      have hsea : ¬ fX3_standsInSea gP k = 0 := fun e => by
        rw [hs] at e
        rw [if_pos e, if_neg q] at h7
        exact c h7.symm
      simp only [if_neg hsea]
      exact ⟨A, fun j a b => by rw [up_n a, up_n b], fun i a b => t i b (by omega)⟩
