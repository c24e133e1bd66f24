def GI (k : Nat) (f : Nat → Int32) : Prop := ∀ c, c < 12 → -500000 ≤ (f c).toInt ∧ (f c).toInt ≤ 500000 ∧ (k ≤ c → -250000 ≤ (f c).toInt ∧ (f c).toInt ≤ 250000) ∧ (k < c → (f c).toInt = 0)
theorem gi_step {k : Nat} {f : Nat → Int32} {v : Int32} (hk : k < 11) (h : GI k f) (hv : -250000 ≤ v.toInt ∧ v.toInt ≤ 250000) : GI (k + 1) (upd (upd f k (f k - v)) (k + 1) (f (k + 1) + v)) := by
  intro c hc
  have a := h k (by omega)
  have b := h (k + 1) (by omega)
  by_cases e : c = k + 1
  · subst e
    rw [pk_us, add_t (by omega) (by omega)]
    omega
  · rw [pk_un e]
    by_cases e2 : c = k
    · subst e2
      rw [pk_us, sub_t (by omega) (by omega)]
      omega
    · rw [pk_un e2]
      have := h c hc
      omega
theorem gain_L : ∀ (n k : Nat) (x : zG), k + n = 11 → (∀ c, c < 11 → -250000 ≤ (x 6 c).toInt ∧ (x 6 c).toInt ≤ 250000) → GI k (x 5) → ∀ c, c < 12 → -500000 ≤ (fX3_flow_L48 n k x 5 c).toInt := by
  intro n
  induction n with
  | zero =>
    intro k x hk h6 h c hc
    unfold fX3_flow_L48
    exact (h c hc).1
  | succ n ih =>
    intro k x hk h6 h c hc
    have hs := gi_step (show k < 11 by omega) h (h6 k (by omega))
    have P5 : upd (x 5) k (x 5 k - x 6 k) (k + 1) = x 5 (k + 1) := pk_un (by omega)
    unfold fX3_flow_L48
    simp only [jn_eq, P5]
    split
    · split
      · refine ih (k + 1) _ (by omega) ?_ ?_ c hc
        · exact h6
        · exact hs
      · refine ih (k + 1) _ (by omega) ?_ ?_ c hc
        · exact h6
        · exact hs
    · refine ih (k + 1) _ (by omega) ?_ ?_ c hc
      · exact h6
      · exact hs
theorem v32_b {g : zG} {k b yr fb bb : Nat} (hk : k < 11) (hm : MP g b yr fb bb) (hb : b ≤ 1000000) (hbb : bb ≤ 1000) : -250000 ≤ (v32 g k).toInt ∧ (v32 g k).toInt ≤ 250000 := by
  have h1 := ml_cell hm.2.1 (k := k) (by omega)
  have h2 := ml_cell hm.2.1 (k := k + 1) (by omega)
  have e0 : (0 : Int32).toInt = 0 := rfl
  unfold v32
  split
  · split
    · rw [e0]; omega
    · rename_i q1 q2
      have hf := flow_rng hm (k := k + 1) (j := k) (by omega) (by omega) hb hbb q2
      rw [Int32.toInt_neg, Int.bmod_eq_of_le (by omega) (by omega)]
      omega
  · rename_i q1
    have hf := flow_rng hm (k := k) (j := k + 1) (by omega) (by omega) hb hbb q1
    omega
/-- what a cell gained in a year is not large -/
theorem gain_b {o : Nat → Int32} {gP g : zG} {b yr fb bb : Nat} (h : YR o gP g) (hm : MP g b yr fb bb) (hb : b ≤ 1000000) (hbb : bb ≤ 1000) : ∀ c, c < 12 → -500000 ≤ (fX3_flow gP 5 c).toInt := by
  obtain ⟨x1, a1, a2, a3⟩ := cA (gP := gP) 11 0 gP rfl (fun _ _ => rfl) (fun c hc => by omega)
  obtain ⟨x2, b1, b2, b3, -⟩ := cZ 12 0 x1 rfl
  have e0 : (0 : Int32).toInt = 0 := rfl
  unfold fX3_flow
  rw [a1, b1]
  refine gain_L 11 0 x2 rfl (fun c hc => ?_) (fun c hc => ?_)
  · rw [b2 6 (by decide), a3 c hc, next_eq hc h hm hb hbb]
    exact v32_b hc hm hb hbb
  · rw [b3 c (by omega) hc, e0]
    omega
