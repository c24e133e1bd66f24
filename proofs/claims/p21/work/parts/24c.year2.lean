theorem least_eq {o : Nat → Int32} {gP g : zG} (h : YR o gP g) {k : Nat} (hk : k < 12) : fX3_leastIceBeside (va_up gP 7 (upd (gP 7) k 0)) k = fX6_least g k := by
  unfold fX3_leastIceBeside fX6_least
  have e8 : va_up gP 7 (upd (gP 7) k 0) 8 = gP 8 := rfl
  simp only [jn_eq, e8]
  have e1 : (if k = 0 then (0 : Int32) else gP 8 (k - 1)) = (if k = 0 then 0 else fX6_iceOf g (k - 1)) := by
    by_cases c : k = 0
    · rw [if_pos c, if_pos c]
    · rw [if_neg c, if_neg c, h.2.1.1 (k - 1) (by omega)]
  have e2 : (if 11 ≤ k then (0 : Int32) else gP 8 (k + 1)) = (if 11 ≤ k then 0 else fX6_iceOf g (k + 1)) := by
    by_cases c : 11 ≤ k
    · rw [if_pos c, if_pos c]
    · rw [if_neg c, if_neg c, h.2.1.1 (k + 1) (by omega)]
  rw [e1, e2]
  generalize (if k = 0 then (0 : Int32) else fX6_iceOf g (k - 1)) = a
  generalize (if 11 ≤ k then (0 : Int32) else fX6_iceOf g (k + 1)) = b
  by_cases c1 : a = 0
  · rw [if_pos c1, if_pos c1]
  · rw [if_neg c1, if_neg c1]
    by_cases c2 : b = 0
    · rw [if_pos c2, if_pos c2]
    · rw [if_neg c2, if_neg c2]
      by_cases c3 : b < a
      · rw [if_pos c3, if_pos (fa_of_lt c3).1]
      · rw [if_neg c3]
        by_cases c4 : b ≤ a
        · rw [if_pos c4]
          rw [fa_lt] at c3
          rw [fa_le] at c4
          exact (fa_eq a b).mpr (by omega)
        · rw [if_neg c4]
/-- a flood of k: the class marks what burst, the reference writes it down -/
def gBurst (g : zG) (k : Nat) : zG := va_up (va_up (va_up (va_up (va_up (va_up g 3 (upd (g 3) (g 0 90).toNatClampNeg (g 0 89))) 4 (upd (g 4) (g 0 90).toNatClampNeg (nI k))) 5 (upd (g 5) (g 0 90).toNatClampNeg (g 0 (24 + k)))) 0 (upd (g 0) 90 (g 0 90 + 1))) 0 (upd (upd (g 0) 90 (g 0 90 + 1)) 84 (g 0 84 + g 0 (24 + k)))) 0 (upd (upd (upd (g 0) 90 (g 0 90 + 1)) 84 (g 0 84 + g 0 (24 + k))) (24 + k) 0)
theorem year_break {o : Nat → Int32} {gP g : zG} {k : Nat} (hk : k < 12) (h : YR o gP g) : YR o (fX3_breakOut gP k) (mBreak k g) ∧ (∀ j, j ≠ 2 → j ≠ 7 → j ≠ 11 → fX3_breakOut gP k j = gP j) ∧ (∀ c, c ≠ k → fX3_breakOut gP k 7 c = gP 7 c) ∧ ((fX3_breakOut gP k 7 k = 0 ∧ mBreak k g = g) ∨ (10 ≤ (g 0 (24 + k)).toInt ∧ fX3_breakOut gP k 7 k = g 0 (24 + k) ∧ mBreak k g = gBurst g k)) := by
  have hl := least_eq h hk
  have w2 := (h.1 k hk).2.2.1
  obtain ⟨h1, h2, h3, ⟨s0, s2, s3, s4⟩, s1⟩ := id h
  have Y0 : YR o (va_up gP 7 (upd (gP 7) k 0)) g := h
  have N0 : ∀ c, c ≠ k → va_up gP 7 (upd (gP 7) k 0) 7 c = gP 7 c := fun c hc => by rw [up_t, pk_un hc]
  have N1 : va_up gP 7 (upd (gP 7) k 0) 7 k = 0 := by rw [up_t, pk_us]
  have J0 : ∀ j, j ≠ 2 → j ≠ 7 → j ≠ 11 → va_up gP 7 (upd (gP 7) k 0) j = gP j := fun j _ a _ => up_n a
  unfold fX3_breakOut mBreak
  simp only [jn_eq, hl, w2]
  by_cases c1 : g 0 (24 + k) < 10
  · simp only [if_pos c1]
    exact ⟨Y0, J0, N0, Or.inl ⟨N1, trivial⟩⟩
  · simp only [if_neg c1]
    by_cases c2 : fX6_least g k ≤ 0
    · simp only [if_pos c2]
      exact ⟨Y0, J0, N0, Or.inl ⟨N1, trivial⟩⟩
    · simp only [if_neg c2]
      by_cases c3 : 10 * g 0 (24 + k) ≤ 9 * fX6_least g k
      · simp only [if_pos c3]
        exact ⟨Y0, J0, N0, Or.inl ⟨N1, trivial⟩⟩
      · simp only [if_neg c3]
        have t : ∀ i, i ≠ 90 → i ≠ 84 → i ≠ 24 + k → gBurst g k 0 i = g 0 i := fun i a b c => by
          unfold gBurst
          rw [up_t, pk_un c, pk_un b, pk_un a]
        have t84 : gBurst g k 0 84 = g 0 84 + g 0 (24 + k) := by
          unfold gBurst
          rw [up_t, pk_un (by omega), pk_us]
        have tk : gBurst g k 0 (24 + k) = 0 := by
          unfold gBurst
          rw [up_t, pk_us]
        have t10 : gBurst g k 10 = g 10 := rfl
        have e10 : (10 : Int32).toInt = 10 := rfl
        rw [fa_lt, e10] at c1
        refine ⟨?_, fun j a b c => ?_, fun c hc => ?_, Or.inr ⟨by omega, ?_, rfl⟩⟩
        · show YR o _ (gBurst g k)
          refine ⟨fun c hc => ?_, lr_c h2 (fun i a b => t i (by omega) (by omega) (by omega)), ?_, ⟨?_, ?_, ?_, ?_⟩, ?_⟩
          · rw [t c (by omega) (by omega) (by omega), t (12 + c) (by omega) (by omega) (by omega), t (36 + c) (by omega) (by omega) (by omega)]
            refine ⟨(h1 c hc).1, (h1 c hc).2.1, ?_, (h1 c hc).2.2.2⟩
            rw [up_t]
            by_cases e : c = k
            · subst e
              rw [pk_us, tk]
            · rw [pk_un e, t (24 + c) (by omega) (by omega) (by omega)]
              exact (h1 c hc).2.2.1
          · rw [t 89 (by omega) (by omega) (by omega), t10]
            exact h3
          · rw [t 86 (by omega) (by omega) (by omega), up_n (by decide), up_t, pk_un (by decide)]
            exact s0
          · rw [t 88 (by omega) (by omega) (by omega), up_n (by decide), up_t, pk_un (by decide)]
            exact s2
          · rw [t84, up_n (by decide), up_t, pk_us, s3, Int32.add_assoc, Int32.add_comm (o 3), ← Int32.add_assoc]
          · rw [t 85 (by omega) (by omega) (by omega), up_n (by decide), up_t, pk_un (by decide)]
            exact s4
          · rw [t 87 (by omega) (by omega) (by omega), up_n (by decide), up_t, pk_un (by decide)]
            exact s1
        · rw [up_n a, up_n c, up_n b, up_n b]
        · rw [up_n (by decide), up_n (by decide), up_t, pk_un hc, pk_un hc]
        · rw [up_n (by decide), up_n (by decide), up_t, pk_us]
