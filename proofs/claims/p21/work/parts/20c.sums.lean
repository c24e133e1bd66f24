/-! sums of layers -/
theorem add_t {x y : Int32} (h1 : -2147483648 ≤ x.toInt + y.toInt) (h2 : x.toInt + y.toInt ≤ 2147483647) : (x + y).toInt = x.toInt + y.toInt := by
  rw [Int32.toInt_add]
  exact Int.bmod_eq_of_le (by omega) (by omega)
theorem sub_t {x y : Int32} (h1 : -2147483648 ≤ x.toInt - y.toInt) (h2 : x.toInt - y.toInt ≤ 2147483647) : (x - y).toInt = x.toInt - y.toInt := by
  rw [Int32.toInt_sub]
  exact Int.bmod_eq_of_le (by omega) (by omega)
theorem up_t {α : Type} (f : Nat → α) (k : Nat) (v : α) : va_up f k v k = v := by
  unfold va_up
  rw [if_pos rfl]
theorem up_n {α : Type} {f : Nat → α} {k j : Nat} {v : α} (h : j ≠ k) : va_up f k v j = f j := if_neg h
theorem iceOf_c {g g1 : zG} {k : Nat} (h : ∀ j, j < 61 → g1 0 (100 + 61 * k + j) = g 0 (100 + 61 * k + j)) : fX6_iceOf g1 k = fX6_iceOf g k := by
  unfold fX6_iceOf
  have H : ∀ (n i : Nat) (x : Int32), i + n = 61 → fX6_iceOf_L4 g1 k n i x = fX6_iceOf_L4 g k n i x := by
    intro n
    induction n with
    | zero => intro i x _; unfold fX6_iceOf_L4; rfl
    | succ n ih =>
      intro i x hi
      unfold fX6_iceOf_L4
      rw [h i (by omega)]
      exact ih (i + 1) _ (by omega)
  exact H 61 0 0 rfl
theorem iceOf_sh {g : zG} {k : Nat} (v : Int32) : ∀ (n i : Nat) (x : Int32), fX6_iceOf_L4 g k n i (x + v) = fX6_iceOf_L4 g k n i x + v := by
  intro n
  induction n with
  | zero => intro i x; unfold fX6_iceOf_L4; rfl
  | succ n ih =>
    intro i x
    unfold fX6_iceOf_L4
    rw [← ih (i + 1), Int32.add_assoc, Int32.add_comm v, ← Int32.add_assoc]
theorem iceOf_add {g g1 : zG} {k y : Nat} {v : Int32} (hy : y < 61) (h1 : g1 0 (100 + 61 * k + y) = g 0 (100 + 61 * k + y) + v) (h : ∀ j, j < 61 → j ≠ y → g1 0 (100 + 61 * k + j) = g 0 (100 + 61 * k + j)) : fX6_iceOf g1 k = fX6_iceOf g k + v := by
  have H1 : ∀ (n i : Nat) (x : Int32), y < i → i + n = 61 → fX6_iceOf_L4 g1 k n i x = fX6_iceOf_L4 g k n i x := by
    intro n
    induction n with
    | zero => intro i x _ _; unfold fX6_iceOf_L4; rfl
    | succ n ih =>
      intro i x hi hn
      unfold fX6_iceOf_L4
      rw [h i (by omega) (by omega)]
      exact ih (i + 1) _ (by omega) (by omega)
  have H3 : ∀ (n i : Nat) (x : Int32), i ≤ y → i + n = 61 → fX6_iceOf_L4 g1 k n i x = fX6_iceOf_L4 g k n i x + v := by
    intro n
    induction n with
    | zero => intro i x _ _; omega
    | succ n ih =>
      intro i x hi hn
      unfold fX6_iceOf_L4
      by_cases e : i = y
      · subst e
        rw [h1, H1 n (i + 1) _ (by omega) (by omega), ← Int32.add_assoc, iceOf_sh]
      · rw [h i (by omega) e]
        exact ih (i + 1) _ (by omega) (by omega)
  exact H3 61 0 0 (Nat.zero_le y) rfl
