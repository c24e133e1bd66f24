theorem lS_c {S T : Nat → Int32} {k : Nat} : ∀ n : Nat, (∀ j, j < n → T (100 + 61 * k + j) = S (100 + 61 * k + j)) → lS T k n = lS S k n := by
  intro n
  induction n with
  | zero => intro _; rfl
  | succ n ih =>
    intro h
    show lS T k n + _ = lS S k n + _
    rw [ih (fun j hj => h j (by omega)), h n (by omega)]
theorem lS_upd {S T : Nat → Int32} {k y : Nat} {d : Int} (h1 : (T (100 + 61 * k + y)).toInt = (S (100 + 61 * k + y)).toInt + d) (h : ∀ j, j ≠ y → T (100 + 61 * k + j) = S (100 + 61 * k + j)) : ∀ n : Nat, y < n → lS T k n = lS S k n + d := by
  intro n
  induction n with
  | zero => intro hn; omega
  | succ n ih =>
    intro hn
    show lS T k n + _ = lS S k n + _ + d
    by_cases e : n = y
    · subst e
      rw [h1, lS_c n (fun j hj => h j (by omega))]
      omega
    · rw [ih (by omega), h n e]
      omega
theorem tS_c {S T : Nat → Int32} : ∀ n : Nat, (∀ k, k < n → lS T k 61 = lS S k 61) → tS T n = tS S n := by
  intro n
  induction n with
  | zero => intro _; rfl
  | succ n ih =>
    intro h
    show tS T n + _ = tS S n + _
    rw [ih (fun j hj => h j (by omega)), h n (by omega)]
theorem tS_d {S T : Nat → Int32} {c : Nat} {d : Int} (h1 : lS T c 61 = lS S c 61 + d) (h : ∀ k, k ≠ c → lS T k 61 = lS S k 61) : ∀ n : Nat, c < n → tS T n = tS S n + d := by
  intro n
  induction n with
  | zero => intro hn; omega
  | succ n ih =>
    intro hn
    show tS T n + _ = tS S n + _ + d
    by_cases e : n = c
    · subst e
      rw [h1, tS_c n (fun k hk => h k (by omega))]
      omega
    · rw [ih (by omega), h n e]
      omega
/-- one layer of one cell changes by d -/
theorem tS_upd {S T : Nat → Int32} {c y : Nat} {d : Int} (hc : c < 12) (hy : y < 61) (h1 : (T (100 + 61 * c + y)).toInt = (S (100 + 61 * c + y)).toInt + d) (h : ∀ i, 100 ≤ i → i < 832 → i ≠ 100 + 61 * c + y → T i = S i) : (∀ k, k < 12 → k ≠ c → lS T k 61 = lS S k 61) ∧ lS T c 61 = lS S c 61 + d ∧ tS T 12 = tS S 12 + d := by
  have h2 : ∀ k, k < 12 → k ≠ c → lS T k 61 = lS S k 61 := fun k hk hkc => lS_c 61 (fun j hj => h _ (by omega) (by omega) (by omega))
  have h3 : lS T c 61 = lS S c 61 + d := by
    have e : lS T c 61 = lS (fun i => if i = 100 + 61 * c + y then T i else S i) c 61 := lS_c 61 (fun j hj => by
      by_cases e : 100 + 61 * c + j = 100 + 61 * c + y
      · rw [if_pos e]
      · rw [if_neg e]
        exact h _ (by omega) (by omega) e)
    rw [e]
    exact lS_upd (by rw [if_pos rfl]; exact h1) (fun j hj => if_neg (by omega)) 61 hy
  refine ⟨h2, h3, ?_⟩
  have e : ∀ n, n ≤ 12 → tS T n = tS S n + (if c < n then d else 0) := by
    intro n
    induction n with
    | zero => intro _; rw [if_neg (by omega)]; rfl
    | succ n ih =>
      intro hn
      show tS T n + _ = tS S n + _ + _
      rw [ih (by omega)]
      by_cases e : n = c
      · subst e
        rw [h3, if_neg (by omega), if_pos (by omega)]
        omega
      · rw [h2 n (by omega) e]
        by_cases e2 : c < n
        · rw [if_pos e2, if_pos (by omega)]; omega
        · rw [if_neg e2, if_neg (by omega)]; omega
  rw [e 12 (Nat.le_refl 12), if_pos hc]
theorem lS_pos {S : Nat → Int32} {k : Nat} : ∀ n : Nat, (∀ j, j < n → 0 ≤ (S (100 + 61 * k + j)).toInt) → 0 ≤ lS S k n := by
  intro n
  induction n with
  | zero => intro _; exact Int.le_refl 0
  | succ n ih =>
    intro h
    show 0 ≤ lS S k n + _
    have h1 := ih (fun j hj => h j (by omega))
    have h2 := h n (by omega)
    omega
theorem lS_mono {S : Nat → Int32} {k : Nat} (h : ∀ j, j < 61 → 0 ≤ (S (100 + 61 * k + j)).toInt) : ∀ n : Nat, n ≤ 61 → ∀ i : Nat, i < n → lS S k i + (S (100 + 61 * k + i)).toInt ≤ lS S k n := by
  intro n
  induction n with
  | zero => intro _ i hi; omega
  | succ n ih =>
    intro hn i hi
    show _ ≤ lS S k n + _
    have h2 := h n (by omega)
    by_cases e : i = n
    · subst e; omega
    · have h1 := ih (by omega) i (by omega)
      omega
theorem lS_le {S : Nat → Int32} {k : Nat} (h : ∀ j, j < 61 → 0 ≤ (S (100 + 61 * k + j)).toInt) {n : Nat} (hn : n ≤ 61) : lS S k n ≤ lS S k 61 := by
  by_cases e : n = 61
  · rw [e]; exact Int.le_refl _
  · have h1 := lS_mono h 61 (Nat.le_refl _) n (by omega)
    have h2 := h n (by omega)
    omega
theorem tS_mono {S : Nat → Int32} (h : ∀ k j, k < 12 → j < 61 → 0 ≤ (S (100 + 61 * k + j)).toInt) : ∀ n : Nat, n ≤ 12 → 0 ≤ tS S n ∧ ∀ k : Nat, k < n → lS S k 61 ≤ tS S n := by
  intro n
  induction n with
  | zero => intro _; exact ⟨Int.le_refl 0, fun k hk => by omega⟩
  | succ n ih =>
    intro hn
    obtain ⟨h1, h2⟩ := ih (by omega)
    have h3 := lS_pos (S := S) (k := n) 61 (fun j hj => h n j (by omega) hj)
    refine ⟨?_, fun k hk => ?_⟩
    · show 0 ≤ tS S n + lS S n 61
      omega
    · show _ ≤ tS S n + lS S n 61
      by_cases e : k = n
      · subst e; omega
      · have h4 := h2 k (by omega)
        omega
theorem ml_cell {S : Nat → Int32} {b k : Nat} (h : ML S b) (hk : k < 12) : 0 ≤ lS S k 61 ∧ lS S k 61 ≤ b := by
  have h1 := tS_mono h.1 12 (Nat.le_refl _)
  have h2 := h1.2 k hk
  have h3 := lS_pos (S := S) (k := k) 61 (fun j hj => h.1 k j hk hj)
  have h4 := h.2
  omega
theorem ml_layer {S : Nat → Int32} {b k j : Nat} (h : ML S b) (hk : k < 12) (hj : j < 61) : 0 ≤ (S (100 + 61 * k + j)).toInt ∧ (S (100 + 61 * k + j)).toInt ≤ b := by
  have h1 := ml_cell h hk
  have h2 := lS_mono (S := S) (k := k) (fun j hj => h.1 k j hk hj) 61 (Nat.le_refl _) j hj
  have h3 := lS_pos (S := S) (k := k) j (fun i hi => h.1 k i hk (by omega))
  have h4 := h.1 k j hk hj
  omega
theorem iceOf_t {g : zG} {b k : Nat} (h : ML (g 0) b) (hk : k < 12) (hb : b ≤ 2000000000) : (fX6_iceOf g k).toInt = lS (g 0) k 61 := by
  have hp := fun j hj => h.1 k j hk hj
  have hc := ml_cell h hk
  have H : ∀ (n i : Nat) (x : Int32), i + n = 61 → x.toInt = lS (g 0) k i → (fX6_iceOf_L4 g k n i x).toInt = lS (g 0) k 61 := by
    intro n
    induction n with
    | zero => intro i x hi hx; unfold fX6_iceOf_L4; rw [hx, show i = 61 by omega]
    | succ n ih =>
      intro i x hi hx
      unfold fX6_iceOf_L4
      have h1 := lS_mono hp 61 (Nat.le_refl _) i (by omega)
      have h2 := lS_pos (S := g 0) (k := k) i (fun j hj => hp j (by omega))
      have h3 := hp i (by omega)
      refine ih (i + 1) _ (by omega) ?_
      rw [add_t (by omega) (by omega), hx]
      rfl
  exact H 61 0 0 rfl rfl
