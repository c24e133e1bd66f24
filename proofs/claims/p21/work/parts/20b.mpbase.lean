theorem in_01 (v lo hi : Int32) : fX6_in v lo hi = 0 ∨ fX6_in v lo hi = 1 := by
  unfold fX6_in
  split
  · exact Or.inl rfl
  · split
    · exact Or.inl rfl
    · exact Or.inr rfl
/-- the sum of a cell's first n layers -/
def lS (S : Nat → Int32) (k : Nat) : Nat → Int
  | 0 => 0
  | n + 1 => lS S k n + (S (100 + 61 * k + n)).toInt
def tS (S : Nat → Int32) : Nat → Int
  | 0 => 0
  | k + 1 => tS S k + lS S k 61
def ML (S : Nat → Int32) (b : Nat) : Prop := (∀ k j, k < 12 → j < 61 → 0 ≤ (S (100 + 61 * k + j)).toInt) ∧ tS S 12 ≤ b
def MP (g : zG) (b yr fb bb : Nat) : Prop := (yr ≤ 60 ∧ g 0 89 = nI yr) ∧ ML (g 0) b ∧ (0 ≤ (g 10 3).toInt ∧ (g 10 3).toInt ≤ 20) ∧ (∀ k, k < 12 → -(bb : Int) ≤ (g 0 k).toInt ∧ (g 0 k).toInt ≤ 500 + bb) ∧ (∃ fl, fl ≤ fb ∧ g 0 90 = nI fl) ∧ (-300 ≤ (g 10 2).toInt ∧ (g 10 2).toInt ≤ 300) ∧ (0 ≤ (g 10 4).toInt ∧ (g 10 4).toInt ≤ 9)
theorem mp_yr {g : zG} {b yr fb bb : Nat} (h : MP g b yr fb bb) : yr ≤ 60 := h.1.1
theorem mp_year {g : zG} {b yr fb bb : Nat} (h : MP g b yr fb bb) : g 0 89 = nI yr := h.1.2
theorem mp_fl {g : zG} {b yr fb bb : Nat} (h : MP g b yr fb bb) : ∃ fl, fl ≤ fb ∧ g 0 90 = nI fl := h.2.2.2.2.1
theorem snow_yr {x1 g12 g13 : zG} {k b yr fb bb : Nat} {v8 c1 : Int32} (hi : MP x1 b yr fb bb) (h12 : g12 = va_up x1 0 (upd (x1 0) (48 + k) v8)) (h13 : g13 = va_up g12 0 (upd (g12 0) 86 c1)) (hk : k < 12) : g13 0 89 = nI yr := by
  rw [h13, h12]
  show upd (upd (x1 0) (48 + k) v8) 86 c1 89 = nI yr
  rw [pk_un (by decide), pk_un (by omega)]
  exact mp_year hi
def TD (S : Nat → Int32) (k n : Nat) (v : Int32) : Prop := (∀ j, j < n → 0 ≤ (S (100 + 61 * k + j)).toInt) ∧ v.toInt ≤ lS S k n
/-- what flows from k, by the ice there was -/
def FA (g : zG) (n : Nat) : Prop := ∀ k, k < n → (g 9 k).toInt * 4 ≤ lS (g 0) k 61 ∧ -(g 9 k).toInt * 4 ≤ lS (g 0) (k + 1) 61
/-- while the ice goes: what cell k can still give -/
def FB (g : zG) (q : Nat → Int) (n : Nat) : Prop := (∀ k, k < 12 → 0 ≤ q k) ∧ (∀ k, k < 11 → (g 9 k).toInt ≤ q k ∧ -(g 9 k).toInt ≤ q (k + 1)) ∧ 3 * q n ≤ lS (g 0) n 61 ∧ ∀ k, n < k → k < 12 → 4 * q k ≤ lS (g 0) k 61
theorem fa_all {g : zG} {n : Nat} (h : FA g n) (hn : n = 11) : FA g 11 := by
  subst hn
  exact h
def FU (S : Nat → Int32) (f k : Nat) (v : Int32) : Prop := (∀ j, j < 61 → 0 ≤ (S (100 + 61 * f + j)).toInt) ∧ v.toInt ≤ lS S f 61 - lS S f k
