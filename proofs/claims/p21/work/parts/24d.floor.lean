theorem xor_sgn (x y : Int32) (hy : 0 ≤ y.toInt) : (0 ≤ x ^^^ y) ↔ 0 ≤ x.toInt := by
  have e0 : (0 : Int32).toInt = 0 := rfl
  have h : decide ((x ^^^ y).toInt < 0) = (decide (x.toInt < 0) ^^ decide (y.toInt < 0)) := by
    have h1 : (x ^^^ y).toBitVec.msb = (x.toBitVec.msb ^^ y.toBitVec.msb) := by rw [Int32.toBitVec_xor, BitVec.msb_xor]
    rw [BitVec.msb_eq_toInt, BitVec.msb_eq_toInt, BitVec.msb_eq_toInt] at h1
    exact h1
  have hd : decide (y.toInt < 0) = false := decide_eq_false (by omega)
  rw [hd, Bool.xor_false] at h
  rw [fa_le, e0]
  have h2 : ((x ^^^ y).toInt < 0) ↔ (x.toInt < 0) := by
    rw [← decide_eq_true_iff (p := (x ^^^ y).toInt < 0), h, decide_eq_true_iff]
  omega
theorem xor_sgn64 (x y : Int64) (hy : 0 ≤ y.toInt) : (0 ≤ x ^^^ y) ↔ 0 ≤ x.toInt := by
  have e0 : (0 : Int64).toInt = 0 := rfl
  have h : decide ((x ^^^ y).toInt < 0) = (decide (x.toInt < 0) ^^ decide (y.toInt < 0)) := by
    have h1 : (x ^^^ y).toBitVec.msb = (x.toBitVec.msb ^^ y.toBitVec.msb) := by rw [Int64.toBitVec_xor, BitVec.msb_xor]
    rw [BitVec.msb_eq_toInt, BitVec.msb_eq_toInt, BitVec.msb_eq_toInt] at h1
    exact h1
  have hd : decide (y.toInt < 0) = false := decide_eq_false (by omega)
  rw [hd, Bool.xor_false] at h
  rw [fa_le64, e0]
  have h2 : ((x ^^^ y).toInt < 0) ↔ (x.toInt < 0) := by
    rw [← decide_eq_true_iff (p := (x ^^^ y).toInt < 0), h, decide_eq_true_iff]
  omega
theorem fd32 (x y : Int32) (n : Int) (hy : y.toInt = n) (hn : n = 2 ∨ n = 3 ∨ n = 4 ∨ n = 10) : (fJ9_floorDiv_7cf53 x y).toInt = x.toInt / n := by
  have hr := fb_rng x
  have hs := xor_sgn x y (by omega)
  have e1 : (1 : Int32).toInt = 1 := by decide
  unfold fJ9_floorDiv_7cf53
  by_cases c : 0 ≤ x.toInt
  · rw [if_pos (hs.mpr c), Int32.toInt_div, hy, Int.tdiv_eq_ediv_of_nonneg c]
    rcases hn with rfl | rfl | rfl | rfl <;> exact Int.bmod_eq_of_le (by omega) (by omega)
  · rw [if_neg (fun q => c (hs.mp q))]
    have ht : x.toInt.tdiv n = -((-x.toInt) / n) := by
      have h1 : x.toInt = -(-x.toInt) := by omega
      rw [h1, Int.neg_tdiv, Int.tdiv_eq_ediv_of_nonneg (by omega)]
      rw [show - - - x.toInt = -x.toInt by omega]
    have hq : (x / y).toInt = -((-x.toInt) / n) := by
      rw [Int32.toInt_div, hy, ht]
      rcases hn with rfl | rfl | rfl | rfl <;> exact Int.bmod_eq_of_le (by omega) (by omega)
    have hm : (x / y * y).toInt = -((-x.toInt) / n) * n := by
      rw [Int32.toInt_mul, hq, hy]
      rcases hn with rfl | rfl | rfl | rfl <;> exact Int.bmod_eq_of_le (by omega) (by omega)
    by_cases c2 : x / y * y = x
    · rw [if_pos c2, hq]
      rw [fa_eq, hm] at c2
      rcases hn with rfl | rfl | rfl | rfl <;> omega
    · rw [if_neg c2]
      rw [fa_eq, hm] at c2
      rw [sub_t (by rw [hq, e1]; rcases hn with rfl | rfl | rfl | rfl <;> omega) (by rw [hq, e1]; rcases hn with rfl | rfl | rfl | rfl <;> omega), hq, e1]
      rcases hn with rfl | rfl | rfl | rfl <;> omega
/-- of a number that is not below 0 -/
theorem fd64 (x : Int64) (hx : 0 ≤ x.toInt) : fJ9_floorDiv_f86c9 x 200 = x / 200 := by
  unfold fJ9_floorDiv_f86c9
  rw [if_pos ((lg_cmp_ge _ _).mpr ((xor_sgn64 x 200 (by decide)).mpr hx))]
theorem half_eq (x : Int32) : fJ9_floorDiv_7cf53 x 2 = x >>> (1 &&& 31) := by
  rw [fa_eq, fd32 x 2 2 (by decide) (Or.inl rfl), pk_shr x _ 1 (by decide), Int.shiftRight_eq_div_pow]
  rfl
theorem div_eq (x y : Int32) (hx : 0 ≤ x.toInt) (hy : 0 ≤ y.toInt) : fJ9_floorDiv_7cf53 x y = x / y := by
  unfold fJ9_floorDiv_7cf53
  rw [if_pos ((xor_sgn x y hy).mpr hx)]
