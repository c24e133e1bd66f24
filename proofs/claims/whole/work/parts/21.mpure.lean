theorem in_01 (v lo hi : Int32) : fX6_in v lo hi = 0 ∨ fX6_in v lo hi = 1 := by
  unfold fX6_in
  split
  · exact Or.inl rfl
  · split
    · exact Or.inl rfl
    · exact Or.inr rfl
/-- the sum of a cell's first n layers -/
def lS (S : Nat → Int32) (k : Nat) : Nat → Int
  | 0 => 0
  | n + 1 => lS S k n + (S (100 + 61 * k + n)).toInt
def tS (S : Nat → Int32) : Nat → Int
  | 0 => 0
  | k + 1 => tS S k + lS S k 61
def ML (S : Nat → Int32) (b : Nat) : Prop := (∀ k j, k < 12 → j < 61 → 0 ≤ (S (100 + 61 * k + j)).toInt) ∧ tS S 12 ≤ b
def MP (g : zG) (b yr fb bb : Nat) : Prop := (yr ≤ 60 ∧ g 0 89 = nI yr) ∧ ML (g 0) b ∧ (0 ≤ (g 10 3).toInt ∧ (g 10 3).toInt ≤ 20) ∧ (∀ k, k < 12 → -(bb : Int) ≤ (g 0 k).toInt ∧ (g 0 k).toInt ≤ 500 + bb) ∧ (∃ fl, fl ≤ fb ∧ g 0 90 = nI fl) ∧ (-300 ≤ (g 10 2).toInt ∧ (g 10 2).toInt ≤ 300) ∧ (0 ≤ (g 10 4).toInt ∧ (g 10 4).toInt ≤ 9)
theorem mp_yr {g : zG} {b yr fb bb : Nat} (h : MP g b yr fb bb) : yr ≤ 60 := h.1.1
theorem mp_year {g : zG} {b yr fb bb : Nat} (h : MP g b yr fb bb) : g 0 89 = nI yr := h.1.2
theorem mp_fl {g : zG} {b yr fb bb : Nat} (h : MP g b yr fb bb) : ∃ fl, fl ≤ fb ∧ g 0 90 = nI fl := h.2.2.2.2.1
theorem snow_yr {x1 g12 g13 : zG} {k b yr fb bb : Nat} {v8 c1 : Int32} (hi : MP x1 b yr fb bb) (h12 : g12 = va_up x1 0 (upd (x1 0) (48 + k) v8)) (h13 : g13 = va_up g12 0 (upd (g12 0) 86 c1)) (hk : k < 12) : g13 0 89 = nI yr := by
  rw [h13, h12]
  show upd (upd (x1 0) (48 + k) v8) 86 c1 89 = nI yr
  rw [pk_un (by decide), pk_un (by omega)]
  exact mp_year hi
def TD (S : Nat → Int32) (k n : Nat) (v : Int32) : Prop := (∀ j, j < n → 0 ≤ (S (100 + 61 * k + j)).toInt) ∧ v.toInt ≤ lS S k n
theorem td_zero {S : Nat → Int32} {k : Nat} {v : Int32} (h : TD S k 0 v) : v ≤ 0 := sorry
theorem td_step {S : Nat → Int32} {k n : Nat} {v w : Int32} (h : TD S k (n + 1) v) (hv : ¬ v ≤ 0) (hw : w = if v ≤ S (100 + 61 * k + n) then v else S (100 + 61 * k + n)) : TD (upd S (100 + 61 * k + n) (S (100 + 61 * k + n) - w)) k n (v - w) := sorry
theorem snow_td {x1 g12 g13 g14 g20 g21 : zG} {k b yr fb bb : Nat} {v6 v7 v8 v15 v17 c1 c3 c4 c5 : Int32} (hi : MP x1 b yr fb bb) (hk : k < 12) (hb : b + 20 ≤ 1000000)
    (h12 : g12 = va_up x1 0 (upd (x1 0) (48 + k) v8)) (h13 : g13 = va_up g12 0 (upd (g12 0) 86 c1)) (h14 : g14 = va_up g13 0 (upd (g13 0) (100 + 61 * k + (g13 0 89).toNatClampNeg) (g13 0 (100 + 61 * k + (g13 0 89).toNatClampNeg) + g13 0 (48 + k))))
    (h20 : g20 = va_up g14 0 (upd (g14 0) (24 + k) c4)) (h21 : g21 = va_up g20 0 (upd (g20 0) 88 c5)) (h6 : v6 = fX6_iceOf x1 k) (h7 : v7 = c3) (h8 : v8 = if 0 ≤ v7 then 0 else if 0 < v6 then x1 10 3 else if fX6_isInSea x1 k = 0 then x1 10 3 else 0)
    {c6 : Int32} (h15 : v15 = if v7 ≤ 0 then 0 else c6) (h17 : v17 = if v6 ≤ v15 then (if v7 ≤ 0 then 0 else v6) else v15) : TD (g21 0) k 61 v17 := sorry
theorem mp_snow {x : zG} {k b yr fb bb : Nat} (h : MP x (b + 20 * k) yr fb bb) (hk : k < 12) (hb : b + 240 ≤ 1000000) : MP (mSnow k x) (b + 20 * (k + 1)) yr fb bb := sorry
theorem mp_flow0 {x : zG} {b yr fb bb : Nat} (h : MP x b yr fb bb) (k : Nat) (hk : k < 12) : MP (va_up (va_up x 0 (upd (x 0) (60 + k) 0)) 0 (upd (upd (x 0) (60 + k) 0) (72 + k) 0)) b yr fb bb := sorry
/-- what flows from k, by the ice there was -/
def FA (g : zG) (n : Nat) : Prop := ∀ k, k < n → (g 9 k).toInt * 4 ≤ lS (g 0) k 61 ∧ -(g 9 k).toInt * 4 ≤ lS (g 0) (k + 1) 61
theorem flowA_keep {x : zG} {k b yr fb bb : Nat} (h : MP x b yr fb bb) (hf : FA x k) (hk : k < 11) (hb : b ≤ 1000000) (hbb : bb ≤ 1000) : MP (mFlowA k x) b yr fb bb ∧ FA (mFlowA k x) (k + 1) := sorry
/-- while the ice goes: what cell k can still give -/
def FB (g : zG) (q : Nat → Int) (n : Nat) : Prop := (∀ k, k < 12 → 0 ≤ q k) ∧ (∀ k, k < 11 → (g 9 k).toInt ≤ q k ∧ -(g 9 k).toInt ≤ q (k + 1)) ∧ 3 * q n ≤ lS (g 0) n 61 ∧ ∀ k, n < k → k < 12 → 4 * q k ≤ lS (g 0) k 61
theorem fa_all {g : zG} {n : Nat} (h : FA g n) (hn : n = 11) : FA g 11 := by
  subst hn
  exact h
theorem flowB_init {x : zG} {b yr fb bb : Nat} (h : MP x b yr fb bb) (hb : b ≤ 1000000) (hf : FA x 11) : ∃ q : Nat → Int, FB x q 0 := sorry
theorem flowB_keep {x : zG} {k b yr fb bb : Nat} (h : MP x b yr fb bb ∧ ∃ q : Nat → Int, FB x q k) (hk : k < 11) (hb : b ≤ 1000000) : MP (mFlowB k x) b yr fb bb ∧ ∃ q : Nat → Int, FB (mFlowB k x) q (k + 1) := sorry
def FU (S : Nat → Int32) (f k : Nat) (v : Int32) : Prop := (∀ j, j < 61 → 0 ≤ (S (100 + 61 * f + j)).toInt) ∧ v.toInt ≤ lS S f 61 - lS S f k
theorem fu_zero {S : Nat → Int32} {f k : Nat} {v : Int32} (h : FU S f k v) (hk : k = 61) : v ≤ 0 := sorry
theorem fu_step {x y : zG} {f k i : Nat} {v a w c : Int32} (h : FU (x 0) f k v) (hk : k < 61) (hv : ¬ v ≤ 0) (hf : f = i ∨ f = i + 1) (hi : i < 11) (ha : a = x 0 (100 + 61 * f + k)) (hw : w = if v ≤ a then v else a) (hy : y = va_up x 0 (upd (x 0) (100 + 61 * f + k) (x 0 (100 + 61 * f + k) - w))) : FU (va_up y 0 (upd (y 0) (100 + 61 * (2 * i + 1 - f) + k) c) 0) f (k + 1) (v - w) := sorry
theorem flow_fu {x g16 g17 : zG} {k f b yr fb bb : Nat} {v c1 c2 : Int32} (h : MP x b yr fb bb ∧ ∃ q : Nat → Int, FB x q k) (hk : k < 11) (hf : f = if 0 ≤ x 9 k then k else k + 1) (hv : v = if 0 ≤ x 9 k then x 9 k else -(x 9 k)) (h16 : g16 = va_up x 0 (upd (x 0) (72 + f) c1)) (h17 : g17 = va_up g16 0 (upd (g16 0) (60 + (2 * k + 1 - f)) c2)) : FU (g17 0) f 0 v := sorry
theorem run_ne {k : Nat} {v7 : Int32} {x : zG} (h7 : v7 = if fX6_isInSea x k = 0 then (if k = 11 then 1 else 0) else 1) (h : v7 = 0) : ¬ k = 11 := sorry
theorem run_lt {k : Nat} {v7 : Int32} {x : zG} {w : Nat} (hk : k < 12) (h7 : v7 = if fX6_isInSea x k = 0 then (if k = 11 then 1 else 0) else 1) (hw : w = if v7 = 0 then (if k = 0 then k + 1 else if fX6_potentialOf x (k - 1) < fX6_potentialOf x (k + 1) then k - 1 else k + 1) else k) : w < 12 := sorry
theorem mp_break {x : zG} {k b yr fb bb : Nat} (h : MP x b yr (fb + k) bb) (hk : k < 12) (hfb : fb + 12 ≤ 720) : MP (mBreak k x) b yr (fb + (k + 1)) bb := sorry
theorem front_nat {x : Int32} (h : x.toInt < 12 ∧ -1 ≤ x.toInt) (hx : ¬ x = -1) : nI x.toNatClampNeg = x := sorry
theorem front_lt {x : Int32} (h : x.toInt < 12 ∧ -1 ≤ x.toInt) (hx : ¬ x = -1) : 36 + x.toNatClampNeg < 1024 := sorry
theorem end_keep {x : Int32} {g : zG} {k yr : Nat} (h : g 0 89 = nI yr ∧ x.toInt < 12 ∧ -1 ≤ x.toInt) (hk : k < 12) : (mEnd k x g).2 0 89 = nI yr ∧ (mEnd k x g).1.toInt < 12 ∧ -1 ≤ (mEnd k x g).1.toInt := sorry
theorem mp_year1 {g : zG} {b yr fb bb : Nat} (h : MP g b yr fb bb) (hy : yr < 60) : MP (va_up g 0 (upd (g 0) 89 (g 0 89 + 1))) b (yr + 1) fb bb := sorry
theorem mp_snows {g : zG} {b yr fb bb : Nat} (h : MP g b yr fb bb) (hb : b + 240 ≤ 1000000) : MP (fX6_snows g) (b + 240) yr fb bb := sorry
theorem mp_flows {g : zG} {b yr fb bb : Nat} (h : MP g b yr fb bb) (hb : b ≤ 1000000) (hbb : bb ≤ 1000) : MP (fX6_flows g) b yr fb bb := sorry
theorem mp_runs {g : zG} {b yr fb bb : Nat} (h : MP g b yr fb bb) : MP (fX6_runs g) b yr fb bb := sorry
theorem mp_breaks {g : zG} {b yr fb bb : Nat} (h : MP g b yr fb bb) (hfb : fb + 12 ≤ 720) : MP (fX6_breaks g) b yr (fb + 12) bb := sorry
theorem mp_calves {g : zG} {b yr fb bb : Nat} (h : MP g b yr fb bb) (hb : b ≤ 1000000) : MP (fX6_calves g) b yr fb bb := sorry
theorem mp_ends {g : zG} {b yr fb bb : Nat} (h : MP g b yr fb bb) (hbb : bb < 1000) : MP (fX6_ends g) b yr fb (bb + 1) := sorry
