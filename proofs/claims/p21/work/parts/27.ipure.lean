theorem needc {v : Int32} (h1 : ¬ v < 0) (h2 : v < 12) : vp_in v 12 := by
  rw [fa_lt] at h1 h2
  exact vp_in_iff.mpr ⟨by have : (0 : Int32).toInt = 0 := rfl; omega, by have : (12 : Int32).toInt = 12 := rfl; omega⟩
theorem needw {v lo hi : Int32} (h : v < lo ∨ hi < v) (h1 : ¬ v < lo) : ¬ v ≤ hi := by
  rcases h with h | h
  · exact absurd h h1
  · rw [fa_lt] at h
    rw [fa_le]
    omega
theorem needl {v w : Int32} (h : v ≤ w) : ¬ w < v := by
  rw [fa_le] at h
  rw [fa_lt]
  omega
theorem landx {v w : Int32} (h : 0 < v ∨ 0 < w) (h1 : ¬ 0 < v) : ¬ w ≤ 0 := by
  rcases h with h | h
  · exact absurd h h1
  · rw [fa_lt] at h
    rw [fa_le]
    omega
theorem fldx {v w : Int32} (h : v < 0 ∨ w ≤ v) (h1 : ¬ v < 0) : ¬ v < w := by
  rcases h with h | h
  · exact absurd h h1
  · exact needl h
theorem nlt_max (v : Int32) : ¬ 2147483647 < v := by
  rw [fa_lt]
  have := (fb_rng v).2
  have e : (2147483647 : Int32).toInt = 2147483647 := rfl
  omega
theorem nn_nat {x : Int32} {n : Nat} (hn : n < 2 ^ 31) (h : ∃ fl, fl ≤ n ∧ x = nI fl) : nI x.toNatClampNeg = x ∧ x.toNatClampNeg ≤ n := by
  obtain ⟨fl, h1, rfl⟩ := h
  rw [nI_clamp (by omega)]
  exact ⟨rfl, h1⟩
theorem note_nat {x : Int32} (h : ∃ fl, fl ≤ 720 ∧ x = nI fl) : nI x.toNatClampNeg = x := (nn_nat (by decide) h).1
theorem keep_nat {x : Int32} (h : ∃ fl, fl ≤ 10 ∧ x = nI fl) : nI x.toNatClampNeg = x := (nn_nat (by decide) h).1
theorem note_keep {x : Int32} (h : ∃ fl, fl ≤ 720 ∧ x = nI fl) (hc : ¬ 720 ≤ x) : ∃ fl, fl ≤ 720 ∧ x + 1 = nI fl := by
  obtain ⟨fl, h1, rfl⟩ := h
  rw [fa_le, nI_toInt (by omega)] at hc
  have : (720 : Int32).toInt = 720 := rfl
  exact ⟨fl + 1, by omega, nI_1 fl⟩
theorem note_lt {x : Int32} (h : ∃ fl, fl ≤ 720 ∧ x = nI fl) (hc : ¬ 720 ≤ x) : x.toNatClampNeg < 720 := by
  obtain ⟨fl, h1, rfl⟩ := h
  rw [fa_le, nI_toInt (by omega)] at hc
  have : (720 : Int32).toInt = 720 := rfl
  rw [nI_clamp (by omega)]
  omega
theorem keep_lt {x : Int32} (h : ∃ fl, fl ≤ 10 ∧ x = nI fl) (hc : ¬ 10 ≤ x) : x.toNatClampNeg < 10 := by
  obtain ⟨fl, h1, rfl⟩ := h
  rw [fa_le, nI_toInt (by omega)] at hc
  have : (10 : Int32).toInt = 10 := rfl
  rw [nI_clamp (by omega)]
  omega
theorem note_flL (g : zG) (n : Nat) : ∀ (k : Nat) (x : zG), (∃ fl, fl ≤ 720 ∧ x 6 0 = nI fl) → ∃ fl, fl ≤ 720 ∧ (fX0_note_L31 g n k x) 6 0 = nI fl := by
  induction n with
  | zero => exact fun k x h => h
  | succ n ih =>
    intro k x h
    unfold fX0_note_L31
    split
    · exact ih _ _ h
    · split
      · exact ih _ _ h
      · rename_i h1 h2
        exact ih _ _ (note_keep h h2)
theorem note_fl {g x : zG} (h : ∃ fl, fl ≤ 720 ∧ x 6 0 = nI fl) : ∃ fl, fl ≤ 720 ∧ (fX0_note x g) 6 0 = nI fl := note_flL g 12 0 _ h
/-- a year changes of row 10 the year and the front alone -/
theorem flow48_10 (n : Nat) : ∀ (k : Nat) (g : zG), (fX3_flow_L48 n k g) 10 = g 10 := by
  induction n with
  | zero => exact fun k g => rfl
  | succ n ih =>
    intro k g
    simp only [fX3_flow_L48, jn]
    (repeat' split) <;> rw [ih] <;> rfl
theorem flow27_10 (n : Nat) : ∀ (k : Nat) (g : zG), (fX3_flow_L27 n k g) 10 = g 10 := by
  induction n with
  | zero => exact fun k g => flow48_10 11 0 g
  | succ n ih =>
    intro k g
    simp only [fX3_flow_L27, jn]
    rw [ih]
    rfl
theorem flow2_10 (n : Nat) : ∀ (k : Nat) (g : zG), (fX3_flow_L2 n k g) 10 = g 10 := by
  induction n with
  | zero => exact fun k g => flow27_10 12 0 g
  | succ n ih =>
    intro k g
    simp only [fX3_flow_L2, jn]
    rw [ih]
    rfl
theorem run_10 (g : zG) (k : Nat) : fX3_runOff g k 10 = g 10 := by
  simp only [fX3_runOff, jn]
  (repeat' split) <;> rfl
theorem break_10 (g : zG) (k : Nat) : fX3_breakOut g k 10 = g 10 := by
  simp only [fX3_breakOut, jn]
  (repeat' split) <;> rfl
theorem calve_10 (n : Nat) : ∀ (g : zG), (fX3_calve_L3 n g) 10 = g 10 := by
  induction n with
  | zero => exact fun g => rfl
  | succ n ih =>
    intro g
    simp only [fX3_calve_L3, jn]
    (repeat' split) <;> first | rfl | (rw [ih]; rfl)
theorem bed_10 (g : zG) (k : Nat) : fX3_moveBed g k 10 = g 10 := by
  simp only [fX3_moveBed, jn]
  (repeat' split) <;> rfl
theorem front_100 (n : Nat) : ∀ (k : Nat) (g : zG), (fX3_markFront_L7 n k g) 10 0 = g 10 0 := by
  induction n with
  | zero =>
    intro k g
    simp only [fX3_markFront_L7, jn]
    (repeat' split) <;> rfl
  | succ n ih =>
    intro k g
    simp only [fX3_markFront_L7, jn]
    (repeat' split) <;> rw [ih] <;> rfl
theorem calve10 (g : zG) : fX3_calve g 10 = g 10 := calve_10 12 g
theorem flow10 (g : zG) : fX3_flow g 10 = g 10 := flow2_10 11 0 g
theorem front10 (g : zG) : fX3_markFront g 10 0 = (va_up g 10 (upd (g 10) 5 (-1))) 10 0 := front_100 12 0 _
theorem gty77 (n : Nat) : ∀ (k : Nat) (g : zG), (fX3_goThroughYear_L77 n k g) 10 0 = g 10 0 := by
  induction n with
  | zero =>
    intro k g
    rw [fX3_goThroughYear_L77, jn_eq]
    exact front10 g
  | succ n ih =>
    intro k g
    rw [fX3_goThroughYear_L77, jn_eq, ih, bed_10]
theorem gty54 (n : Nat) : ∀ (k : Nat) (g : zG), (fX3_goThroughYear_L54 n k g) 10 0 = g 10 0 := by
  induction n with
  | zero =>
    intro k g
    rw [fX3_goThroughYear_L54, jn_eq, gty77, calve10]
  | succ n ih =>
    intro k g
    rw [fX3_goThroughYear_L54, jn_eq, ih, break_10]
theorem gty35 (n : Nat) : ∀ (k : Nat) (g : zG), (fX3_goThroughYear_L35 n k g) 10 0 = g 10 0 := by
  induction n with
  | zero =>
    intro k g
    rw [fX3_goThroughYear_L35, gty54]
  | succ n ih =>
    intro k g
    rw [fX3_goThroughYear_L35, jn_eq, ih, run_10]
theorem gty12 (n : Nat) : ∀ (k : Nat) (g : zG), (fX3_goThroughYear_L12 n k g) 10 0 = g 10 0 := by
  induction n with
  | zero =>
    intro k g
    rw [fX3_goThroughYear_L12, jn_eq, gty35, flow10]
  | succ n ih =>
    intro k g
    rw [fX3_goThroughYear_L12, jn_eq, ih, snow_10]
theorem year_gty (g : zG) : fX3_goThroughYear g 10 0 = g 10 0 + 1 := by
  rw [fX3_goThroughYear, gty12]
  rfl
