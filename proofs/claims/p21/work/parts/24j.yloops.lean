theorem s182_i {k : Nat} (hk : k < 12) : ∀ (n : Nat) (v : Int32) (x : zG), n ≤ 61 → ∀ i, (i < 100 ∨ 832 ≤ i) → fX6_snows_L182 k n v x 0 i = x 0 i := by
  intro n
  induction n with
  | zero => intro v x _ i _; unfold fX6_snows_L182; rfl
  | succ n ih =>
    intro v x hn i hi
    unfold fX6_snows_L182
    split
    · rfl
    · rw [jn_eq, ih _ _ (by omega) i hi, up_t, pk_un (by omega)]
theorem mSnow_i {g : zG} {k b yr fb bb : Nat} (hk : k < 12) (hm : MP g b yr fb bb) {i : Nat} (hi : 832 ≤ i ∨ i = 90 ∨ i = 89) : mSnow k g 0 i = g 0 i := by
  obtain ⟨v7, v8, v17, -, e, -, -⟩ := snow_form hk hm
  have := mp_yr hm
  rw [e, s182_i hk 61 _ _ (Nat.le_refl _) i (by omega)]
  unfold gS
  rw [up_t, pk_un (by omega), pk_un (by omega), pk_un (by omega), pk_un (by omega), pk_un (by omega)]
theorem mSnow_j {g : zG} {k j : Nat} (hj : j ≠ 0) : mSnow k g j = g j := by
  have H1 : ∀ (n : Nat) (v : Int32) (x : zG), fX6_snows_L182 k n v x j = x j := by
    intro n
    induction n with
    | zero => intro v x; unfold fX6_snows_L182; rfl
    | succ n ih =>
      intro v x
      unfold fX6_snows_L182
      split
      · rfl
      · rw [jn_eq, ih, up_n hj]
  unfold mSnow
  simp only [jn_eq]
  rw [H1, up_n hj, up_n hj, up_n hj, up_n hj, up_n hj]
theorem sL {o : Nat → Int32} {b yr fb bb : Nat} (hb : b + 240 ≤ 1000000) (hbb : bb ≤ 1000) : ∀ (n k : Nat) (x y : zG), k + n = 12 → YR o x y → MP y (b + 20 * k) yr fb bb → YS k x y → ∃ x1 : zG, fX3_goThroughYear_L12 n k x = fX3_goThroughYear_L35 12 0 (fX3_flow x1) ∧ YR o x1 (fX6_snows_L2 n k y) ∧ MP (fX6_snows_L2 n k y) (b + 240) yr fb bb ∧ YS 12 x1 (fX6_snows_L2 n k y) ∧ (∀ i, (832 ≤ i ∨ i = 90 ∨ i = 89) → fX6_snows_L2 n k y 0 i = y 0 i) ∧ ∀ j, j ≠ 0 → fX6_snows_L2 n k y j = y j := by
  intro n
  induction n with
  | zero =>
    intro k x y hk h hm hs
    have : k = 12 := by omega
    subst this
    refine ⟨x, ?_, ?_, ?_, ?_, ?_, ?_⟩
    · conv => lhs; unfold fX3_goThroughYear_L12
      rw [jn_eq]
    · unfold fX6_snows_L2; exact h
    · unfold fX6_snows_L2; exact hm
    · unfold fX6_snows_L2; exact hs
    · unfold fX6_snows_L2; exact fun _ _ => rfl
    · unfold fX6_snows_L2; exact fun _ _ => rfl
  | succ n ih =>
    intro k x y hk h hm hs
    obtain ⟨a1, a2, a3, a4, a5⟩ := year_snow (show k < 12 by omega) h hm (by omega) hbb
    have hm2 := mp_snow hm (by omega) hb
    have e : fX6_snows_L2 (n + 1) k y = fX6_snows_L2 n (k + 1) (mSnow k y) := by
      conv => lhs; unfold fX6_snows_L2
      rw [jn_eq]
    obtain ⟨x1, r1, r2, r3, r4, r5, r6⟩ := ih (k + 1) _ _ (by omega) a1 hm2 (fun c hc => by
      by_cases q : c = k
      · subst q
        exact a4
      · rw [a2 c q, a5 c (by omega) q]
        exact hs c (by omega))
    rw [e]
    refine ⟨x1, ?_, r2, r3, r4, fun i hi => by rw [r5 i hi, mSnow_i (by omega) hm hi], fun j hj => by rw [r6 j hj, mSnow_j hj]⟩
    conv => lhs; unfold fX3_goThroughYear_L12
    rw [jn_eq]
    exact r1
theorem rL {o : Nat → Int32} : ∀ (n k : Nat) (x y : zG), k + n = 12 → YR o x y → ∃ x1 : zG, fX3_goThroughYear_L35 n k x = fX3_goThroughYear_L54 12 0 x1 ∧ YR o x1 (fX6_runs_L2 n k y) ∧ (∀ j, j ≠ 2 → j ≠ 11 → x1 j = x j) ∧ ∀ i, (i < 24 ∨ 36 ≤ i) → i ≠ 84 → fX6_runs_L2 n k y 0 i = y 0 i := by
  intro n
  induction n with
  | zero =>
    intro k x y hk h
    refine ⟨x, ?_, ?_, fun _ _ _ => rfl, ?_⟩
    · conv => lhs; unfold fX3_goThroughYear_L35
    · unfold fX6_runs_L2; exact h
    · unfold fX6_runs_L2; exact fun _ _ _ => rfl
  | succ n ih =>
    intro k x y hk h
    obtain ⟨a1, a2, a3⟩ := year_run (show k < 12 by omega) h
    have e : fX6_runs_L2 (n + 1) k y = fX6_runs_L2 n (k + 1) (mRun k y) := by
      conv => lhs; unfold fX6_runs_L2
      rw [jn_eq]
    obtain ⟨x1, r1, r2, r3, r4⟩ := ih (k + 1) _ _ (by omega) a1
    rw [e]
    refine ⟨x1, ?_, r2, fun j p q => by rw [r3 j p q, a2 j p q], fun i p q => by rw [r4 i p q, a3 i p q]⟩
    conv => lhs; unfold fX3_goThroughYear_L35
    rw [jn_eq]
    exact r1
/-- the floods written down, by what burst -/
def fbl (f7 : Nat → Int32) (yI : Int32) : Nat → Nat → zG → zG
  | 0, _, g => g
  | n + 1, k, g => fbl f7 yI n (k + 1) (if 0 < f7 k then va_up (va_up (va_up (va_up g 3 (upd (g 3) (g 0 90).toNatClampNeg yI)) 4 (upd (g 4) (g 0 90).toNatClampNeg (nI k))) 5 (upd (g 5) (g 0 90).toNatClampNeg (f7 k))) 0 (upd (g 0) 90 (g 0 90 + 1)) else g)
def FE (y z : zG) : Prop := y 3 = z 3 ∧ y 4 = z 4 ∧ y 5 = z 5 ∧ y 0 90 = z 0 90
theorem bL {o : Nat → Int32} {yI : Int32} : ∀ (n k : Nat) (x y z : zG), k + n = 12 → YR o x y → y 0 89 = yI → FE y z → ∃ x1 : zG, fX3_goThroughYear_L54 n k x = fX3_goThroughYear_L77 12 0 (fX3_calve x1) ∧ YR o x1 (fX6_breaks_L2 n k y) ∧ (∀ j, j ≠ 2 → j ≠ 7 → j ≠ 11 → x1 j = x j) ∧ (∀ i, (i < 24 ∨ 36 ≤ i) → i ≠ 84 → i ≠ 90 → fX6_breaks_L2 n k y 0 i = y 0 i) ∧ (∀ c, c < k → x1 7 c = x 7 c) ∧ FE (fX6_breaks_L2 n k y) (fbl (x1 7) yI n k z) := by
  intro n
  induction n with
  | zero =>
    intro k x y z hk h hy hf
    refine ⟨x, ?_, ?_, fun _ _ _ _ => rfl, ?_, fun _ _ => rfl, ?_⟩
    · conv => lhs; unfold fX3_goThroughYear_L54
      rw [jn_eq]
    · unfold fX6_breaks_L2; exact h
    · unfold fX6_breaks_L2; exact fun _ _ _ _ => rfl
    · unfold fX6_breaks_L2; exact hf
  | succ n ih =>
    intro k x y z hk h hy hf
    obtain ⟨a1, a2, a3, a4⟩ := year_break (show k < 12 by omega) h
    have e : fX6_breaks_L2 (n + 1) k y = fX6_breaks_L2 n (k + 1) (mBreak k y) := by
      conv => lhs; unfold fX6_breaks_L2
      rw [jn_eq]
    have mi : ∀ i, (i < 24 ∨ 36 ≤ i) → i ≠ 84 → i ≠ 90 → mBreak k y 0 i = y 0 i := fun i p q r => by
      rcases a4 with ⟨-, q2⟩ | ⟨-, -, q2⟩
      · rw [q2]
      · rw [q2]
        unfold gBurst
        rw [up_t, pk_un (by omega), pk_un q, pk_un r]
    have hstep : FE (mBreak k y) (if 0 < fX3_breakOut x k 7 k then va_up (va_up (va_up (va_up z 3 (upd (z 3) (z 0 90).toNatClampNeg yI)) 4 (upd (z 4) (z 0 90).toNatClampNeg (nI k))) 5 (upd (z 5) (z 0 90).toNatClampNeg (fX3_breakOut x k 7 k))) 0 (upd (z 0) 90 (z 0 90 + 1)) else z) := by
      obtain ⟨f3, f4, f5, f9⟩ := hf
      rcases a4 with ⟨q1, q2⟩ | ⟨q0, q1, q2⟩
      · rw [q1, q2, if_neg (by decide)]
        exact ⟨f3, f4, f5, f9⟩
      · have e0 : (0 : Int32).toInt = 0 := rfl
        rw [q1, q2, if_pos (by rw [fa_lt, e0]; omega)]
        refine ⟨?_, ?_, ?_, ?_⟩
        · show upd (y 3) (y 0 90).toNatClampNeg (y 0 89) = upd (z 3) (z 0 90).toNatClampNeg yI
          rw [f3, f9, hy]
        · show upd (y 4) (y 0 90).toNatClampNeg (nI k) = upd (z 4) (z 0 90).toNatClampNeg (nI k)
          rw [f4, f9]
        · show upd (y 5) (y 0 90).toNatClampNeg (y 0 (24 + k)) = upd (z 5) (z 0 90).toNatClampNeg (y 0 (24 + k))
          rw [f5, f9]
        · unfold gBurst
          rw [up_t, pk_un (by omega), pk_un (by decide), pk_us, up_t, pk_us, f9]
    obtain ⟨x1, r1, r2, r3, r4, r5, r6⟩ := ih (k + 1) _ _ _ (by omega) a1 (by rw [mi 89 (by omega) (by omega) (by omega)]; exact hy) hstep
    rw [e]
    refine ⟨x1, ?_, r2, fun j p q r => by rw [r3 j p q r, a2 j p q r], fun i p q r => by rw [r4 i p q r, mi i p q r], fun c hc => by rw [r5 c (by omega), a3 c (by omega)], ?_⟩
    · conv => lhs; unfold fX3_goThroughYear_L54
      rw [jn_eq]
      exact r1
    · show FE _ (fbl (x1 7) yI n (k + 1) (if 0 < x1 7 k then _ else _))
      rw [r5 k (by omega)]
      exact r6
