/-! the water: never below 0, its sum never large -/
def wS (S : Nat → Int32) : Nat → Int
  | 0 => 0
  | k + 1 => wS S k + (S (24 + k)).toInt
def WB (S : Nat → Int32) (b : Nat) : Prop := (∀ k, k < 12 → 0 ≤ (S (24 + k)).toInt) ∧ wS S 12 ≤ b
theorem wS_c {S T : Nat → Int32} : ∀ n : Nat, (∀ k, k < n → T (24 + k) = S (24 + k)) → wS T n = wS S n := by
  intro n
  induction n with
  | zero => intro _; rfl
  | succ n ih =>
    intro h
    show wS T n + _ = wS S n + _
    rw [ih (fun j hj => h j (by omega)), h n (by omega)]
theorem wS_d {S T : Nat → Int32} {c : Nat} {d : Int} (h1 : (T (24 + c)).toInt = (S (24 + c)).toInt + d) (h : ∀ k, k < 12 → k ≠ c → T (24 + k) = S (24 + k)) : ∀ n : Nat, n ≤ 12 → wS T n = wS S n + (if c < n then d else 0) := by
  intro n
  induction n with
  | zero => intro _; rw [if_neg (by omega)]; rfl
  | succ n ih =>
    intro hn
    show wS T n + _ = wS S n + _ + _
    rw [ih (by omega)]
    by_cases e : n = c
    · subst e
      rw [h1, if_neg (by omega), if_pos (by omega)]
      omega
    · rw [h n (by omega) e]
      by_cases e2 : c < n
      · rw [if_pos e2, if_pos (by omega)]; omega
      · rw [if_neg e2, if_neg (by omega)]; omega
theorem wS_le {S : Nat → Int32} (h : ∀ k, k < 12 → 0 ≤ (S (24 + k)).toInt) : ∀ n : Nat, n ≤ 12 → 0 ≤ wS S n ∧ ∀ k, k < n → (S (24 + k)).toInt ≤ wS S n := by
  intro n
  induction n with
  | zero => intro _; exact ⟨Int.le_refl 0, fun k hk => by omega⟩
  | succ n ih =>
    intro hn
    obtain ⟨h1, h2⟩ := ih (by omega)
    have h3 := h n (by omega)
    refine ⟨?_, fun k hk => ?_⟩
    · show 0 ≤ wS S n + _
      omega
    · show _ ≤ wS S n + _
      by_cases e : k = n
      · subst e; omega
      · have := h2 k (by omega)
        omega
theorem wb_c {S T : Nat → Int32} {b : Nat} (h : WB S b) (e : ∀ k, k < 12 → T (24 + k) = S (24 + k)) : WB T b := by
  refine ⟨fun k hk => by rw [e k hk]; exact h.1 k hk, ?_⟩
  rw [wS_c 12 e]
  exact h.2
/-- one cell's water changes by d -/
theorem wb_d {S T : Nat → Int32} {b b1 c : Nat} {d : Int} (h : WB S b) (hc : c < 12) (h1 : (T (24 + c)).toInt = (S (24 + c)).toInt + d) (h0 : 0 ≤ (S (24 + c)).toInt + d) (hb : (b : Int) + d ≤ b1) (e : ∀ k, k < 12 → k ≠ c → T (24 + k) = S (24 + k)) : WB T b1 := by
  refine ⟨fun k hk => ?_, ?_⟩
  · by_cases q : k = c
    · subst q
      rw [h1]
      exact h0
    · rw [e k hk q]
      exact h.1 k hk
  · rw [wS_d h1 e 12 (Nat.le_refl _), if_pos hc]
    have := h.2
    omega
theorem wb_run {g : zG} {k b : Nat} (hk : k < 12) (h : WB (g 0) b) (hb : b ≤ 1000000000) : WB (mRun k g 0) b := by
  have e0 : (0 : Int32).toInt = 0 := rfl
  have hle := wS_le h.1 12 (Nat.le_refl _)
  have h2 := h.2
  have hkk := hle.2 k hk
  have hk0 := h.1 k hk
  unfold mRun
  simp only [jn_eq]
  generalize h7 : (if fX6_isInSea g k = 0 then (if k = 11 then (1 : Int32) else 0) else 1) = v7
  by_cases c : v7 = 0
  · have h11 := run_ne h7.symm c
    simp only [if_pos c]
    have hwk : (if k = 0 then k + 1 else if fX6_potentialOf g (k - 1) < fX6_potentialOf g (k + 1) then k - 1 else k + 1) < 12 ∧ (if k = 0 then k + 1 else if fX6_potentialOf g (k - 1) < fX6_potentialOf g (k + 1) then k - 1 else k + 1) ≠ k := by
      split
      · omega
      · split <;> omega
    generalize (if k = 0 then k + 1 else if fX6_potentialOf g (k - 1) < fX6_potentialOf g (k + 1) then k - 1 else k + 1) = w at hwk
    by_cases q : fX6_potentialOf g k ≤ fX6_potentialOf g w
    · simp only [if_pos q]
      exact h
    · simp only [if_neg q]
      rw [up_t]
      have hw0 := h.1 w hwk.1
      have hww := hle.2 w hwk.1
      have s1 : WB (upd (g 0) (24 + k) 0) b := wb_d (d := -(g 0 (24 + k)).toInt) h hk (by rw [pk_us, e0]; omega) (by omega) (by omega) (fun j _ hj => pk_un (by omega))
      have hsum : (g 0 (24 + w)).toInt + (g 0 (24 + k)).toInt ≤ b := by
        have t1 := wS_d (S := g 0) (T := upd (g 0) (24 + k) 0) (c := k) (d := -(g 0 (24 + k)).toInt) (by rw [pk_us, e0]; omega) (fun j _ hj => pk_un (by omega)) 12 (Nat.le_refl _)
        rw [if_pos hk] at t1
        have t2 := (wS_le s1.1 12 (Nat.le_refl _)).2 w hwk.1
        rw [pk_un (show 24 + w ≠ 24 + k by omega)] at t2
        omega
      refine ⟨fun j hj => ?_, ?_⟩
      · by_cases q1 : j = k
        · subst q1
          rw [pk_us, e0]
          exact Int.le_refl 0
        · rw [pk_un (by omega)]
          by_cases q2 : j = w
          · subst q2
            rw [pk_us, add_t (by omega) (by omega)]
            omega
          · rw [pk_un (by omega)]
            exact h.1 j hj
      · have t1 := wS_d (S := g 0) (T := upd (g 0) (24 + w) (g 0 (24 + w) + g 0 (24 + k))) (c := w) (d := (g 0 (24 + k)).toInt) (by rw [pk_us, add_t (by omega) (by omega)]) (fun j _ hj => pk_un (by omega)) 12 (Nat.le_refl _)
        have t2 := wS_d (S := upd (g 0) (24 + w) (g 0 (24 + w) + g 0 (24 + k))) (T := upd (upd (g 0) (24 + w) (g 0 (24 + w) + g 0 (24 + k))) (24 + k) 0) (c := k) (d := -(g 0 (24 + k)).toInt) (by rw [pk_us, e0, pk_un (show 24 + k ≠ 24 + w by omega)]; omega) (fun j _ hj => pk_un (by omega)) 12 (Nat.le_refl _)
        rw [if_pos hwk.1] at t1
        rw [if_pos hk] at t2
        omega
  · simp only [if_neg c]
    rw [up_t]
    exact wb_d (d := -(g 0 (24 + k)).toInt) h hk (by rw [pk_us, e0]; omega) (by omega) (by omega) (fun j _ hj => by rw [pk_un (by omega), pk_un (by omega)])
theorem wb_break {g : zG} {k b : Nat} (hk : k < 12) (h : WB (g 0) b) : WB (mBreak k g 0) b := by
  have e0 : (0 : Int32).toInt = 0 := rfl
  have hk0 := h.1 k hk
  unfold mBreak
  simp only [jn_eq]
  split
  · exact h
  · split
    · exact h
    · split
      · exact h
      · rw [up_t]
        exact wb_d (d := -(g 0 (24 + k)).toInt) h hk (by rw [pk_us, e0]; omega) (by omega) (by omega) (fun j _ hj => by rw [pk_un (by omega), up_t, pk_un (by omega), up_t, pk_un (by omega)])
theorem wb_snow {g : zG} {k b yr fb bb w : Nat} (hk : k < 12) (hm : MP g b yr fb bb) (hb : b ≤ 1000000) (hbb : bb ≤ 1000) (h : WB (g 0) w) (hw : w ≤ 1000000000) : WB (mSnow k g 0) (w + 1000000) := by
  obtain ⟨v7, v8, v17, h7, e, h8, h17⟩ := snow_form hk hm
  have hy := mp_yr hm
  have hst := surf_t hm hk hb hbb
  have hit := iceOf_t hm.2.1 hk (by omega)
  have hic := ml_cell hm.2.1 hk
  have hwm := hm.2.2.2.2.2.1
  have hfc := hm.2.2.2.2.2.2
  have e0 : (0 : Int32).toInt = 0 := rfl
  have hv7 : v7.toInt ≤ 1000 := by
    have e1 : (fX6_surfaceOf g k >>> (1 &&& 31)).toInt = (fX6_surfaceOf g k).toInt / 2 := by
      rw [pk_shr _ _ 1 (by decide), Int.shiftRight_eq_div_pow]
      rfl
    rw [h7, sub_t (by omega) (by omega), e1]
    omega
  have hv15 : 0 ≤ (if v7 ≤ 0 then (0 : Int32) else v7 * g 10 4 / 10).toInt := by
    by_cases c : v7 ≤ 0
    · rw [if_pos c, e0]
      exact Int.le_refl 0
    · rw [if_neg c]
      rw [fa_le, e0] at c
      have p1 : 0 ≤ v7.toInt * (g 10 4).toInt := Int.mul_nonneg (by omega) hfc.1
      have p2 : v7.toInt * (g 10 4).toInt ≤ 1000 * 9 := Int.mul_le_mul hv7 hfc.2 hfc.1 (by omega)
      have p3 : (v7 * g 10 4).toInt = v7.toInt * (g 10 4).toInt := by
        rw [Int32.toInt_mul]
        exact Int.bmod_eq_of_le (by omega) (by omega)
      have e10 : (10 : Int32).toInt = 10 := by decide
      rw [Int32.toInt_div, p3, e10, Int.tdiv_eq_ediv_of_nonneg p1, Int.bmod_eq_of_le (by omega) (by omega)]
      omega
  have hv17 : 0 ≤ v17.toInt ∧ v17.toInt ≤ 1000000 := by
    rw [h17]
    generalize (if v7 ≤ 0 then (0 : Int32) else v7 * g 10 4 / 10) = v15 at hv15
    by_cases c : fX6_iceOf g k ≤ v15
    · rw [if_pos c]
      split
      · rw [e0]; omega
      · omega
    · rw [if_neg c]
      rw [fa_le] at c
      omega
  have hk0 := h.1 k hk
  have hle := (wS_le h.1 12 (Nat.le_refl _)).2 k hk
  have h2 := h.2
  have t : ∀ j, j < 12 → mSnow k g 0 (24 + j) = gS g k yr v8 v17 0 (24 + j) := fun j hj => by
    rw [e, s182_i hk 61 _ _ (Nat.le_refl _) _ (by omega)]
  refine wb_d (d := v17.toInt) h hk ?_ (by omega) (by omega) (fun j hj hjk => ?_)
  · rw [t k hk]
    unfold gS
    rw [up_t, pk_un (by omega), pk_us, add_t (by omega) (by omega)]
  · rw [t j hj]
    unfold gS
    rw [up_t, pk_un (by omega), pk_un (by omega), pk_un (by omega), pk_un (by omega), pk_un (by omega)]
