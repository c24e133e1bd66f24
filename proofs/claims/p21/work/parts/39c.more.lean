theorem rel_ml {n : Nat} {gP gA gF g : zG} (hn : n < 512) (h : REL n gP gA gF g) : ∃ b : Nat, b ≤ 600000 ∧ ML (g 0) b := by
  obtain ⟨yr, h1, -⟩ := h
  have := mp_yr h1
  exact ⟨999 * n + 240 * yr, by omega, h1.2.1⟩
theorem rel_k {n : Nat} {gP gA gF g : zG} (h : REL n gP gA gF g) {k : Nat} (hk : k < 12) : (0 ≤ (g 0 (24 + k)).toInt ∧ -2147483648 < (gP 5 k).toInt) ∧ (gP 0 k = g 0 k ∧ gP 1 k = g 0 (12 + k) ∧ gP 2 k = g 0 (24 + k) ∧ gP 3 k = g 0 (36 + k) ∧ gP 4 k = g 0 (48 + k) ∧ gP 5 k = g 0 (60 + k) - g 0 (72 + k) ∧ gP 8 k = fX6_iceOf g k) := by
  obtain ⟨yr, -, h2, -⟩ := h
  exact ⟨h2.1.2 k hk, h2.2.1 k hk⟩
theorem land_state {n : Nat} {gP gA gF g : zG} (hn : n < 512) (h : REL n gP gA gF g) {k : Nat} (hk : k < 12) : (0 < gP 8 k ∨ 0 < gP 2 k) ↔ ¬ (fX6_iceOf g k = 0 ∧ g 0 (24 + k) = 0) := by
  obtain ⟨b, hb, hm⟩ := rel_ml hn h
  obtain ⟨⟨hw, -⟩, -, -, h2, -, -, -, h8⟩ := rel_k h hk
  have h9 := iceOf_t hm hk (by omega)
  have h10 := ml_cell hm hk
  have e0 : (0 : Int32).toInt = 0 := rfl
  rw [h8, h2, fa_lt, fa_lt, fa_eq, fa_eq]
  omega
theorem tell_eq {gP g : zG} {k w : Nat} (hw : w < 10) (h5 : -2147483648 < (gP 5 k).toInt) (h : gP 0 k = g 0 k ∧ gP 1 k = g 0 (12 + k) ∧ gP 2 k = g 0 (24 + k) ∧ gP 3 k = g 0 (36 + k) ∧ gP 4 k = g 0 (48 + k) ∧ gP 5 k = g 0 (60 + k) - g 0 (72 + k) ∧ gP 8 k = fX6_iceOf g k) (hl : gP 10 1 = g 10 1) : fX3_tellOf gP k w = fX6_tells g k (nI w) := by
  obtain ⟨q0, q1, q2, q3, q4, q5, q8⟩ := h
  have ec : (fX3_hasCrevasse gP k) = (if 5 ≤ g 0 (60 + k) - g 0 (72 + k) then 1 else (if (-5) < g 0 (60 + k) - g 0 (72 + k) then 0 else 1)) := by
    unfold fX3_hasCrevasse
    rw [q5]
    rw [q5] at h5
    generalize g 0 (60 + k) - g 0 (72 + k) = v at h5
    have e0 : (0 : Int32).toInt = 0 := rfl
    have e5 : (5 : Int32).toInt = 5 := rfl
    have e6 : (-5 : Int32).toInt = -5 := by decide
    have hv := fb_rng v
    by_cases c1 : 0 ≤ v
    · rw [if_pos c1]
      rw [fa_le, e0] at c1
      by_cases c2 : v < 5
      · rw [if_pos c2]
        rw [fa_lt, e5] at c2
        rw [if_neg (by rw [fa_le, e5]; omega), if_pos (by rw [fa_lt, e6]; omega)]
      · rw [if_neg c2]
        rw [fa_lt, e5] at c2
        rw [if_pos (by rw [fa_le, e5]; omega)]
    · rw [if_neg c1]
      rw [fa_le, e0] at c1
      have hn : (0 - v).toInt = -v.toInt := by
        rw [sub_t (by omega) (by omega), e0]
        omega
      rw [if_neg (c := 5 ≤ v) (by rw [fa_le, e5]; omega)]
      by_cases c2 : 0 - v < 5
      · rw [if_pos c2]
        rw [fa_lt, hn, e5] at c2
        rw [if_pos (by rw [fa_lt, e6]; omega)]
      · rw [if_neg c2]
        rw [fa_lt, hn, e5] at c2
        rw [if_neg (by rw [fa_lt, e6]; omega)]
  have es : fX3_standsInSea gP k = fX6_isInSea g k := by
    unfold fX3_standsInSea fX6_isInSea
    rw [q0, hl, Nat.zero_add]
  have ef : fX3_surface gP k = fX6_surfaceOf g k := by
    unfold fX3_surface fX6_surfaceOf
    rw [q0, q8, Nat.zero_add]
  have ep : fX3_potential gP k = fX6_potentialOf g k := by
    unfold fX3_potential fX6_potentialOf
    rw [q0, q8, Nat.zero_add]
  unfold fX3_tellOf fX6_tells
  rw [jn_eq, jn_eq, ec, es, ef, ep, q0, q1, q2, q3, q4, q8, Nat.zero_add]
  rcases (show w = 0 ∨ w = 1 ∨ w = 2 ∨ w = 3 ∨ w = 4 ∨ w = 5 ∨ w = 6 ∨ w = 7 ∨ w = 8 ∨ w = 9 by omega) with rfl | rfl | rfl | rfl | rfl | rfl | rfl | rfl | rfl | rfl <;> rfl
theorem yb_eq {gP g : zG} {u : Int32 × zG} {k : Nat} (hk : k < 12) (hu : ∀ j, j < 61 → u.2 0 (100 + 61 * k + j) = gP 9 (k * 61 + j)) : ∀ (n : Nat) (x : Int32), n ≤ 61 → fX6_yearAt_L28 (nI k) u n x = (fX1_yearBelow_L6 (gP 8) (gP 9) k n x, u.2) := by
  intro n
  induction n with
  | zero => intro x _; unfold fX6_yearAt_L28 fX1_yearBelow_L6; rfl
  | succ n ih =>
    intro x hn
    unfold fX6_yearAt_L28 fX1_yearBelow_L6
    have e : fX1_unitsOf (gP 8) (gP 9) k n = u.2 0 (100 + 61 * (nI k).toNatClampNeg + n) := by
      rw [nI_clamp (by omega), hu n (by omega)]
      rfl
    rw [e]
    by_cases c : u.2 0 (100 + 61 * (nI k).toNatClampNeg + n) ≤ x
    · rw [if_pos c, if_pos c]
      exact ih _ (by omega)
    · rw [if_neg c, if_neg c]
theorem com_eq {gP gA g : zG} {u : Int32 × zG} {k j : Nat} (hk : k < 12) (hj : j < 12) (hu : ∀ c y, c < 12 → y < 61 → u.2 0 (100 + 61 * c + y) = gP 9 (c * 61 + y)) (ha : ∀ y, y < 61 → u.2 2 y = gA 0 y) : ∀ (n i : Nat) (x : Int32), i + n = 61 → fX6_common_L33 (nI k) (nI j) u n i x = (fX5_common_L13 gP gA k j n i x, u.2) := by
  intro n
  induction n with
  | zero => intro i x _; unfold fX6_common_L33 fX5_common_L13; rfl
  | succ n ih =>
    intro i x hn
    unfold fX6_common_L33 fX5_common_L13
    have e1 : fX1_unitsOf (gP 8) (gP 9) k i = u.2 0 (100 + 61 * (nI k).toNatClampNeg + i) := by
      rw [nI_clamp (by omega), hu k i hk (by omega)]
      rfl
    have e2 : fX1_unitsOf (gP 8) (gP 9) j i = u.2 0 (100 + 61 * (nI j).toNatClampNeg + i) := by
      rw [nI_clamp (n := j) (by omega), hu j i hj (by omega)]
      rfl
    rw [e1, e2, ← ha i (by omega), jn_eq]
    by_cases c1 : u.2 2 i = 0
    · rw [if_pos c1, if_pos c1, Int32.add_zero]
      exact ih _ _ (by omega)
    · rw [if_neg c1, if_neg c1]
      by_cases c2 : u.2 0 (100 + 61 * (nI k).toNatClampNeg + i) ≤ 0
      · rw [if_pos c2, if_pos c2, Int32.add_zero]
        exact ih _ _ (by omega)
      · rw [if_neg c2, if_neg c2]
        by_cases c3 : u.2 0 (100 + 61 * (nI j).toNatClampNeg + i) ≤ 0
        · rw [if_pos c3, if_pos c3, Int32.add_zero]
          exact ih _ _ (by omega)
        · rw [if_neg c3, if_neg c3]
          exact ih _ _ (by omega)
theorem all_eq {gP g : zG} (h : ∀ k, k < 12 → gP 8 k = fX6_iceOf g k) : fX1_allIce (gP 8) (gP 9) = fX6_allIce g := by
  unfold fX1_allIce fX6_allIce
  have H : ∀ (n i : Nat) (x : Int32), i + n = 12 → fX1_allIce_L4 (gP 8) n i x = fX6_allIce_L4 g n i x := by
    intro n
    induction n with
    | zero => intro i x _; unfold fX1_allIce_L4 fX6_allIce_L4; rfl
    | succ n ih =>
      intro i x hi
      unfold fX1_allIce_L4 fX6_allIce_L4
      rw [h i (by omega)]
      exact ih _ _ (by omega)
  exact H 12 0 0 rfl
theorem allIce_c {g g1 : zG} (h : ∀ k, k < 12 → fX6_iceOf g1 k = fX6_iceOf g k) : fX6_allIce g1 = fX6_allIce g := by
  unfold fX6_allIce
  have H : ∀ (n i : Nat) (x : Int32), i + n = 12 → fX6_allIce_L4 g1 n i x = fX6_allIce_L4 g n i x := by
    intro n
    induction n with
    | zero => intro i x _; unfold fX6_allIce_L4; rfl
    | succ n ih =>
      intro i x hi
      unfold fX6_allIce_L4
      rw [h i (by omega)]
      exact ih _ _ (by omega)
  exact H 12 0 0 rfl
theorem tot_eq {gP : zG} {u : Int32 × zG} {wa : Int32} (h : ∀ k, k < 12 → gP 2 k = u.2 0 (24 + k)) : ∀ (n i : Nat) (x : Int32), i + n = 12 → fX6_total_L19 wa u n i x = (if wa = 0 then ((fX6_allIce u.2), u.2) else (if wa = 1 then (fX3_allWater_L4 gP n i x, u.2) else (((u.2 0) ((84 + wa.toNatClampNeg) - 2)), u.2))) := by
  intro n
  induction n with
  | zero => intro i x _; unfold fX6_total_L19 fX3_allWater_L4; rfl
  | succ n ih =>
    intro i x hi
    unfold fX6_total_L19 fX3_allWater_L4
    rw [h i (by omega)]
    exact ih _ _ (by omega)
