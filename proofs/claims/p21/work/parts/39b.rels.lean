theorem cnt_x {n : Nat} {v : Int32} (hn : n < 2 ^ 20) (h : v < 0 ∨ nI n ≤ v) : v < 0 ∨ nI n - 1 < v := by
  rcases h with h | h
  · exact Or.inl h
  · right
    have h1 : (nI n - 1).toInt = (n : Int) - 1 := by
      rw [Int32.toInt_sub, nI_toInt (by omega)]
      show Int.bmod ((n : Int) - 1) (2 ^ 32) = _
      exact Int.bmod_eq_of_le (by omega) (by omega)
    rw [fa_le, nI_toInt (by omega)] at h
    rw [fa_lt, h1]
    omega
theorem cnt_n {n : Nat} {v : Int32} (hn : n < 2 ^ 20) (h : ¬ (v < 0 ∨ nI n ≤ v)) : ∃ f : Nat, f < n ∧ v = nI f := by
  have e1 : (0 : Int32).toInt = 0 := rfl
  have h1 : ¬ v < 0 := fun q => h (Or.inl q)
  have h2 : ¬ nI n ≤ v := fun q => h (Or.inr q)
  rw [fa_lt] at h1
  rw [fa_le, nI_toInt (by omega)] at h2
  exact vp_in_of (vp_in_iff.mpr ⟨by omega, by omega⟩) (by omega)
theorem cnt_1 {n f : Nat} (hn : n < 2 ^ 20) (hf : f < n) : ¬ nI f < 0 ∧ ¬ nI n - 1 < nI f := by
  have e1 : (0 : Int32).toInt = 0 := rfl
  have h1 : (nI n - 1).toInt = (n : Int) - 1 := by
    rw [Int32.toInt_sub, nI_toInt (by omega)]
    show Int.bmod ((n : Int) - 1) (2 ^ 32) = _
    exact Int.bmod_eq_of_le (by omega) (by omega)
  rw [fa_lt, fa_lt, h1, nI_toInt (by omega)]
  omega
theorem rel_sea {n : Nat} {gP gA gF g : zG} (v : Int32) (h : REL n gP gA gF g) {gT : zG} : REL n (fX5_sea gP gT gA gF v).2 gA gF (va_up g 10 (upd (g 10) 1 v)) := by
  obtain ⟨yr, h1, h2, h3, h4⟩ := h
  refine ⟨yr, ?_, ?_, ?_, ?_⟩
  · unfold MP at h1 ⊢
    rw [up_n (j := 0) (by decide), up_t, pk_un (by decide), pk_un (by decide), pk_un (by decide)]
    exact h1
  · obtain ⟨q1, q2, q3, q4, q5⟩ := h2
    unfold fX5_sea
    refine ⟨q1, fun k hk => ?_, q3, ?_, q5⟩
    · have h9 := q2 k hk
      rw [iceOf_c (g := g) (g1 := va_up g 10 (upd (g 10) 1 v)) (fun j _ => by rw [up_n (by decide)])]
      exact h9
    · show upd (gP 10) 1 v 0 = g 0 89 ∧ upd (gP 10) 1 v 1 = upd (g 10) 1 v 1 ∧ upd (gP 10) 1 v 2 = upd (g 10) 1 v 2 ∧ upd (gP 10) 1 v 3 = upd (g 10) 1 v 3 ∧ upd (gP 10) 1 v 4 = upd (g 10) 1 v 4
      rw [pk_us, pk_us, pk_un (by decide), pk_un (by decide), pk_un (by decide), pk_un (by decide), pk_un (by decide), pk_un (by decide), pk_un (by decide)]
      exact ⟨q4.1, rfl, q4.2.2⟩
  · exact h3
  · unfold RELf at h4 ⊢
    rw [up_t, pk_un (by decide)]
    exact h4
theorem rel_climate {n : Nat} {gP gA gF g : zG} {v1 v2 v3 : Int32} (gT gA1 gF1 : zG) (h1 : ¬ v1 < (-300)) (h2 : ¬ 300 < v1) (h3 : ¬ v2 < 0) (h4 : ¬ 20 < v2) (h5 : ¬ v3 < 0) (h6 : ¬ 9 < v3) (h : REL n gP gA gF g) : REL n (fX5_climate gP gT gA1 gF1 v1 v2 v3) gA gF (fX5_climate g gT gA1 gF1 v1 v2 v3) := by
  have e1 : (-300 : Int32).toInt = -300 := by decide
  have e2 : (300 : Int32).toInt = 300 := by decide
  have e3 : (0 : Int32).toInt = 0 := by decide
  have e4 : (20 : Int32).toInt = 20 := by decide
  have e5 : (9 : Int32).toInt = 9 := by decide
  rw [fa_lt] at h1 h2 h3 h4 h5 h6
  obtain ⟨yr, m1, m2, m3, m4⟩ := h
  have hg0 : ∀ j, j ≠ 10 → fX5_climate g gT gA1 gF1 v1 v2 v3 j = g j := fun j hj => by
    unfold fX5_climate
    rw [up_n hj, up_n hj, up_n hj]
  have ht : ∀ x : zG, fX5_climate x gT gA1 gF1 v1 v2 v3 10 = upd (upd (upd (x 10) 2 v1) 3 v2) 4 v3 := fun x => by
    unfold fX5_climate
    rw [up_t]
  refine ⟨yr, ?_, ?_, ?_, ?_⟩
  · unfold MP at m1 ⊢
    rw [hg0 0 (by decide), ht]
    have a3 : upd (upd (upd (g 10) 2 v1) 3 v2) 4 v3 3 = v2 := by rw [pk_un (by decide), pk_us]
    have a2 : upd (upd (upd (g 10) 2 v1) 3 v2) 4 v3 2 = v1 := by rw [pk_un (by decide), pk_un (by decide), pk_us]
    have a4 : upd (upd (upd (g 10) 2 v1) 3 v2) 4 v3 4 = v3 := pk_us
    rw [a3, a2, a4]
    exact ⟨m1.1, m1.2.1, ⟨by omega, by omega⟩, m1.2.2.2.1, m1.2.2.2.2.1, ⟨by omega, by omega⟩, ⟨by omega, by omega⟩⟩
  · obtain ⟨q1, q2, q3, q4, q5⟩ := m2
    have hp0 : ∀ j, j ≠ 10 → fX5_climate gP gT gA1 gF1 v1 v2 v3 j = gP j := fun j hj => by
      unfold fX5_climate
      rw [up_n hj, up_n hj, up_n hj]
    unfold RELc
    rw [hg0 0 (by decide), hp0 0 (by decide), hp0 1 (by decide), hp0 2 (by decide), hp0 3 (by decide), hp0 4 (by decide), hp0 5 (by decide), hp0 8 (by decide), hp0 9 (by decide), hp0 11 (by decide), ht, ht]
    refine ⟨q1, fun k hk => ?_, q3, ?_, q5⟩
    · have h9 := q2 k hk
      rw [iceOf_c (g := g) (g1 := fX5_climate g gT gA1 gF1 v1 v2 v3) (fun j _ => by rw [hg0 0 (by decide)])]
      exact h9
    · refine ⟨?_, ?_, ?_, ?_, ?_⟩
      · rw [pk_un (by decide), pk_un (by decide), pk_un (by decide)]; exact q4.1
      · rw [pk_un (by decide), pk_un (by decide), pk_un (by decide), pk_un (by decide), pk_un (by decide), pk_un (by decide)]; exact q4.2.1
      · rw [pk_un (by decide), pk_un (by decide), pk_us, pk_un (by decide), pk_un (by decide), pk_us]
      · rw [pk_un (by decide), pk_us, pk_un (by decide), pk_us]
      · rw [pk_us, pk_us]
  · unfold RELa at m3 ⊢
    rw [hg0 0 (by decide), hg0 2 (by decide), hg0 3 (by decide), hg0 4 (by decide), hg0 5 (by decide)]
    exact m3
  · have hp : fX5_climate gP gT gA1 gF1 v1 v2 v3 10 0 = gP 10 0 := by rw [ht, pk_un (by decide), pk_un (by decide), pk_un (by decide)]
    have hq : fX5_climate g gT gA1 gF1 v1 v2 v3 10 5 = g 10 5 := by rw [ht, pk_un (by decide), pk_un (by decide), pk_un (by decide)]
    unfold RELf at m4 ⊢
    rw [hp, hq, hg0 6 (by decide), hg0 7 (by decide), hg0 8 (by decide)]
    exact m4
theorem rel_ashed {n yr : Nat} {gP gA gF g : zG} (hy : yr < 61) (h : REL n gP gA gF g) : REL n gP (va_up gA 0 (upd (gA 0) yr 1)) gF (va_up g 2 (upd (g 2) yr 1)) := by
  obtain ⟨y0, m1, m2, m3, m4⟩ := h
  refine ⟨y0, m1, ?_, ?_, m4⟩
  · obtain ⟨q1, q2, q3, q4, q5⟩ := m2
    refine ⟨q1, fun k hk => ?_, q3, q4, q5⟩
    have h9 := q2 k hk
    rw [iceOf_c (g := g) (g1 := va_up g 2 (upd (g 2) yr 1)) (fun j _ => by rw [up_n (by decide)])]
    exact h9
  · obtain ⟨q1, q2, q3, q4⟩ := m3
    refine ⟨fun y hy => ?_, q2, q3, q4⟩
    rw [up_t, up_t]
    by_cases e : y = yr
    · subst e
      rw [pk_us, pk_us]
      exact ⟨rfl, Or.inr rfl⟩
    · rw [pk_un e, pk_un e]
      exact q1 y hy
