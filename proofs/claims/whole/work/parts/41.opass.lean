def fcEnd (U : zG) (c : Nat) : zG := va_up (fX6_keeps (va_up U 7 (upd (U 7) c (fX6_allIce U))) 1) 8 (upd (fX6_keeps (va_up U 7 (upd (U 7) c (fX6_allIce U))) 1 8) c (-1))
theorem rng_p {v : Int32} (h1 : ¬ v < 1) (h2 : ¬ 20 < v) : ∃ p : Nat, 1 ≤ p ∧ p ≤ 20 ∧ v = nI p := by
  have e1 : (1 : Int32).toInt = 1 := by decide
  have e2 : (20 : Int32).toInt = 20 := by decide
  rw [fa_lt] at h1 h2
  obtain ⟨w, hw, rfl⟩ := vp_in_of (x := v) (n := 21) (vp_in_iff.mpr ⟨by omega, by omega⟩) (by decide)
  rw [nI_toInt (by omega)] at h1 h2
  exact ⟨w, by omega, by omega, rfl⟩
theorem yr_p {yr p : Nat} (hy : yr ≤ 60) (hp : p ≤ 20) (h : ¬ 60 < nI yr + nI p) : yr + p ≤ 60 := by
  have e1 : (60 : Int32).toInt = 60 := by decide
  rw [nI_add, fa_lt, nI_toInt (by omega)] at h
  omega
set_option maxRecDepth 100000 in
theorem op_pass (l : Launch) (hl : l.stackTraces = false) (X : zX) (h a b na nf : Nat → Nat) (o : Nat) {n : Nat} (hn : n < 512) {gP gA gF g : zG} (hR : REL n gP gA gF g) (gT : zG) (fo : Nat → Int64) (v1 : Int32) : ∃ (r : Int32) (gP1 gT1 gA1 gF1 : zG) (fo1 : Nat → Int64), CE l yL_pass wsL_pass 9 200 1 6 X (HW h a b na nf o X gP gT gA gF fo) [.ref (h 0), .int v1, .ref o] r (HW h a b na nf o X gP1 gT1 gA1 gF1 fo1) ∧ (fX6_pass g v1).2 10 0 = r ∧ (r = 0 → fo1 0 = (fX6_pass g v1).1.toInt64) ∧ REL (n + 1) gP1 gA1 gF1 (fX6_pass g v1).2 := by
  have hR0 := rel_thr 0 hR
  obtain ⟨yr, m1, m2, m3, m4⟩ := hR0
  have hyr := mp_yr m1
  have ey : g 0 89 = nI yr := mp_year m1
  have e0 : gP 10 0 = nI yr := m2.2.2.2.1.1.trans ey
  by_cases h0 : v1 < 1 ∨ 20 < v1
  · have e : fX6_pass g v1 = (0, thr g 1) := by
      unfold fX6_pass
      rw [in0 h0, jn_eq, if_pos (c := (0 : Int32) = 0) rfl, jn_eq, as2_x1, jn_eq, if_pos (c := (0 : Int32) = 0) rfl]
    refine ⟨1, gP, gT, gA, gF, fo, hL_pass_x1 l X h a b na nf o gP gT gA gF fo v1 (mX5_pass_x1 l hl X h a b na nf gP gT gA gF v1 h0) ⟨by decide, by decide⟩, ?_, ?_, ?_⟩
    · rw [e]; exact thr_10 g 1
    · intro h9; exact absurd h9 (by decide)
    · rw [e]; exact rel_thr 1 hR
  have h1 : ¬ v1 < 1 := fun q => h0 (Or.inl q)
  have h2 : ¬ 20 < v1 := fun q => h0 (Or.inr q)
  by_cases h3 : 60 < nI yr + v1
  · have e : fX6_pass g v1 = (0, thr g 2) := by
      unfold fX6_pass
      rw [in1 h1 h2, jn_eq, if_neg (c := (1 : Int32) = 0) (by decide), ey, if_pos h3, jn_eq, as2_x2, jn_eq, if_pos (c := (0 : Int32) = 0) rfl]
    refine ⟨2, gP, gT, gA, gF, fo, hL_pass_x2 l X h a b na nf o gP gT gA gF fo v1 (mX5_pass_x2 l hl X h a b na nf gP gT gA gF v1 h1 h2 (by rw [e0]; exact h3)) ⟨by decide, by decide⟩, ?_, ?_, ?_⟩
    · rw [e]; exact thr_10 g 2
    · intro h9; exact absurd h9 (by decide)
    · rw [e]; exact rel_thr 2 hR
  obtain ⟨p, hp1, hp2, rfl⟩ := rng_p h1 h2
  have hp3 := yr_p hyr hp2 h3
  obtain ⟨fl, hfl, efl⟩ := mp_fl m1
  have e : fX6_pass g (nI p) = fX6_pass_L43 p 0 (thr g 0) := by
    unfold fX6_pass
    rw [in1 h1 h2, jn_eq, if_neg (c := (1 : Int32) = 0) (by decide), ey, if_neg h3, jn_eq, as2_1, jn_eq, if_neg (c := (1 : Int32) = 0) (by decide), nI_clamp (n := p) (by omega)]
  have e5 : fX5_pass gP gT gA gF p = fX5_pass_L14 p 0 gP gA := by unfold fX5_pass; rfl
  have hM := mX5_pass l X h a b na nf gP gT gA gF p yr hp1 hp2 e0 hp3 ⟨fl, by omega, by rw [m3.2.2.1]; exact efl⟩
  obtain ⟨r1, r2, r3⟩ := ry_pass (gF := gF) p 0 _ yr gP gA (thr g 0) ⟨m1, m2, m3, m4⟩ hp3 (by omega)
  rw [e5] at hM
  rw [e]
  generalize fX6_pass_L43 p 0 (thr g 0) = u6 at r1 r2 r3 ⊢
  generalize fX5_pass_L14 p 0 gP gA = u5 at r1 r2 hM
  refine ⟨0, u5.2.1, gT, u5.2.2, gF, _, hL_pass_ok l X h a b na nf o gP gT gA gF fo (nI p) _ gT _ gF _ hM ⟨by decide, by decide⟩, ?_, fun _ => ?_, ?_⟩
  · rw [r3]; exact thr_10 g 0
  · rw [pk_uLs, r1]
  · refine ⟨yr + p, ?_⟩
    rw [show 999 * (n + 1) + 240 * (yr + p) = 999 * (n + 1) + 240 * yr + 240 * p by omega]
    exact r2
