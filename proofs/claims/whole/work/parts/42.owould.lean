set_option maxRecDepth 100000 in
theorem op_would (l : Launch) (hl : l.stackTraces = false) (X : zX) (h a b na nf : Nat → Nat) (o : Nat) {n : Nat} (hn : n < 512) {gP gA gF g : zG} (hR : REL n gP gA gF g) (gT : zG) (fo : Nat → Int64) (v1 v2 v3 : Int32) : ∃ (r : Int32) (gP1 gT1 gA1 gF1 : zG) (fo1 : Nat → Int64), CE l yL_would wsL_would 9 200 1 6 X (HW h a b na nf o X gP gT gA gF fo) [.ref (h 0), .int v1, .int v2, .int v3, .ref o] r (HW h a b na nf o X gP1 gT1 gA1 gF1 fo1) ∧ (fX6_would g v1 v2 v3).2 10 0 = r ∧ (r = 0 → fo1 0 = (fX6_would g v1 v2 v3).1.toInt64) ∧ REL (n + 1) gP1 gA1 gF1 (fX6_would g v1 v2 v3).2 := by
  have hR0 := rel_thr 0 hR
  obtain ⟨yr, m1, m2, m3, m4⟩ := hR0
  have hyr := mp_yr m1
  have ey : g 0 89 = nI yr := mp_year m1
  have e0 : gP 10 0 = nI yr := m2.2.2.2.1.1.trans ey
  by_cases hc : vp_in v2 12
  rotate_left
  · have e : fX6_would g v1 v2 v3 = (0, thr g 1) := by
      unfold fX6_would
      rw [cell0 hc, jn_eq, jn_eq, as3_x1, jn_eq, if_pos (c := (0 : Int32) = 0) rfl]
    refine ⟨1, gP, gT, gA, gF, fo, hL_would_x1 l X h a b na nf o gP gT gA gF fo v1 v2 v3 (mX5_would_x1 l hl X h a b na nf gP gT gA gF v1 v2 v3 hc) ⟨by decide, by decide⟩, ?_, ?_, ?_⟩
    · rw [e]; exact thr_10 g 1
    · intro h9; exact absurd h9 (by decide)
    · rw [e]; exact rel_thr 1 hR
  obtain ⟨k, hk, rfl⟩ := vp_in_of hc (by decide)
  by_cases h0 : v1 < 1 ∨ 20 < v1
  · have e : fX6_would g v1 (nI k) v3 = (0, thr g 2) := by
      unfold fX6_would
      rw [cell1 hk, in0 h0, if_pos (c := (0 : Int32) = 0) rfl, jn_eq, jn_eq, as3_x2, jn_eq, if_pos (c := (0 : Int32) = 0) rfl]
    refine ⟨2, gP, gT, gA, gF, fo, hL_would_x2 l X h a b na nf o gP gT gA gF fo v1 (nI k) v3 (mX5_would_x2 l hl X h a b na nf gP gT gA gF v1 k v3 hk h0) ⟨by decide, by decide⟩, ?_, ?_, ?_⟩
    · rw [e]; exact thr_10 g 2
    · intro h9; exact absurd h9 (by decide)
    · rw [e]; exact rel_thr 2 hR
  have h1 : ¬ v1 < 1 := fun q => h0 (Or.inl q)
  have h2 : ¬ 20 < v1 := fun q => h0 (Or.inr q)
  by_cases h4 : v3 < 0 ∨ 9 < v3
  · have e : fX6_would g v1 (nI k) v3 = (0, thr g 2) := by
      unfold fX6_would
      rw [cell1 hk, in1 h1 h2, if_neg (c := (1 : Int32) = 0) (by decide), in0 h4, if_pos (c := (0 : Int32) = 0) rfl, jn_eq, jn_eq, as3_x2, jn_eq, if_pos (c := (0 : Int32) = 0) rfl]
    refine ⟨2, gP, gT, gA, gF, fo, hL_would_x2 l X h a b na nf o gP gT gA gF fo v1 (nI k) v3 (mX5_would_x3 l hl X h a b na nf gP gT gA gF v1 k v3 hk h1 h2 h4) ⟨by decide, by decide⟩, ?_, ?_, ?_⟩
    · rw [e]; exact thr_10 g 2
    · intro h9; exact absurd h9 (by decide)
    · rw [e]; exact rel_thr 2 hR
  have h5 : ¬ v3 < 0 := fun q => h4 (Or.inl q)
  have h6 : ¬ 9 < v3 := fun q => h4 (Or.inr q)
  by_cases h3 : 60 < nI yr + v1
  · have e : fX6_would g v1 (nI k) v3 = (0, thr g 3) := by
      unfold fX6_would
      rw [cell1 hk, in1 h1 h2, if_neg (c := (1 : Int32) = 0) (by decide), in1 h5 h6, if_neg (c := (1 : Int32) = 0) (by decide), jn_eq, if_neg (c := (1 : Int32) = 0) (by decide), ey, if_pos h3, jn_eq, as3_x3, jn_eq, if_pos (c := (0 : Int32) = 0) rfl]
    refine ⟨3, gP, gT, gA, gF, fo, hL_would_x3 l X h a b na nf o gP gT gA gF fo v1 (nI k) v3 (mX5_would_x4 l hl X h a b na nf gP gT gA gF v1 k v3 hk h1 h2 h5 h6 (by rw [e0]; exact h3)) ⟨by decide, by decide⟩, ?_, ?_, ?_⟩
    · rw [e]; exact thr_10 g 3
    · intro h9; exact absurd h9 (by decide)
    · rw [e]; exact rel_thr 3 hR
  obtain ⟨p, hp1, hp2, rfl⟩ := rng_p h1 h2
  have hp3 := yr_p hyr hp2 h3
  obtain ⟨w, hw, rfl⟩ := rng_nat 9 (by decide) h5 h6
  obtain ⟨fl, hfl, efl⟩ := mp_fl m1
  have e : fX6_would g (nI p) (nI k) (nI w) = (fX6_tells (fX6_passes (fX6_keeps (thr g 0) 0) p) k (nI w), fX6_keeps (fX6_passes (fX6_keeps (thr g 0) 0) p) 1) := by
    unfold fX6_would
    rw [cell1 hk, in1 h1 h2, if_neg (c := (1 : Int32) = 0) (by decide), in1 h5 h6, if_neg (c := (1 : Int32) = 0) (by decide), jn_eq, if_neg (c := (1 : Int32) = 0) (by decide), ey, if_neg h3, jn_eq, as3_1, jn_eq, if_neg (c := (1 : Int32) = 0) (by decide)]
    dsimp only
    rw [nI_clamp (n := p) (by omega), nI_clamp (n := k) (by omega), jn_eq, jn_eq, jn_eq]
  have e5 : fX5_would gP gT gA gF p k w = (fX3_tellOf (fX5_tryOut_L13 p 0 (fX3_becomeLike gT gP)) k w, fX5_tryOut_L13 p 0 (fX3_becomeLike gT gP)) := by
    unfold fX5_would fX5_tryOut
    rw [jn_eq, jn_eq]
  have hM := mX5_would l X h a b na nf gP gT gA gF p k w yr hp1 hp2 e0 hp3 hk hw
  obtain ⟨t1, t2, t3, t4⟩ := tried (like_yr (gT := gT) m2) m1 (show fl ≤ 720 by omega) efl hp1 hp3 (by omega)
  rw [e5] at hM
  dsimp only at hM
  rw [e]
  generalize fX6_passes (fX6_keeps (thr g 0) 0) p = U at t1 t2 t3 t4 ⊢
  generalize fX5_tryOut_L13 p 0 (fX3_becomeLike gT gP) = T at t1 t2 hM
  have k1 : ∀ j, j ≠ 0 → j ≠ 1 → fX6_keeps U 1 j = U j := fun j a0 a1 => keeps_n a0 a1 U 1
  have k0 : ∀ j, j < 1024 → fX6_keeps U 1 0 j = thr g 0 0 j := fun j hj => by rw [keeps1_0 hj, t3 j hj]
  generalize fX6_keeps U 1 = R at k1 k0 ⊢
  have a10 : R 10 = thr g 0 10 := by rw [k1 10 (by decide) (by decide), t4 10 (by decide) (by decide) (by decide) (by decide) (by decide) (by decide)]
  refine ⟨0, gP, T, gA, gF, _, hL_would_ok l X h a b na nf o gP gT gA gF fo (nI p) (nI k) (nI w) gP T gA gF _ hM ⟨by decide, by decide⟩, ?_, fun _ => ?_, ?_⟩
  · show R 10 0 = 0
    rw [a10]
    exact thr_10 g 0
  · rw [pk_uLs, tz_tell hk hw t1.1 t2]
  · obtain ⟨r1, r2, r3⟩ := rb_back (v := R) m1 m2 m3 (show fl ≤ 720 by omega) efl t1.2.2.2 k0 (fun j _ _ => by rw [a10]) (by rw [k1 2 (by decide) (by decide), t4 2 (by decide) (by decide) (by decide) (by decide) (by decide) (by decide)]) (k1 3 (by decide) (by decide)) (k1 4 (by decide) (by decide)) (k1 5 (by decide) (by decide))
    refine ⟨yr, r1, r2 _ _, r3, ?_⟩
    show RELf gP gA gF (R)
    unfold RELf at m4 ⊢
    rw [a10, k1 6 (by decide) (by decide), k1 7 (by decide) (by decide), k1 8 (by decide) (by decide), t4 6 (by decide) (by decide) (by decide) (by decide) (by decide) (by decide), t4 7 (by decide) (by decide) (by decide) (by decide) (by decide) (by decide), t4 8 (by decide) (by decide) (by decide) (by decide) (by decide) (by decide)]
    exact m4
