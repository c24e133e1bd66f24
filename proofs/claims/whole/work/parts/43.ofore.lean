set_option maxRecDepth 100000 in
theorem op_forecast (l : Launch) (hl : l.stackTraces = false) (X : zX) (h a b na nf : Nat → Nat) (o : Nat) {n : Nat} (hn : n < 512) {gP gA gF g : zG} (hR : REL n gP gA gF g) (gT : zG) (fo : Nat → Int64) (v1 : Int32) : ∃ (r : Int32) (gP1 gT1 gA1 gF1 : zG) (fo1 : Nat → Int64), CE l yL_forecast wsL_forecast 9 200 1 6 X (HW h a b na nf o X gP gT gA gF fo) [.ref (h 0), .int v1, .ref o] r (HW h a b na nf o X gP1 gT1 gA1 gF1 fo1) ∧ (fX6_forecast g v1).2 10 0 = r ∧ (r = 0 → fo1 0 = (fX6_forecast g v1).1.toInt64) ∧ REL (n + 1) gP1 gA1 gF1 (fX6_forecast g v1).2 := by
  have hR0 := rel_thr 0 hR
  obtain ⟨yr, m1, m2, m3, m4⟩ := hR0
  have hyr := mp_yr m1
  have ey : g 0 89 = nI yr := mp_year m1
  have e0 : gP 10 0 = nI yr := m2.2.2.2.1.1.trans ey
  by_cases h0 : v1 < 1 ∨ 20 < v1
  · have e : fX6_forecast g v1 = (0, thr g 1) := by
      unfold fX6_forecast
      rw [in0 h0, jn_eq, if_pos (c := (0 : Int32) = 0) rfl, jn_eq, as2_x1, jn_eq, if_pos (c := (0 : Int32) = 0) rfl]
    refine ⟨1, gP, gT, gA, gF, fo, hL_forecast_x1 l X h a b na nf o gP gT gA gF fo v1 (mX5_forecast_x1 l hl X h a b na nf gP gT gA gF v1 h0) ⟨by decide, by decide⟩, ?_, ?_, ?_⟩
    · rw [e]; exact thr_10 g 1
    · intro h9; exact absurd h9 (by decide)
    · rw [e]; exact rel_thr 1 hR
  have h1 : ¬ v1 < 1 := fun q => h0 (Or.inl q)
  have h2 : ¬ 20 < v1 := fun q => h0 (Or.inr q)
  by_cases h3 : 60 < nI yr + v1
  · have e : fX6_forecast g v1 = (0, thr g 2) := by
      unfold fX6_forecast
      rw [in1 h1 h2, jn_eq, if_neg (c := (1 : Int32) = 0) (by decide), ey, if_pos h3, jn_eq, as2_x2, jn_eq, if_pos (c := (0 : Int32) = 0) rfl]
    refine ⟨2, gP, gT, gA, gF, fo, hL_forecast_x2 l X h a b na nf o gP gT gA gF fo v1 (mX5_forecast_x2 l hl X h a b na nf gP gT gA gF v1 h1 h2 (by rw [e0]; exact h3)) ⟨by decide, by decide⟩, ?_, ?_, ?_⟩
    · rw [e]; exact thr_10 g 2
    · intro h9; exact absurd h9 (by decide)
    · rw [e]; exact rel_thr 2 hR
  have m40 := m4
  obtain ⟨⟨c, hc, ec0⟩, f2, f3⟩ := m40
  have ec : g 10 5 = nI c := by rw [← ec0, thr_m (by decide)]
  have ef2 : gF 2 0 = nI c := by rw [f2]; exact ec0
  have e10 : (10 : Int32) = nI 10 := rfl
  by_cases h7 : 10 ≤ nI c
  · have e : fX6_forecast g v1 = (0, thr g 2) := by
      unfold fX6_forecast
      rw [in1 h1 h2, jn_eq, if_neg (c := (1 : Int32) = 0) (by decide), ey, if_neg h3, ec, if_pos h7, jn_eq, as2_x2, jn_eq, if_pos (c := (0 : Int32) = 0) rfl]
    refine ⟨2, gP, gT, gA, gF, fo, hL_forecast_x2 l X h a b na nf o gP gT gA gF fo v1 (mX5_forecast_x3 l hl X h a b na nf gP gT gA gF v1 h1 h2 (by rw [e0]; exact h3) (by rw [ef2]; exact fun q => (fa_of_lt q).2.1 h7)) ⟨by decide, by decide⟩, ?_, ?_, ?_⟩
    · rw [e]; exact thr_10 g 2
    · intro h9; exact absurd h9 (by decide)
    · rw [e]; exact rel_thr 2 hR
  have hc9 : c < 10 := by
    have q := fa_of_nle h7
    rw [e10] at q
    exact (nI_ltI (by omega) (by omega)).mp q
  obtain ⟨p, hp1, hp2, rfl⟩ := rng_p h1 h2
  have hp3 := yr_p hyr hp2 h3
  obtain ⟨fl, hfl, efl⟩ := mp_fl m1
  have ecc : (nI c).toNatClampNeg = c := nI_clamp (by omega)
  -- the state behind the aim's noting
  generalize hg8 : va_up (thr g 0) 6 (upd (g 6) c (nI yr + nI p)) = g8
  have j8 : ∀ j, j ≠ 6 → g8 j = thr g 0 j := fun j hj => by rw [← hg8, up_n hj]
  have j86 : g8 6 = upd (g 6) c (nI yr + nI p) := by rw [← hg8, up_t]
  have m18 : MP g8 (999 * (n + 1) + 240 * yr) yr (12 * yr) yr := m1.of (j8 0 (by decide)) (by rw [j8 10 (by decide)]) (by rw [j8 10 (by decide)]) (by rw [j8 10 (by decide)])
  have m28 : RELc gP gA gF g8 := relc_t (fun i _ => by rw [j8 0 (by decide)]) (fun j _ _ => by rw [j8 10 (by decide)]) m2
  obtain ⟨t1, t2, t3, t4⟩ := tried (like_yr (gT := gT) m28) m18 (show fl ≤ 720 by omega) (by rw [j8 0 (by decide)]; exact efl) hp1 hp3 (by omega)
  obtain ⟨U, hU⟩ : ∃ U, U = fX6_passes (fX6_keeps g8 0) p := ⟨_, rfl⟩
  rw [← hU] at t1 t2 t3 t4
  have u10 : U 10 = thr g 0 10 := by rw [t4 10 (by decide) (by decide) (by decide) (by decide) (by decide) (by decide), j8 10 (by decide)]
  have u105 : U 10 5 = nI c := by rw [u10]; exact ec0
  have e : fX6_forecast g (nI p) = (fcEnd U c 7 c, va_up (fcEnd U c) 10 (upd (fcEnd U c 10) 5 (nI (c + 1)))) := by
    unfold fX6_forecast fcEnd
    rw [in1 h1 h2, jn_eq, if_neg (c := (1 : Int32) = 0) (by decide), ey, if_neg h3, ec, if_neg h7, jn_eq, as2_1, jn_eq, if_neg (c := (1 : Int32) = 0) (by decide)]
    dsimp only
    rw [ec0, ecc, thr_n (j := 6) (by decide), thr_n (j := 0) (by decide), ey, hg8, jn_eq, jn_eq, nI_clamp (n := p) (by omega), ← hU, jn_eq, u105, ecc, jn_eq]
    generalize hu12 : fX6_keeps (va_up U 7 (upd (U 7) c (fX6_allIce U))) 1 = u12
    have h12 : u12 10 5 = nI c := by rw [← hu12, keeps_10, up_n (by decide), u105]
    rw [jn_eq, h12, ecc]
    generalize hg13 : va_up u12 8 (upd (u12 8) c (-1)) = g13
    have h13 : g13 10 5 = nI c := by rw [← hg13, up_n (by decide), h12]
    rw [jn_eq, h13, ecc, Nat.add_sub_cancel]
  obtain ⟨T, hT⟩ : ∃ T, T = fX5_tryOut_L13 p 0 (fX3_becomeLike gT gP) := ⟨_, rfl⟩
  rw [← hT] at t1 t2
  have eA : fX1_allIce (T 8) (T 9) = fX6_allIce U := all_eq (fun k hk => t1.1.2.1.1 k hk)
  have eT : T 10 0 = nI (yr + p) := t1.1.2.2.1.1.trans (mp_year t1.2.1)
  have hk10 : ¬ 10 ≤ gF 2 0 := by rw [ef2]; exact h7
  have e5 : fX5_forecast gP gT gA gF p = (fX6_allIce U, T, va_up (va_up (va_up gF 0 (upd (gF 0) c (nI (yr + p)))) 1 (upd (gF 1) c (fX6_allIce U))) 2 (upd (gF 2) 0 (nI (c + 1)))) := by
    have eT0 : fX5_tryOut gP gT gA gF p = T := by
      unfold fX5_tryOut
      rw [jn_eq]
      exact hT.symm
    unfold fX5_forecast
    rw [eT0, jn_eq, eA, jn_eq, eT, jn_eq]
    unfold fX2_keep
    rw [if_neg hk10, ef2, ecc, nI_1]
  have hM := mX5_forecast l X h a b na nf gP gT gA gF p yr hp1 hp2 e0 hp3 ⟨c, by omega, ef2⟩ (by rw [ef2]; exact fa_of_nle h7)
  rw [e5] at hM
  dsimp only at hM
  rw [e]
  have w0 : ∀ j, j ≠ 0 → j ≠ 1 → j ≠ 7 → j ≠ 8 → fcEnd U c j = U j := fun j a0 a1 a7 a8 => by
    unfold fcEnd
    rw [up_n a8, keeps_n a0 a1, up_n a7]
  have w00 : ∀ j, j < 1024 → fcEnd U c 0 j = thr g 0 0 j := fun j hj => by
    unfold fcEnd
    rw [up_n (by decide)]
    rw [keeps1_0 hj, up_n (by decide), t3 j hj, j8 0 (by decide)]
  have w7 : fcEnd U c 7 = upd (g 7) c (fX6_allIce U) := by
    unfold fcEnd
    rw [up_n (by decide), keeps_n (j := 7) (by decide) (by decide), up_t, t4 7 (by decide) (by decide) (by decide) (by decide) (by decide) (by decide), j8 7 (by decide), thr_n (by decide)]
  have w8 : fcEnd U c 8 = upd (g 8) c (-1) := by
    unfold fcEnd
    rw [up_t, keeps_n (j := 8) (by decide) (by decide), up_n (by decide), t4 8 (by decide) (by decide) (by decide) (by decide) (by decide) (by decide), j8 8 (by decide), thr_n (by decide)]
  have w6 : fcEnd U c 6 = upd (g 6) c (nI (yr + p)) := by
    rw [w0 6 (by decide) (by decide) (by decide) (by decide), t4 6 (by decide) (by decide) (by decide) (by decide) (by decide) (by decide), j86, nI_add]
  have w2 : fcEnd U c 2 = g8 2 := by
    rw [w0 2 (by decide) (by decide) (by decide) (by decide), t4 2 (by decide) (by decide) (by decide) (by decide) (by decide) (by decide)]
  have w10 : fcEnd U c 10 = thr g 0 10 := by
    rw [w0 10 (by decide) (by decide) (by decide) (by decide), u10]
  have w3 := w0 3 (by decide) (by decide) (by decide) (by decide)
  have w4 := w0 4 (by decide) (by decide) (by decide) (by decide)
  have w5 := w0 5 (by decide) (by decide) (by decide) (by decide)
  generalize fcEnd U c = W at w0 w00 w2 w3 w4 w5 w6 w7 w8 w10 ⊢
  have v0 : ∀ j, j ≠ 10 → va_up W 10 (upd (W 10) 5 (nI (c + 1))) j = W j := fun j hj => up_n hj
  have v10 : va_up W 10 (upd (W 10) 5 (nI (c + 1))) 10 = upd (thr g 0 10) 5 (nI (c + 1)) := by rw [up_t, w10]
  generalize hV : va_up W 10 (upd (W 10) 5 (nI (c + 1))) = V at v0 v10 ⊢
  refine ⟨0, gP, T, gA, _, _, hL_forecast_ok l X h a b na nf o gP gT gA gF fo (nI p) gP T gA _ _ hM ⟨by decide, by decide⟩, ?_, fun _ => ?_, ?_⟩
  · show V 10 0 = 0
    rw [v10, pk_un (by decide)]
    exact thr_10 g 0
  · show _ = (W 7 c).toInt64
    rw [pk_uLs, w7, pk_us]
  · have m38 : RELa yr gA g8 := rela_t hyr (fun i _ => by rw [j8 0 (by decide)]) (j8 2 (by decide)) (fun i _ _ => by rw [j8 3 (by decide), j8 4 (by decide), j8 5 (by decide)]; exact ⟨rfl, rfl, rfl⟩) m3
    obtain ⟨r1, r2, r3⟩ := rb_back (v := V) m18 m28 m38 (show fl ≤ 720 by omega) (by rw [j8 0 (by decide)]; exact efl) t1.2.2.2 (fun i hi => by rw [v0 0 (by decide), w00 i hi, j8 0 (by decide)]) (fun j h0 h5 => by rw [v10, pk_un h5, j8 10 (by decide)]) (by rw [v0 2 (by decide), w2]) (by rw [v0 3 (by decide), w3]) (by rw [v0 4 (by decide), w4]) (by rw [v0 5 (by decide), w5])
    refine ⟨yr, r1, r2 _ _, r3, ?_⟩
    show RELf gP gA (va_up (va_up (va_up gF 0 (upd (gF 0) c (nI (yr + p)))) 1 (upd (gF 1) c (fX6_allIce U))) 2 (upd (gF 2) 0 (nI (c + 1)))) V
    have q0 : va_up (va_up (va_up gF 0 (upd (gF 0) c (nI (yr + p)))) 1 (upd (gF 1) c (fX6_allIce U))) 2 (upd (gF 2) 0 (nI (c + 1))) 0 = upd (gF 0) c (nI (yr + p)) := by rw [up_n (by decide), up_n (by decide), up_t]
    have q1 : va_up (va_up (va_up gF 0 (upd (gF 0) c (nI (yr + p)))) 1 (upd (gF 1) c (fX6_allIce U))) 2 (upd (gF 2) 0 (nI (c + 1))) 1 = upd (gF 1) c (fX6_allIce U) := by rw [up_n (by decide), up_t]
    have q2 : va_up (va_up (va_up gF 0 (upd (gF 0) c (nI (yr + p)))) 1 (upd (gF 1) c (fX6_allIce U))) 2 (upd (gF 2) 0 (nI (c + 1))) 2 = upd (gF 2) 0 (nI (c + 1)) := up_t _ _ _
    unfold RELf
    rw [q0, q1, q2, v10, v0 6 (by decide), v0 7 (by decide), v0 8 (by decide), w6, w7, w8, pk_us, pk_us]
    refine ⟨⟨c + 1, by omega, rfl⟩, rfl, fun f hf hfc => ?_⟩
    have hfc2 := (nI_ltI (by omega) (by omega)).mp hfc
    by_cases ce : f = c
    · subst ce
      rw [pk_us, pk_us, pk_us, pk_us, pk_us, e0, if_neg (c := nI (yr + p) ≤ nI yr) (fun q => by have := (nI_leI (by omega) (by omega)).mp q; omega)]
      exact ⟨rfl, rfl, vp_in_nI (by omega) (by decide), rfl⟩
    · rw [pk_un ce, pk_un ce, pk_un ce, pk_un ce, pk_un ce]
      have q := f3 f hf (by rw [ec0]; exact nI_lt (by omega) (by omega))
      rw [thr_n (j := 6) (by decide), thr_n (j := 7) (by decide), thr_n (j := 8) (by decide)] at q
      exact q
