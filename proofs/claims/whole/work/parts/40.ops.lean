set_option maxRecDepth 100000 in
theorem op_land (l : Launch) (hl : l.stackTraces = false) (X : zX) (h a b na nf : Nat → Nat) (o : Nat) {n : Nat} (hn : n < 512) {gP gA gF g : zG} (hR : REL n gP gA gF g) (gT : zG) (fo : Nat → Int64) (v1 v2 : Int32) : ∃ (r : Int32) (gP1 gT1 gA1 gF1 : zG) (fo1 : Nat → Int64), CE l yL_land wsL_land 9 200 1 6 X (HW h a b na nf o X gP gT gA gF fo) [.ref (h 0), .int v1, .int v2, .ref o] r (HW h a b na nf o X gP1 gT1 gA1 gF1 fo1) ∧ (fX6_land g v1 v2).2 10 0 = r ∧ (r = 0 → fo1 0 = (fX6_land g v1 v2).1.toInt64) ∧ REL (n + 1) gP1 gA1 gF1 (fX6_land g v1 v2).2 := by
  by_cases hc : vp_in v1 12
  rotate_left
  · have e : fX6_land g v1 v2 = (0, thr g 1) := by
      unfold fX6_land
      rw [cell0 hc, jn_eq, jn_eq, as3_x1, if_pos (c := (0 : Int32) = 0) rfl]
    refine ⟨1, gP, gT, gA, gF, fo, hL_land_x1 l X h a b na nf o gP gT gA gF fo v1 v2 (mX5_land_x1 l hl X h a b na nf gP gT gA gF v1 v2 hc) ⟨by decide, by decide⟩, ?_, ?_, ?_⟩
    · rw [e]; exact thr_10 g 1
    · intro h9; exact absurd h9 (by decide)
    · rw [e]; exact rel_thr 1 hR
  obtain ⟨k, hk, rfl⟩ := vp_in_of hc (by decide)
  by_cases h0 : v2 < 0 ∨ 500 < v2
  · have e : fX6_land g (nI k) v2 = (0, thr g 2) := by
      unfold fX6_land
      rw [cell1 hk, in0 h0, jn_eq, jn_eq, as3_x2, if_pos (c := (0 : Int32) = 0) rfl]
    refine ⟨2, gP, gT, gA, gF, fo, hL_land_x2 l X h a b na nf o gP gT gA gF fo (nI k) v2 (mX5_land_x2 l hl X h a b na nf gP gT gA gF k v2 hk h0) ⟨by decide, by decide⟩, ?_, ?_, ?_⟩
    · rw [e]; exact thr_10 g 2
    · intro h9; exact absurd h9 (by decide)
    · rw [e]; exact rel_thr 2 hR
  have h1 : ¬ v2 < 0 := fun q => h0 (Or.inl q)
  have h2 : ¬ 500 < v2 := fun q => h0 (Or.inr q)
  have hst := land_state hn hR hk
  by_cases h3 : fX6_iceOf g k = 0 ∧ g 0 (24 + k) = 0
  rotate_left
  · have e1 : (if fX6_isCell (nI k) = 0 then (0 : Int32) else (if (fX6_iceOf g (nI k).toNatClampNeg) = 0 then (if ((g 0) (24 + (nI k).toNatClampNeg)) = 0 then 1 else 0) else 0)) = 0 := by
      rw [cell1 hk, if_neg (c := (1 : Int32) = 0) (by decide), nI_clamp (n := k) (by omega)]
      by_cases c1 : fX6_iceOf g k = 0
      · rw [if_pos c1, if_neg (fun q => h3 ⟨c1, q⟩)]
      · rw [if_neg c1]
    have e : fX6_land g (nI k) v2 = (0, thr g 3) := by
      unfold fX6_land
      rw [e1, jn_eq, jn_eq, cell1 hk, in1 h1 h2, as3_x3, if_pos (c := (0 : Int32) = 0) rfl]
    refine ⟨3, gP, gT, gA, gF, fo, hL_land_x3 l X h a b na nf o gP gT gA gF fo (nI k) v2 (mX5_land_x3 l hl X h a b na nf gP gT gA gF k v2 hk h1 h2 (hst.mpr h3)) ⟨by decide, by decide⟩, ?_, ?_, ?_⟩
    · rw [e]; exact thr_10 g 3
    · intro h9; exact absurd h9 (by decide)
    · rw [e]; exact rel_thr 3 hR
  have hst2 : ¬ (0 < gP 8 k ∨ 0 < gP 2 k) := fun q => hst.mp q h3
  have e : fX6_land g (nI k) v2 = (g 0 k, va_up (va_up (thr g 0) 0 (upd (thr g 0 0) k v2)) 0 (upd (upd (thr g 0 0) k v2) (12 + k) v2)) := by
    have e1 : (if fX6_isCell (nI k) = 0 then (0 : Int32) else (if (fX6_iceOf g (nI k).toNatClampNeg) = 0 then (if ((g 0) (24 + (nI k).toNatClampNeg)) = 0 then 1 else 0) else 0)) = 1 := by
      rw [cell1 hk, if_neg (c := (1 : Int32) = 0) (by decide), nI_clamp (n := k) (by omega), if_pos h3.1, if_pos h3.2]
    unfold fX6_land
    rw [e1, jn_eq, jn_eq, cell1 hk, in1 h1 h2, as3_1, if_neg (c := (1 : Int32) = 0) (by decide)]
    dsimp only
    rw [nI_clamp (n := k) (by omega), Nat.zero_add, thr_n (j := 0) (by decide)]
  refine ⟨0, (fX5_land gP gT gA gF k v2).2, gT, gA, gF, _, hL_land_ok l X h a b na nf o gP gT gA gF fo (nI k) v2 _ gT gA gF _ (mX5_land l X h a b na nf gP gT gA gF k v2 hk h1 h2 (fun q => hst2 (Or.inl q)) (fun q => hst2 (Or.inr q))) ⟨by decide, by decide⟩, ?_, fun _ => ?_, ?_⟩
  · rw [e]
    dsimp only
    rw [up_n (j := 10) (k := 0) (by decide), up_n (j := 10) (k := 0) (by decide), thr_10]
  · rw [pk_uLs, e]
    show (gP 0 k).toInt64 = (g 0 k).toInt64
    rw [(rel_k hR hk).2.1]
  · rw [e]
    exact rel_land gT hk h1 h2 (rel_thr 0 hR)
set_option maxRecDepth 100000 in
theorem op_sea (l : Launch) (hl : l.stackTraces = false) (X : zX) (h a b na nf : Nat → Nat) (o : Nat) {n : Nat} (hn : n < 512) {gP gA gF g : zG} (hR : REL n gP gA gF g) (gT : zG) (fo : Nat → Int64) (v1 : Int32) : ∃ (r : Int32) (gP1 gT1 gA1 gF1 : zG) (fo1 : Nat → Int64), CE l yL_sea wsL_sea 9 200 1 6 X (HW h a b na nf o X gP gT gA gF fo) [.ref (h 0), .int v1, .ref o] r (HW h a b na nf o X gP1 gT1 gA1 gF1 fo1) ∧ (fX6_sea g v1).2 10 0 = r ∧ (r = 0 → fo1 0 = (fX6_sea g v1).1.toInt64) ∧ REL (n + 1) gP1 gA1 gF1 (fX6_sea g v1).2 := by
  by_cases h0 : v1 < 0 ∨ 500 < v1
  · have e : fX6_sea g v1 = (0, thr g 1) := by
      unfold fX6_sea
      rw [in0 h0, as1_0, jn_eq, if_pos (c := (0 : Int32) = 0) rfl]
    refine ⟨1, gP, gT, gA, gF, fo, hL_sea_x1 l X h a b na nf o gP gT gA gF fo v1 (mX5_sea_x1 l hl X h a b na nf gP gT gA gF v1 h0) ⟨by decide, by decide⟩, ?_, ?_, ?_⟩
    · rw [e]; exact thr_10 g 1
    · intro h9; exact absurd h9 (by decide)
    · rw [e]; exact rel_thr 1 hR
  have h1 : ¬ v1 < 0 := fun q => h0 (Or.inl q)
  have h2 : ¬ 500 < v1 := fun q => h0 (Or.inr q)
  have e : fX6_sea g v1 = (g 10 1, va_up (thr g 0) 10 (upd (thr g 0 10) 1 v1)) := by
    unfold fX6_sea
    rw [in1 h1 h2, as1_1, jn_eq, if_neg (c := (1 : Int32) = 0) (by decide)]
    dsimp only
    rw [thr_m (j := 1) (by decide)]
  refine ⟨0, (fX5_sea gP gT gA gF v1).2, gT, gA, gF, _, hL_sea_ok l X h a b na nf o gP gT gA gF fo v1 _ gT gA gF _ (mX5_sea l X h a b na nf gP gT gA gF v1 h1 h2) ⟨by decide, by decide⟩, ?_, fun _ => ?_, ?_⟩
  · rw [e]
    show va_up (thr g 0) 10 (upd (thr g 0 10) 1 v1) 10 0 = 0
    unfold va_up
    rw [if_pos rfl, pk_un (by decide), thr_10]
  · rw [pk_uLs, e]
    obtain ⟨yr, -, hc, -⟩ := hR
    show (gP 10 1).toInt64 = (g 10 1).toInt64
    rw [hc.2.2.2.1.2.1]
  · rw [e]
    exact rel_sea v1 (rel_thr 0 hR)
set_option maxRecDepth 100000 in
theorem op_climate (l : Launch) (hl : l.stackTraces = false) (X : zX) (h a b na nf : Nat → Nat) (o : Nat) {n : Nat} (hn : n < 512) {gP gA gF g : zG} (hR : REL n gP gA gF g) (gT : zG) (fo : Nat → Int64) (v1 v2 v3 : Int32) : ∃ (r : Int32) (gP1 gT1 gA1 gF1 : zG) (fo1 : Nat → Int64), CE l yL_climate wsL_climate 9 200 1 6 X (HW h a b na nf o X gP gT gA gF fo) [.ref (h 0), .int v1, .int v2, .int v3] r (HW h a b na nf o X gP1 gT1 gA1 gF1 fo1) ∧ (fX6_climate g v1 v2 v3) 10 0 = r ∧ REL (n + 1) gP1 gA1 gF1 (fX6_climate g v1 v2 v3) := by
  by_cases h0 : v1 < (-300) ∨ 300 < v1
  · have e : fX6_climate g v1 v2 v3 = thr g 1 := by
      unfold fX6_climate
      rw [in0 h0, if_pos (c := (0 : Int32) = 0) rfl, jn_eq, as1_0, jn_eq, if_pos (c := (0 : Int32) = 0) rfl]
    refine ⟨1, gP, gT, gA, gF, fo, hL_climate_x1 l X h a b na nf o gP gT gA gF fo v1 v2 v3 (mX5_climate_x1 l hl X h a b na nf gP gT gA gF v1 v2 v3 h0) ⟨by decide, by decide⟩, ?_, ?_⟩
    · rw [e]; exact thr_10 g 1
    · rw [e]; exact rel_thr 1 hR
  have h1 : ¬ v1 < (-300) := fun q => h0 (Or.inl q)
  have h2 : ¬ 300 < v1 := fun q => h0 (Or.inr q)
  by_cases h3 : v2 < 0 ∨ 20 < v2
  · have e : fX6_climate g v1 v2 v3 = thr g 1 := by
      unfold fX6_climate
      rw [in1 h1 h2, if_neg (c := (1 : Int32) = 0) (by decide), in0 h3, if_pos (c := (0 : Int32) = 0) rfl, jn_eq, as1_0, jn_eq, if_pos (c := (0 : Int32) = 0) rfl]
    refine ⟨1, gP, gT, gA, gF, fo, hL_climate_x1 l X h a b na nf o gP gT gA gF fo v1 v2 v3 (mX5_climate_x2 l hl X h a b na nf gP gT gA gF v1 v2 v3 h1 h2 h3) ⟨by decide, by decide⟩, ?_, ?_⟩
    · rw [e]; exact thr_10 g 1
    · rw [e]; exact rel_thr 1 hR
  have h4 : ¬ v2 < 0 := fun q => h3 (Or.inl q)
  have h5 : ¬ 20 < v2 := fun q => h3 (Or.inr q)
  by_cases h6 : v3 < 0 ∨ 9 < v3
  · have e : fX6_climate g v1 v2 v3 = thr g 1 := by
      unfold fX6_climate
      rw [in1 h1 h2, if_neg (c := (1 : Int32) = 0) (by decide), in1 h4 h5, if_neg (c := (1 : Int32) = 0) (by decide), in0 h6, if_pos (c := (0 : Int32) = 0) rfl, jn_eq, as1_0, jn_eq, if_pos (c := (0 : Int32) = 0) rfl]
    refine ⟨1, gP, gT, gA, gF, fo, hL_climate_x1 l X h a b na nf o gP gT gA gF fo v1 v2 v3 (mX5_climate_x3 l hl X h a b na nf gP gT gA gF v1 v2 v3 h1 h2 h4 h5 h6) ⟨by decide, by decide⟩, ?_, ?_⟩
    · rw [e]; exact thr_10 g 1
    · rw [e]; exact rel_thr 1 hR
  have h7 : ¬ v3 < 0 := fun q => h6 (Or.inl q)
  have h8 : ¬ 9 < v3 := fun q => h6 (Or.inr q)
  have e : fX6_climate g v1 v2 v3 = (fX5_climate (thr g 0) gT gA gF v1 v2 v3) := by
    unfold fX6_climate
    rw [in1 h1 h2, in1 h4 h5, in1 h7 h8, if_neg (c := (1 : Int32) = 0) (by decide), if_neg (c := (1 : Int32) = 0) (by decide), if_neg (c := (1 : Int32) = 0) (by decide), jn_eq, as1_1, jn_eq, if_neg (c := (1 : Int32) = 0) (by decide)]
    rfl
  refine ⟨0, fX5_climate gP gT gA gF v1 v2 v3, gT, gA, gF, fo, hL_climate_ok l X h a b na nf o gP gT gA gF fo v1 v2 v3 _ gT gA gF (mX5_climate l X h a b na nf gP gT gA gF v1 v2 v3 h1 h2 h4 h5 h7 h8) ⟨by decide, by decide⟩, ?_, ?_⟩
  · rw [e]
    unfold fX5_climate va_up
    rw [if_pos rfl, pk_un (by decide), pk_un (by decide), pk_un (by decide), thr_10]
  · rw [e]
    exact rel_climate gT gA gF h1 h2 h4 h5 h7 h8 (rel_thr 0 hR)
set_option maxRecDepth 100000 in
theorem op_ice (l : Launch) (hl : l.stackTraces = false) (X : zX) (h a b na nf : Nat → Nat) (o : Nat) {n : Nat} (hn : n < 512) {gP gA gF g : zG} (hR : REL n gP gA gF g) (gT : zG) (fo : Nat → Int64) (v1 v2 : Int32) : ∃ (r : Int32) (gP1 gT1 gA1 gF1 : zG) (fo1 : Nat → Int64), CE l yL_ice wsL_ice 9 200 1 6 X (HW h a b na nf o X gP gT gA gF fo) [.ref (h 0), .int v1, .int v2, .ref o] r (HW h a b na nf o X gP1 gT1 gA1 gF1 fo1) ∧ (fX6_ice g v1 v2).2 10 0 = r ∧ (r = 0 → fo1 0 = (fX6_ice g v1 v2).1.toInt64) ∧ REL (n + 1) gP1 gA1 gF1 (fX6_ice g v1 v2).2 := by
  by_cases hc : vp_in v1 12
  rotate_left
  · have e : fX6_ice g v1 v2 = (0, thr g 1) := by
      unfold fX6_ice
      rw [cell0 hc, jn_eq, as3_x1, jn_eq, if_pos (c := (0 : Int32) = 0) rfl]
    refine ⟨1, gP, gT, gA, gF, fo, hL_ice_x1 l X h a b na nf o gP gT gA gF fo v1 v2 (mX5_ice_x1 l hl X h a b na nf gP gT gA gF v1 v2 hc) ⟨by decide, by decide⟩, ?_, ?_, ?_⟩
    · rw [e]; exact thr_10 g 1
    · intro h9; exact absurd h9 (by decide)
    · rw [e]; exact rel_thr 1 hR
  obtain ⟨k, hk, rfl⟩ := vp_in_of hc (by decide)
  by_cases h0 : v2 < 1 ∨ 999 < v2
  · have e : fX6_ice g (nI k) v2 = (0, thr g 2) := by
      unfold fX6_ice
      rw [cell1 hk, in0 h0, jn_eq, as3_x2, jn_eq, if_pos (c := (0 : Int32) = 0) rfl]
    refine ⟨2, gP, gT, gA, gF, fo, hL_ice_x2 l X h a b na nf o gP gT gA gF fo (nI k) v2 (mX5_ice_x2 l hl X h a b na nf gP gT gA gF k v2 hk h0) ⟨by decide, by decide⟩, ?_, ?_, ?_⟩
    · rw [e]; exact thr_10 g 2
    · intro h9; exact absurd h9 (by decide)
    · rw [e]; exact rel_thr 2 hR
  have h1 : ¬ v2 < 1 := fun q => h0 (Or.inl q)
  have h2 : ¬ 999 < v2 := fun q => h0 (Or.inr q)
  have h8 := (rel_k hR hk).2.2.2.2.2.2.2
  by_cases h3 : 9999 < fX6_iceOf g k + v2
  · have e : fX6_ice g (nI k) v2 = (0, thr g 3) := by
      unfold fX6_ice
      rw [cell1 hk, if_neg (c := (1 : Int32) = 0) (by decide), in1 h1 h2, if_neg (c := (1 : Int32) = 0) (by decide), nI_clamp (n := k) (by omega), if_pos h3, jn_eq, as3_x3, jn_eq, if_pos (c := (0 : Int32) = 0) rfl]
    refine ⟨3, gP, gT, gA, gF, fo, hL_ice_x3 l X h a b na nf o gP gT gA gF fo (nI k) v2 (mX5_ice_x3 l hl X h a b na nf gP gT gA gF k v2 hk h1 h2 (by rw [h8]; exact h3)) ⟨by decide, by decide⟩, ?_, ?_, ?_⟩
    · rw [e]; exact thr_10 g 3
    · intro h9; exact absurd h9 (by decide)
    · rw [e]; exact rel_thr 3 hR
  have hR0 := hR
  obtain ⟨yr, m1, m2, m3, m4⟩ := hR
  have hyr := mp_yr m1
  have ey : (nI yr).toNatClampNeg = yr := nI_clamp (by omega)
  have e0 : gP 10 0 = nI yr := by rw [m2.2.2.2.1.1]; exact mp_year m1
  have hv : vp_in (gP 10 0) 61 := by rw [e0]; exact vp_in_nI (by omega) (by decide)
  have e : fX6_ice g (nI k) v2 = (fX6_iceOf (gIced (thr g 0) k yr v2) k, gIced (thr g 0) k yr v2) := by
    unfold fX6_ice
    rw [cell1 hk, if_neg (c := (1 : Int32) = 0) (by decide), in1 h1 h2, if_neg (c := (1 : Int32) = 0) (by decide), nI_clamp (n := k) (by omega), if_neg h3, jn_eq, as3_1, jn_eq, if_neg (c := (1 : Int32) = 0) (by decide)]
    dsimp only
    rw [thr_n (j := 0) (by decide), mp_year m1, ey]
    unfold gIced
    rw [thr_n (j := 0) (by decide)]
  refine ⟨0, (fX5_ice gP gT gA gF k v2).2, gT, gA, gF, _, hL_ice_ok l X h a b na nf o gP gT gA gF fo (nI k) v2 _ gT gA gF _ (mX5_ice l X h a b na nf gP gT gA gF k v2 hk h1 h2 (by rw [h8]; exact h3) hv) ⟨by decide, by decide⟩, ?_, fun _ => ?_, ?_⟩
  · rw [e]
    dsimp only
    unfold gIced
    rw [up_n (j := 10) (k := 0) (by decide), up_n (j := 10) (k := 0) (by decide), thr_10]
  · rw [pk_uLs, e]
    have e9 : (fX5_ice gP gT gA gF k v2).1 = gP 8 k + v2 := by
      show upd (gP 8) k (gP 8 k + v2) k = _
      exact pk_us
    rw [e9, gIced_ice hk (by omega), h8, iceOf_c (g := g) (g1 := thr g 0) (fun j _ => by rw [thr_n (by decide)])]
  · rw [e]
    exact rel_iced gT hn hk h1 h2 hR0 (mp_year m1) hyr
set_option maxRecDepth 100000 in
theorem op_ash (l : Launch) (hl : l.stackTraces = false) (X : zX) (h a b na nf : Nat → Nat) (o : Nat) {n : Nat} (hn : n < 512) {gP gA gF g : zG} (hR : REL n gP gA gF g) (gT : zG) (fo : Nat → Int64) : ∃ (gP1 gT1 gA1 gF1 : zG), CI l yX5_ash wsX5_ash 0 0 0 0 X (IW h a b na nf X gP gT gA gF) [.ref (h 0)] (fX6_ash g).1 (IW h a b na nf X gP1 gT1 gA1 gF1) ∧ REL (n + 1) gP1 gA1 gF1 (fX6_ash g).2 := by
  have hR0 := hR
  obtain ⟨yr, h1, h2, h3, h4⟩ := hR
  have hy := mp_yr h1
  have e0 : gP 10 0 = nI yr := by rw [h2.2.2.2.1.1]; exact mp_year h1
  have ec : (nI yr).toNatClampNeg = yr := nI_clamp (by omega)
  have hv : vp_in (gP 10 0) 61 := by rw [e0]; exact vp_in_nI (by omega) (by decide)
  have hb : ∀ i, i < 61 → gA 0 i = 0 ∨ gA 0 i = 1 := fun i hi => by rw [(h3.1 i hi).1]; exact (h3.1 i hi).2
  refine ⟨gP, gT, (fX5_ash gP gT gA gF).2, gF, ?_, ?_⟩
  · have e : (fX6_ash g).1 = (fX5_ash gP gT gA gF).1 := by
      show g 2 (g 0 89).toNatClampNeg = gA 0 (gP 10 0).toNatClampNeg
      rw [e0, mp_year h1, ec, (h3.1 yr (by omega)).1]
    rw [e]
    exact mX5_ash l X h a b na nf gP gT gA gF hv hb
  · have e1 : (fX6_ash g).2 = va_up (thr g 0) 2 (upd (thr g 0 2) yr 1) := by
      show va_up (thr g 0) 2 (upd (g 2) (g 0 89).toNatClampNeg (vp_nar .boolean 1)) = _
      rw [mp_year h1, ec, thr_n (by decide)]
      rfl
    have e2 : (fX5_ash gP gT gA gF).2 = va_up gA 0 (upd (gA 0) yr 1) := by
      show va_up gA 0 (upd (gA 0) (gP 10 0).toNatClampNeg (vp_nar .boolean 1)) = _
      rw [e0, ec]
      rfl
    rw [e1, e2]
    exact rel_ashed (by omega) (rel_thr 0 hR0)
set_option maxRecDepth 100000 in
theorem op_cellIs (l : Launch) (hl : l.stackTraces = false) (X : zX) (h a b na nf : Nat → Nat) (o : Nat) {n : Nat} (hn : n < 512) {gP gA gF g : zG} (hR : REL n gP gA gF g) (gT : zG) (fo : Nat → Int64) (v1 v2 : Int32) : ∃ (r : Int32) (gP1 gT1 gA1 gF1 : zG) (fo1 : Nat → Int64), CE l yL_cellIs wsL_cellIs 9 200 1 6 X (HW h a b na nf o X gP gT gA gF fo) [.ref (h 0), .int v1, .int v2, .ref o] r (HW h a b na nf o X gP1 gT1 gA1 gF1 fo1) ∧ (fX6_cellIs g v1 v2).2 10 0 = r ∧ (r = 0 → fo1 0 = (fX6_cellIs g v1 v2).1.toInt64) ∧ REL (n + 1) gP1 gA1 gF1 (fX6_cellIs g v1 v2).2 := by
  by_cases hc : vp_in v1 12
  rotate_left
  · have e : fX6_cellIs g v1 v2 = (0, thr g 1) := by
      unfold fX6_cellIs
      rw [cell0 hc, as2_x1, jn_eq, if_pos (c := (0 : Int32) = 0) rfl]
    refine ⟨1, gP, gT, gA, gF, fo, hL_cellIs_x1 l X h a b na nf o gP gT gA gF fo v1 v2 (mX5_cellIs_x1 l hl X h a b na nf gP gT gA gF v1 v2 hc) ⟨by decide, by decide⟩, ?_, ?_, ?_⟩
    · rw [e]; exact thr_10 g 1
    · intro h9; exact absurd h9 (by decide)
    · rw [e]; exact rel_thr 1 hR
  obtain ⟨k, hk, rfl⟩ := vp_in_of hc (by decide)
  by_cases h0 : v2 < 0 ∨ 9 < v2
  · have e : fX6_cellIs g (nI k) v2 = (0, thr g 2) := by
      unfold fX6_cellIs
      rw [cell1 hk, in0 h0, as2_x2, jn_eq, if_pos (c := (0 : Int32) = 0) rfl]
    refine ⟨2, gP, gT, gA, gF, fo, hL_cellIs_x2 l X h a b na nf o gP gT gA gF fo (nI k) v2 (mX5_cellIs_x2 l hl X h a b na nf gP gT gA gF k v2 hk h0) ⟨by decide, by decide⟩, ?_, ?_, ?_⟩
    · rw [e]; exact thr_10 g 2
    · intro h9; exact absurd h9 (by decide)
    · rw [e]; exact rel_thr 2 hR
  have h1 : ¬ v2 < 0 := fun q => h0 (Or.inl q)
  have h2 : ¬ 9 < v2 := fun q => h0 (Or.inr q)
  obtain ⟨w, hw, rfl⟩ := rng_nat 9 (by decide) h1 h2
  have e : fX6_cellIs g (nI k) (nI w) = (fX6_tells (thr g 0) k (nI w), thr g 0) := by
    unfold fX6_cellIs
    rw [cell1 hk, in1 h1 h2, as2_1, jn_eq, if_neg (c := (1 : Int32) = 0) (by decide)]
    dsimp only
    rw [nI_clamp (n := k) (by omega)]
  refine ⟨0, gP, gT, gA, gF, _, hL_cellIs_ok l X h a b na nf o gP gT gA gF fo (nI k) (nI w) gP gT gA gF _ (mX5_cellIs l X h a b na nf gP gT gA gF k w hk hw) ⟨by decide, by decide⟩, ?_, fun _ => ?_, ?_⟩
  · rw [e]; exact thr_10 g 0
  · rw [pk_uLs, e]
    have hR1 := rel_thr 0 hR
    have hq := rel_k hR1 hk
    obtain ⟨yr, -, hc2, -⟩ := hR1
    unfold fX5_cellIs
    rw [tell_eq hw hq.1.2 hq.2 hc2.2.2.2.1.2.1]
  · rw [e]; exact rel_thr 0 hR
set_option maxRecDepth 100000 in
theorem op_layer (l : Launch) (hl : l.stackTraces = false) (X : zX) (h a b na nf : Nat → Nat) (o : Nat) {n : Nat} (hn : n < 512) {gP gA gF g : zG} (hR : REL n gP gA gF g) (gT : zG) (fo : Nat → Int64) (v1 v2 : Int32) : ∃ (r : Int32) (gP1 gT1 gA1 gF1 : zG) (fo1 : Nat → Int64), CE l yL_layer wsL_layer 9 200 1 6 X (HW h a b na nf o X gP gT gA gF fo) [.ref (h 0), .int v1, .int v2, .ref o] r (HW h a b na nf o X gP1 gT1 gA1 gF1 fo1) ∧ (fX6_layer g v1 v2).2 10 0 = r ∧ (r = 0 → fo1 0 = (fX6_layer g v1 v2).1.toInt64) ∧ REL (n + 1) gP1 gA1 gF1 (fX6_layer g v1 v2).2 := by
  by_cases hc : vp_in v1 12
  rotate_left
  · have e : fX6_layer g v1 v2 = (0, thr g 1) := by
      unfold fX6_layer
      rw [cell0 hc, as2_x1, jn_eq, if_pos (c := (0 : Int32) = 0) rfl]
    refine ⟨1, gP, gT, gA, gF, fo, hL_layer_x1 l X h a b na nf o gP gT gA gF fo v1 v2 (mX5_layer_x1 l hl X h a b na nf gP gT gA gF v1 v2 hc) ⟨by decide, by decide⟩, ?_, ?_, ?_⟩
    · rw [e]; exact thr_10 g 1
    · intro h9; exact absurd h9 (by decide)
    · rw [e]; exact rel_thr 1 hR
  obtain ⟨k, hk, rfl⟩ := vp_in_of hc (by decide)
  by_cases h0 : v2 < 0 ∨ 60 < v2
  · have e : fX6_layer g (nI k) v2 = (0, thr g 2) := by
      unfold fX6_layer
      rw [cell1 hk, in0 h0, as2_x2, jn_eq, if_pos (c := (0 : Int32) = 0) rfl]
    refine ⟨2, gP, gT, gA, gF, fo, hL_layer_x2 l X h a b na nf o gP gT gA gF fo (nI k) v2 (mX5_layer_x2 l hl X h a b na nf gP gT gA gF k v2 hk h0) ⟨by decide, by decide⟩, ?_, ?_, ?_⟩
    · rw [e]; exact thr_10 g 2
    · intro h9; exact absurd h9 (by decide)
    · rw [e]; exact rel_thr 2 hR
  have h1 : ¬ v2 < 0 := fun q => h0 (Or.inl q)
  have h2 : ¬ 60 < v2 := fun q => h0 (Or.inr q)
  obtain ⟨y, hy, rfl⟩ := rng_nat 60 (by decide) h1 h2
  have e : fX6_layer g (nI k) (nI y) = (g 0 (100 + 61 * k + y), thr g 0) := by
    unfold fX6_layer
    rw [cell1 hk, in1 h1 h2, as2_1, jn_eq, if_neg (c := (1 : Int32) = 0) (by decide)]
    dsimp only
    rw [thr_n (j := 0) (by decide), nI_clamp (n := k) (by omega), nI_clamp (n := y) (by omega)]
  refine ⟨0, gP, gT, gA, gF, _, hL_layer_ok l X h a b na nf o gP gT gA gF fo (nI k) (nI y) gP gT gA gF _ (mX5_layer l X h a b na nf gP gT gA gF k y hk hy) ⟨by decide, by decide⟩, ?_, fun _ => ?_, ?_⟩
  · rw [e]; exact thr_10 g 0
  · rw [pk_uLs, e]
    obtain ⟨yr, -, hc2, -⟩ := hR
    show (gP 9 (k * 61 + y)).toInt64 = _
    rw [hc2.2.2.1 k y hk hy]
  · rw [e]; exact rel_thr 0 hR
set_option maxRecDepth 100000 in
theorem op_yearAt (l : Launch) (hl : l.stackTraces = false) (X : zX) (h a b na nf : Nat → Nat) (o : Nat) {n : Nat} (hn : n < 512) {gP gA gF g : zG} (hR : REL n gP gA gF g) (gT : zG) (fo : Nat → Int64) (v1 v2 : Int32) : ∃ (r : Int32) (gP1 gT1 gA1 gF1 : zG) (fo1 : Nat → Int64), CE l yL_yearAt wsL_yearAt 9 200 1 6 X (HW h a b na nf o X gP gT gA gF fo) [.ref (h 0), .int v1, .int v2, .ref o] r (HW h a b na nf o X gP1 gT1 gA1 gF1 fo1) ∧ (fX6_yearAt g v1 v2).2 10 0 = r ∧ (r = 0 → fo1 0 = (fX6_yearAt g v1 v2).1.toInt64) ∧ REL (n + 1) gP1 gA1 gF1 (fX6_yearAt g v1 v2).2 := by
  by_cases hc : vp_in v1 12
  rotate_left
  · have e : fX6_yearAt g v1 v2 = (0, thr g 1) := by
      unfold fX6_yearAt
      rw [cell0 hc, jn_eq, as2_x1, jn_eq, if_pos (c := (0 : Int32) = 0) rfl]
    refine ⟨1, gP, gT, gA, gF, fo, hL_yearAt_x1 l X h a b na nf o gP gT gA gF fo v1 v2 (mX5_yearAt_x1 l hl X h a b na nf gP gT gA gF v1 v2 hc) ⟨by decide, by decide⟩, ?_, ?_, ?_⟩
    · rw [e]; exact thr_10 g 1
    · intro h9; exact absurd h9 (by decide)
    · rw [e]; exact rel_thr 1 hR
  obtain ⟨k, hk, rfl⟩ := vp_in_of hc (by decide)
  by_cases h0 : v2 < 0
  · have e : fX6_yearAt g (nI k) v2 = (0, thr g 2) := by
      unfold fX6_yearAt
      rw [if_pos h0, cell1 hk, jn_eq, as2_x2, jn_eq, if_pos (c := (0 : Int32) = 0) rfl]
    refine ⟨2, gP, gT, gA, gF, fo, hL_yearAt_x2 l X h a b na nf o gP gT gA gF fo (nI k) v2 (mX5_yearAt_x2 l hl X h a b na nf gP gT gA gF k v2 hk h0) ⟨by decide, by decide⟩, ?_, ?_, ?_⟩
    · rw [e]; exact thr_10 g 2
    · intro h9; exact absurd h9 (by decide)
    · rw [e]; exact rel_thr 2 hR
  have e : fX6_yearAt g (nI k) v2 = (fX1_yearBelow_L6 (gP 8) (gP 9) k 61 v2, thr g 0) := by
    have hR1 := rel_thr 0 hR
    obtain ⟨yr, -, hc2, -⟩ := hR1
    unfold fX6_yearAt
    rw [if_neg h0, cell1 hk, jn_eq, as2_1, jn_eq, if_neg (c := (1 : Int32) = 0) (by decide)]
    exact yb_eq (g := g) hk (fun j hj => (hc2.2.2.1 k j hk hj).symm) 61 v2 (Nat.le_refl 61)
  refine ⟨0, gP, gT, gA, gF, _, hL_yearAt_ok l X h a b na nf o gP gT gA gF fo (nI k) v2 gP gT gA gF _ (mX5_yearAt l X h a b na nf gP gT gA gF k v2 hk h0) ⟨by decide, by decide⟩, ?_, fun _ => ?_, ?_⟩
  · rw [e]; exact thr_10 g 0
  · rw [pk_uLs, e]
    rfl
  · rw [e]; exact rel_thr 0 hR
set_option maxRecDepth 100000 in
theorem op_common (l : Launch) (hl : l.stackTraces = false) (X : zX) (h a b na nf : Nat → Nat) (o : Nat) {n : Nat} (hn : n < 512) {gP gA gF g : zG} (hR : REL n gP gA gF g) (gT : zG) (fo : Nat → Int64) (v1 v2 : Int32) : ∃ (r : Int32) (gP1 gT1 gA1 gF1 : zG) (fo1 : Nat → Int64), CE l yL_common wsL_common 9 200 1 6 X (HW h a b na nf o X gP gT gA gF fo) [.ref (h 0), .int v1, .int v2, .ref o] r (HW h a b na nf o X gP1 gT1 gA1 gF1 fo1) ∧ (fX6_common g v1 v2).2 10 0 = r ∧ (r = 0 → fo1 0 = (fX6_common g v1 v2).1.toInt64) ∧ REL (n + 1) gP1 gA1 gF1 (fX6_common g v1 v2).2 := by
  by_cases hc : vp_in v1 12
  rotate_left
  · have e : fX6_common g v1 v2 = (0, thr g 1) := by
      unfold fX6_common
      rw [cell0 hc, if_pos (c := (0 : Int32) = 0) rfl, jn_eq, as1_0, jn_eq, if_pos (c := (0 : Int32) = 0) rfl]
    refine ⟨1, gP, gT, gA, gF, fo, hL_common_x1 l X h a b na nf o gP gT gA gF fo v1 v2 (mX5_common_x1 l hl X h a b na nf gP gT gA gF v1 v2 hc) ⟨by decide, by decide⟩, ?_, ?_, ?_⟩
    · rw [e]; exact thr_10 g 1
    · intro h9; exact absurd h9 (by decide)
    · rw [e]; exact rel_thr 1 hR
  obtain ⟨k, hk, rfl⟩ := vp_in_of hc (by decide)
  by_cases hc2 : vp_in v2 12
  rotate_left
  · have e : fX6_common g (nI k) v2 = (0, thr g 1) := by
      unfold fX6_common
      rw [cell1 hk, if_neg (c := (1 : Int32) = 0) (by decide), cell0 hc2, if_pos (c := (0 : Int32) = 0) rfl, jn_eq, as1_0, jn_eq, if_pos (c := (0 : Int32) = 0) rfl]
    refine ⟨1, gP, gT, gA, gF, fo, hL_common_x1 l X h a b na nf o gP gT gA gF fo (nI k) v2 (mX5_common_x2 l hl X h a b na nf gP gT gA gF k v2 hk hc2) ⟨by decide, by decide⟩, ?_, ?_, ?_⟩
    · rw [e]; exact thr_10 g 1
    · intro h9; exact absurd h9 (by decide)
    · rw [e]; exact rel_thr 1 hR
  obtain ⟨j, hj, rfl⟩ := vp_in_of hc2 (by decide)
  have e : fX6_common g (nI k) (nI j) = (fX5_common_L13 gP gA k j 61 0 0, thr g 0) := by
    have hR1 := rel_thr 0 hR
    obtain ⟨yr, -, hc3, ha, -⟩ := hR1
    unfold fX6_common
    rw [cell1 hk, cell1 hj, if_neg (c := (1 : Int32) = 0) (by decide), if_neg (c := (1 : Int32) = 0) (by decide), jn_eq, as1_1, jn_eq, if_neg (c := (1 : Int32) = 0) (by decide)]
    exact com_eq (g := g) hk hj (fun c y hc4 hy => (hc3.2.2.1 c y hc4 hy).symm) (fun y hy => (ha.1 y hy).1.symm) 61 0 0 rfl
  refine ⟨0, gP, gT, gA, gF, _, hL_common_ok l X h a b na nf o gP gT gA gF fo (nI k) (nI j) gP gT gA gF _ (mX5_common l X h a b na nf gP gT gA gF k j hk hj) ⟨by decide, by decide⟩, ?_, fun _ => ?_, ?_⟩
  · rw [e]; exact thr_10 g 0
  · rw [pk_uLs, e]
    rfl
  · rw [e]; exact rel_thr 0 hR
set_option maxRecDepth 100000 in
theorem op_floods (l : Launch) (hl : l.stackTraces = false) (X : zX) (h a b na nf : Nat → Nat) (o : Nat) {n : Nat} (hn : n < 512) {gP gA gF g : zG} (hR : REL n gP gA gF g) (gT : zG) (fo : Nat → Int64) : ∃ (gP1 gT1 gA1 gF1 : zG), CI l yX5_floods wsX5_floods 0 0 0 0 X (IW h a b na nf X gP gT gA gF) [.ref (h 0)] (fX6_floods g).1 (IW h a b na nf X gP1 gT1 gA1 gF1) ∧ REL (n + 1) gP1 gA1 gF1 (fX6_floods g).2 := by
  obtain ⟨yr, h1, h2, h3, h4⟩ := hR
  refine ⟨gP, gT, gA, gF, ?_, rel_thr 0 ⟨yr, h1, h2, h3, h4⟩⟩
  have e : (fX6_floods g).1 = fX5_floods gP gT gA gF := h3.2.2.1.symm
  rw [e]
  exact mX5_floods l X h a b na nf gP gT gA gF
set_option maxRecDepth 100000 in
theorem op_flood (l : Launch) (hl : l.stackTraces = false) (X : zX) (h a b na nf : Nat → Nat) (o : Nat) {n : Nat} (hn : n < 512) {gP gA gF g : zG} (hR : REL n gP gA gF g) (gT : zG) (fo : Nat → Int64) (v1 v2 : Int32) : ∃ (r : Int32) (gP1 gT1 gA1 gF1 : zG) (fo1 : Nat → Int64), CE l yL_flood wsL_flood 9 200 1 6 X (HW h a b na nf o X gP gT gA gF fo) [.ref (h 0), .int v1, .int v2, .ref o] r (HW h a b na nf o X gP1 gT1 gA1 gF1 fo1) ∧ (fX6_flood g v1 v2).2 10 0 = r ∧ (r = 0 → fo1 0 = (fX6_flood g v1 v2).1.toInt64) ∧ REL (n + 1) gP1 gA1 gF1 (fX6_flood g v1 v2).2 := by
  have hR0 := hR
  obtain ⟨yr, h1, h2, h3, h4⟩ := hR
  have hR := hR0
  have hyr := mp_yr h1
  obtain ⟨fl, hfl, efl⟩ := mp_fl h1
  have e0 : gA 6 0 = nI fl := by rw [h3.2.2.1]; exact efl
  by_cases h0 : v1 < 0 ∨ nI fl ≤ v1
  · have e : fX6_flood g v1 v2 = (0, thr g 1) := by
      unfold fX6_flood
      rw [efl, in0 (cnt_x (by omega) h0), as2_x1, jn_eq, if_pos (c := (0 : Int32) = 0) rfl]
    refine ⟨1, gP, gT, gA, gF, fo, hL_flood_x1 l X h a b na nf o gP gT gA gF fo v1 v2 (mX5_flood_x1 l hl X h a b na nf gP gT gA gF v1 v2 (by rw [e0]; exact h0)) ⟨by decide, by decide⟩, ?_, ?_, ?_⟩
    · rw [e]; exact thr_10 g 1
    · intro h9; exact absurd h9 (by decide)
    · rw [e]; exact rel_thr 1 hR
  obtain ⟨f, hf, rfl⟩ := cnt_n (by omega) h0
  have h5 := cnt_1 (n := fl) (f := f) (by omega) hf
  have h6 : nI f < gA 6 0 := by rw [e0]; exact nI_lt hf (by omega)
  by_cases h7 : v2 < 0 ∨ 2 < v2
  · have e : fX6_flood g (nI f) v2 = (0, thr g 2) := by
      unfold fX6_flood
      rw [efl, in1 h5.1 h5.2, in0 h7, as2_x2, jn_eq, if_pos (c := (0 : Int32) = 0) rfl]
    refine ⟨2, gP, gT, gA, gF, fo, hL_flood_x2 l X h a b na nf o gP gT gA gF fo (nI f) v2 (mX5_flood_x2 l hl X h a b na nf gP gT gA gF f v2 (by omega) h6 h7) ⟨by decide, by decide⟩, ?_, ?_, ?_⟩
    · rw [e]; exact thr_10 g 2
    · intro h9; exact absurd h9 (by decide)
    · rw [e]; exact rel_thr 2 hR
  have h8 : ¬ v2 < 0 := fun q => h7 (Or.inl q)
  have h9 : ¬ 2 < v2 := fun q => h7 (Or.inr q)
  obtain ⟨w, hw, rfl⟩ := rng_nat 2 (by decide) h8 h9
  have e : fX6_flood g (nI f) (nI w) = ((if w = 0 then g 3 f else if w = 1 then g 4 f else g 5 f), thr g 0) := by
    unfold fX6_flood
    rw [efl, in1 h5.1 h5.2, in1 h8 h9, as2_1, jn_eq, if_neg (c := (1 : Int32) = 0) (by decide)]
    dsimp only
    rw [nI_clamp (n := f) (by omega), thr_n (j := 3) (by decide), thr_n (j := 4) (by decide), thr_n (j := 5) (by decide)]
    rcases (show w = 0 ∨ w = 1 ∨ w = 2 by omega) with rfl | rfl | rfl
    · rfl
    · rfl
    · rfl
  refine ⟨0, gP, gT, gA, gF, _, hL_flood_ok l X h a b na nf o gP gT gA gF fo (nI f) (nI w) gP gT gA gF _ (mX5_flood l X h a b na nf gP gT gA gF f w (by omega) h6 hw) ⟨by decide, by decide⟩, ?_, fun _ => ?_, ?_⟩
  · rw [e]; exact thr_10 g 0
  · rw [pk_uLs, e]
    have h10 := h3.2.2.2 f (by omega) (by rw [efl]; exact nI_lt hf (by omega))
    unfold fX5_flood
    rw [h10.1, h10.2.1, h10.2.2]
  · rw [e]; exact rel_thr 0 hR
set_option maxRecDepth 100000 in
theorem op_front (l : Launch) (hl : l.stackTraces = false) (X : zX) (h a b na nf : Nat → Nat) (o : Nat) {n : Nat} (hn : n < 512) {gP gA gF g : zG} (hR : REL n gP gA gF g) (gT : zG) (fo : Nat → Int64) (v1 : Int32) : ∃ (r : Int32) (gP1 gT1 gA1 gF1 : zG) (fo1 : Nat → Int64), CE l yL_front wsL_front 9 200 1 6 X (HW h a b na nf o X gP gT gA gF fo) [.ref (h 0), .int v1, .ref o] r (HW h a b na nf o X gP1 gT1 gA1 gF1 fo1) ∧ (fX6_front g v1).2 10 0 = r ∧ (r = 0 → fo1 0 = (fX6_front g v1).1.toInt64) ∧ REL (n + 1) gP1 gA1 gF1 (fX6_front g v1).2 := by
  have hR0 := hR
  obtain ⟨yr, h1, h2, h3, h4⟩ := hR
  have hR := hR0
  have hyr := mp_yr h1
  have e0 : gP 10 0 = nI yr := by rw [h2.2.2.2.1.1]; exact mp_year h1
  by_cases h0 : v1 < 0 ∨ nI yr < v1
  · have e : fX6_front g v1 = (0, thr g 1) := by
      unfold fX6_front
      rw [mp_year h1, in0 h0, as1_0, jn_eq, if_pos (c := (0 : Int32) = 0) rfl]
    refine ⟨1, gP, gT, gA, gF, fo, hL_front_x1 l X h a b na nf o gP gT gA gF fo v1 (mX5_front_x1 l hl X h a b na nf gP gT gA gF v1 (by rw [e0]; exact h0)) ⟨by decide, by decide⟩, ?_, ?_, ?_⟩
    · rw [e]; exact thr_10 g 1
    · intro h9; exact absurd h9 (by decide)
    · rw [e]; exact rel_thr 1 hR
  have h5 : ¬ v1 < 0 := fun q => h0 (Or.inl q)
  have h6 : ¬ nI yr < v1 := fun q => h0 (Or.inr q)
  obtain ⟨y, hy, rfl⟩ := rng_nat yr (by omega) h5 h6
  have e : fX6_front g (nI y) = (g 0 (900 + y), thr g 0) := by
    unfold fX6_front
    rw [mp_year h1, in1 h5 h6, as1_1, jn_eq, if_neg (c := (1 : Int32) = 0) (by decide)]
    dsimp only
    rw [thr_n (j := 0) (by decide), nI_clamp (n := y) (by omega)]
  refine ⟨0, gP, gT, gA, gF, _, hL_front_ok l X h a b na nf o gP gT gA gF fo (nI y) gP gT gA gF _ (mX5_front l X h a b na nf gP gT gA gF y (by omega) (by rw [e0]; exact h6)) ⟨by decide, by decide⟩, ?_, fun _ => ?_, ?_⟩
  · rw [e]; exact thr_10 g 0
  · rw [pk_uLs, e]
    show (gA 1 y).toInt64 = _
    rw [h3.2.1 y (by omega)]
  · rw [e]; exact rel_thr 0 hR
set_option maxRecDepth 100000 in
theorem op_total (l : Launch) (hl : l.stackTraces = false) (X : zX) (h a b na nf : Nat → Nat) (o : Nat) {n : Nat} (hn : n < 512) {gP gA gF g : zG} (hR : REL n gP gA gF g) (gT : zG) (fo : Nat → Int64) (v1 : Int32) : ∃ (r : Int32) (gP1 gT1 gA1 gF1 : zG) (fo1 : Nat → Int64), CE l yL_total wsL_total 9 200 1 6 X (HW h a b na nf o X gP gT gA gF fo) [.ref (h 0), .int v1, .ref o] r (HW h a b na nf o X gP1 gT1 gA1 gF1 fo1) ∧ (fX6_total g v1).2 10 0 = r ∧ (r = 0 → fo1 0 = (fX6_total g v1).1.toInt64) ∧ REL (n + 1) gP1 gA1 gF1 (fX6_total g v1).2 := by
  by_cases h0 : v1 < 0 ∨ 5 < v1
  · have e : fX6_total g v1 = (0, thr g 1) := by
      unfold fX6_total
      rw [in0 h0, as1_0, jn_eq, if_pos (c := (0 : Int32) = 0) rfl]
    refine ⟨1, gP, gT, gA, gF, fo, hL_total_x1 l X h a b na nf o gP gT gA gF fo v1 (mX5_total_x1 l hl X h a b na nf gP gT gA gF v1 h0) ⟨by decide, by decide⟩, ?_, ?_, ?_⟩
    · rw [e]; exact thr_10 g 1
    · intro h9; exact absurd h9 (by decide)
    · rw [e]; exact rel_thr 1 hR
  have h1 : ¬ v1 < 0 := fun q => h0 (Or.inl q)
  have h2 : ¬ 5 < v1 := fun q => h0 (Or.inr q)
  obtain ⟨w, hw, rfl⟩ := rng_nat 5 (by decide) h1 h2
  have hR0 := hR
  have hR1 := rel_thr 0 hR
  obtain ⟨yr, -, hc3, -⟩ := hR1
  have e : fX6_total g (nI w) = (fX5_total gP gT gA gF w, thr g 0) := by
    unfold fX6_total
    rw [in1 h1 h2, as1_1, jn_eq, if_neg (c := (1 : Int32) = 0) (by decide)]
    refine (tot_eq (gP := gP) (fun k hk => (hc3.2.1 k hk).2.2.1) 12 0 0 rfl).trans ?_
    unfold fX5_total
    have ea : fX1_allIce (gP 8) (gP 9) = fX6_allIce (thr g 0) := all_eq (fun k hk => (hc3.2.1 k hk).2.2.2.2.2.2)
    rw [ea, hc3.2.2.2.2.1, hc3.2.2.2.2.2.1, hc3.2.2.2.2.2.2.2.1, hc3.2.2.2.2.2.2.2.2]
    rcases (show w = 0 ∨ w = 1 ∨ w = 2 ∨ w = 3 ∨ w = 4 ∨ w = 5 by omega) with rfl | rfl | rfl | rfl | rfl | rfl <;> rfl
  refine ⟨0, gP, gT, gA, gF, _, hL_total_ok l X h a b na nf o gP gT gA gF fo (nI w) gP gT gA gF _ (mX5_total l X h a b na nf gP gT gA gF w hw) ⟨by decide, by decide⟩, ?_, fun _ => ?_, ?_⟩
  · rw [e]; exact thr_10 g 0
  · rw [pk_uLs, e]
  · rw [e]; exact rel_thr 0 hR
set_option maxRecDepth 100000 in
theorem op_iceAnew (l : Launch) (hl : l.stackTraces = false) (X : zX) (h a b na nf : Nat → Nat) (o : Nat) {n : Nat} (hn : n < 512) {gP gA gF g : zG} (hR : REL n gP gA gF g) (gT : zG) (fo : Nat → Int64) : ∃ (gP1 gT1 gA1 gF1 : zG), CI l yX5_iceAnew wsX5_iceAnew 0 0 0 0 X (IW h a b na nf X gP gT gA gF) [.ref (h 0)] (fX6_iceAnew g).1 (IW h a b na nf X gP1 gT1 gA1 gF1) ∧ REL (n + 1) gP1 gA1 gF1 (fX6_iceAnew g).2 := by
  obtain ⟨yr, h1, h2, h3, h4⟩ := hR
  refine ⟨gP, gT, gA, gF, ?_, rel_thr 0 ⟨yr, h1, h2, h3, h4⟩⟩
  have e : (fX6_iceAnew g).1 = fX5_iceAnew gP gT gA gF := by
    obtain ⟨-, -, -, -, q0, q1, q2, q3, q4⟩ := h2
    show (g 0 87 + g 0 86 - g 0 88) - g 0 85 = (gP 11 0 + gP 11 1 - gP 11 2) - gP 11 4
    rw [q0, q1, q2, q4, Int32.add_comm (g 0 87)]
  rw [e]
  exact mX5_iceAnew l X h a b na nf gP gT gA gF
set_option maxRecDepth 100000 in
theorem op_miss (l : Launch) (hl : l.stackTraces = false) (X : zX) (h a b na nf : Nat → Nat) (o : Nat) {n : Nat} (hn : n < 512) {gP gA gF g : zG} (hR : REL n gP gA gF g) (gT : zG) (fo : Nat → Int64) (v1 : Int32) : ∃ (r : Int32) (gP1 gT1 gA1 gF1 : zG) (fo1 : Nat → Int64), CE l yL_miss wsL_miss 9 200 1 6 X (HW h a b na nf o X gP gT gA gF fo) [.ref (h 0), .int v1, .ref o] r (HW h a b na nf o X gP1 gT1 gA1 gF1 fo1) ∧ (fX6_miss g v1).2 10 0 = r ∧ (r = 0 → fo1 0 = (fX6_miss g v1).1.toInt64) ∧ REL (n + 1) gP1 gA1 gF1 (fX6_miss g v1).2 := by
  have hR0 := hR
  obtain ⟨yr, h1, h2, h3, h4⟩ := hR
  have hR := hR0
  obtain ⟨⟨fl, hfl, efl⟩, h5, h6⟩ := h4
  have e0 : gF 2 0 = nI fl := by rw [h5]; exact efl
  by_cases h0 : v1 < 0 ∨ nI fl ≤ v1
  · have e : fX6_miss g v1 = (0, thr g 1) := by
      unfold fX6_miss
      rw [efl, in0 (cnt_x (by omega) h0), as1_0, jn_eq, if_pos (c := (0 : Int32) = 0) rfl]
    refine ⟨1, gP, gT, gA, gF, fo, hL_miss_x1 l X h a b na nf o gP gT gA gF fo v1 (mX5_miss_x1 l hl X h a b na nf gP gT gA gF v1 (by rw [e0]; exact h0)) ⟨by decide, by decide⟩, ?_, ?_, ?_⟩
    · rw [e]; exact thr_10 g 1
    · intro h9; exact absurd h9 (by decide)
    · rw [e]; exact rel_thr 1 hR
  obtain ⟨f, hf, rfl⟩ := cnt_n (by omega) h0
  have h7 := cnt_1 (n := fl) (f := f) (by omega) hf
  have h8 : nI f < gF 2 0 := by rw [e0]; exact nI_lt hf (by omega)
  have h9 := h6 f (by omega) (by rw [efl]; exact nI_lt hf (by omega))
  have e : fX6_miss g (nI f) = (g 8 f, thr g 0) := by
    unfold fX6_miss
    rw [efl, in1 h7.1 h7.2, as1_1, jn_eq, if_neg (c := (1 : Int32) = 0) (by decide)]
    dsimp only
    rw [nI_clamp (n := f) (by omega), thr_n (j := 8) (by decide)]
  refine ⟨0, gP, gT, gA, gF, _, hL_miss_ok l X h a b na nf o gP gT gA gF fo (nI f) gP gT gA gF _ (mX5_miss l X h a b na nf gP gT gA gF f (by omega) h8 h9.2.2.1) ⟨by decide, by decide⟩, ?_, fun _ => ?_, ?_⟩
  · rw [e]; exact thr_10 g 0
  · rw [pk_uLs, e]
    unfold fX5_miss
    rw [h9.2.2.2]
  · rw [e]; exact rel_thr 0 hR
