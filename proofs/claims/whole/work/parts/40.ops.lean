def fcEnd (U : zG) (c : Nat) : zG := va_up (fX6_keeps (va_up U 7 (upd (U 7) c (fX6_allIce U))) 1) 8 (upd (fX6_keeps (va_up U 7 (upd (U 7) c (fX6_allIce U))) 1 8) c (-1))
theorem rng_p {v : Int32} (h1 : ¬ v < 1) (h2 : ¬ 20 < v) : ∃ p : Nat, 1 ≤ p ∧ p ≤ 20 ∧ v = nI p := by
  have e1 : (1 : Int32).toInt = 1 := by decide
  have e2 : (20 : Int32).toInt = 20 := by decide
  rw [fa_lt] at h1 h2
  obtain ⟨w, hw, rfl⟩ := vp_in_of (x := v) (n := 21) (vp_in_iff.mpr ⟨by omega, by omega⟩) (by decide)
  rw [nI_toInt (by omega)] at h1 h2
  exact ⟨w, by omega, by omega, rfl⟩
theorem yr_p {yr p : Nat} (hy : yr ≤ 60) (hp : p ≤ 20) (h : ¬ 60 < nI yr + nI p) : yr + p ≤ 60 := by
  have e1 : (60 : Int32).toInt = 60 := by decide
  rw [nI_add, fa_lt, nI_toInt (by omega)] at h
  omega
set_option maxRecDepth 100000 in
theorem op_land (l : Launch) (hl : l.stackTraces = false) (X : zX) (h a b na nf : Nat → Nat) (o : Nat) {n : Nat} (hn : n < 512) {gP gA gF g : zG} (hR : REL n gP gA gF g) (gT : zG) (fo : Nat → Int64) (v1 v2 : Int32) : ∃ (r : Int32) (gP1 gT1 gA1 gF1 : zG) (fo1 : Nat → Int64), CE l yL_land wsL_land 9 200 1 6 X (HW h a b na nf o X gP gT gA gF fo) [.ref (h 0), .int v1, .int v2, .ref o] r (HW h a b na nf o X gP1 gT1 gA1 gF1 fo1) ∧ (fX6_land g v1 v2).2 10 0 = r ∧ (r = 0 → fo1 0 = (fX6_land g v1 v2).1.toInt64) ∧ REL (n + 1) gP1 gA1 gF1 (fX6_land g v1 v2).2 := by
  by_cases hc : vp_in v1 12
  rotate_left
  · have e : fX6_land g v1 v2 = (0, thr g 1) := by
      unfold fX6_land
      rw [cell0 hc, jn_eq, jn_eq, as3_x1, if_pos (c := (0 : Int32) = 0) rfl]
    refine ⟨1, gP, gT, gA, gF, fo, hL_land_x1 l X h a b na nf o gP gT gA gF fo v1 v2 (mX5_land_x1 l hl X h a b na nf gP gT gA gF v1 v2 hc) ⟨by decide, by decide⟩, ?_, ?_, ?_⟩
    · rw [e]; exact thr_10 g 1
    · intro h9; exact absurd h9 (by decide)
    · rw [e]; exact rel_thr 1 hR
  obtain ⟨k, hk, rfl⟩ := vp_in_of hc (by decide)
  by_cases h0 : v2 < 0 ∨ 500 < v2
  · have e : fX6_land g (nI k) v2 = (0, thr g 2) := by
      unfold fX6_land
      rw [cell1 hk, in0 h0, jn_eq, jn_eq, as3_x2, if_pos (c := (0 : Int32) = 0) rfl]
    refine ⟨2, gP, gT, gA, gF, fo, hL_land_x2 l X h a b na nf o gP gT gA gF fo (nI k) v2 (mX5_land_x2 l hl X h a b na nf gP gT gA gF k v2 hk h0) ⟨by decide, by decide⟩, ?_, ?_, ?_⟩
    · rw [e]; exact thr_10 g 2
    · intro h9; exact absurd h9 (by decide)
    · rw [e]; exact rel_thr 2 hR
  have h1 : ¬ v2 < 0 := fun q => h0 (Or.inl q)
  have h2 : ¬ 500 < v2 := fun q => h0 (Or.inr q)
  have hst := land_state hn hR hk
  by_cases h3 : fX6_iceOf g k = 0 ∧ g 0 (24 + k) = 0
  rotate_left
  · have e1 : (if fX6_isCell (nI k) = 0 then (0 : Int32) else (if (fX6_iceOf g (nI k).toNatClampNeg) = 0 then (if ((g 0) (24 + (nI k).toNatClampNeg)) = 0 then 1 else 0) else 0)) = 0 := by
      rw [cell1 hk, if_neg (c := (1 : Int32) = 0) (by decide), nI_clamp (n := k) (by omega)]
      by_cases c1 : fX6_iceOf g k = 0
      · rw [if_pos c1, if_neg (fun q => h3 ⟨c1, q⟩)]
      · rw [if_neg c1]
    have e : fX6_land g (nI k) v2 = (0, thr g 3) := by
      unfold fX6_land
      rw [e1, jn_eq, jn_eq, cell1 hk, in1 h1 h2, as3_x3, if_pos (c := (0 : Int32) = 0) rfl]
    refine ⟨3, gP, gT, gA, gF, fo, hL_land_x3 l X h a b na nf o gP gT gA gF fo (nI k) v2 (mX5_land_x3 l hl X h a b na nf gP gT gA gF k v2 hk h1 h2 (hst.mpr h3)) ⟨by decide, by decide⟩, ?_, ?_, ?_⟩
    · rw [e]; exact thr_10 g 3
    · intro h9; exact absurd h9 (by decide)
    · rw [e]; exact rel_thr 3 hR
  have hst2 : ¬ (0 < gP 8 k ∨ 0 < gP 2 k) := fun q => hst.mp q h3
  have e : fX6_land g (nI k) v2 = (g 0 k, va_up (va_up (thr g 0) 0 (upd (thr g 0 0) k v2)) 0 (upd (upd (thr g 0 0) k v2) (12 + k) v2)) := by
    have e1 : (if fX6_isCell (nI k) = 0 then (0 : Int32) else (if (fX6_iceOf g (nI k).toNatClampNeg) = 0 then (if ((g 0) (24 + (nI k).toNatClampNeg)) = 0 then 1 else 0) else 0)) = 1 := by
      rw [cell1 hk, if_neg (c := (1 : Int32) = 0) (by decide), nI_clamp (n := k) (by omega), if_pos h3.1, if_pos h3.2]
    unfold fX6_land
    rw [e1, jn_eq, jn_eq, cell1 hk, in1 h1 h2, as3_1, if_neg (c := (1 : Int32) = 0) (by decide)]
    dsimp only
    rw [nI_clamp (n := k) (by omega), Nat.zero_add, thr_n (j := 0) (by decide)]
  refine ⟨0, (fX5_land gP gT gA gF k v2).2, gT, gA, gF, _, hL_land_ok l X h a b na nf o gP gT gA gF fo (nI k) v2 _ gT gA gF _ (mX5_land l X h a b na nf gP gT gA gF k v2 hk h1 h2 (fun q => hst2 (Or.inl q)) (fun q => hst2 (Or.inr q))) ⟨by decide, by decide⟩, ?_, fun _ => ?_, ?_⟩
  · rw [e]
    dsimp only
    rw [up_n (j := 10) (k := 0) (by decide), up_n (j := 10) (k := 0) (by decide), thr_10]
  · rw [pk_uLs, e]
    show (gP 0 k).toInt64 = (g 0 k).toInt64
    rw [(rel_k hR hk).2.1]
  · rw [e]
    exact rel_land gT hk h1 h2 (rel_thr 0 hR)
set_option maxRecDepth 100000 in
theorem op_sea (l : Launch) (hl : l.stackTraces = false) (X : zX) (h a b na nf : Nat → Nat) (o : Nat) {n : Nat} (hn : n < 512) {gP gA gF g : zG} (hR : REL n gP gA gF g) (gT : zG) (fo : Nat → Int64) (v1 : Int32) : ∃ (r : Int32) (gP1 gT1 gA1 gF1 : zG) (fo1 : Nat → Int64), CE l yL_sea wsL_sea 9 200 1 6 X (HW h a b na nf o X gP gT gA gF fo) [.ref (h 0), .int v1, .ref o] r (HW h a b na nf o X gP1 gT1 gA1 gF1 fo1) ∧ (fX6_sea g v1).2 10 0 = r ∧ (r = 0 → fo1 0 = (fX6_sea g v1).1.toInt64) ∧ REL (n + 1) gP1 gA1 gF1 (fX6_sea g v1).2 := by
  by_cases h0 : v1 < 0 ∨ 500 < v1
  · have e : fX6_sea g v1 = (0, thr g 1) := by
      unfold fX6_sea
      rw [in0 h0, as1_0, jn_eq, if_pos (c := (0 : Int32) = 0) rfl]
    refine ⟨1, gP, gT, gA, gF, fo, hL_sea_x1 l X h a b na nf o gP gT gA gF fo v1 (mX5_sea_x1 l hl X h a b na nf gP gT gA gF v1 h0) ⟨by decide, by decide⟩, ?_, ?_, ?_⟩
    · rw [e]; exact thr_10 g 1
    · intro h9; exact absurd h9 (by decide)
    · rw [e]; exact rel_thr 1 hR
  have h1 : ¬ v1 < 0 := fun q => h0 (Or.inl q)
  have h2 : ¬ 500 < v1 := fun q => h0 (Or.inr q)
  have e : fX6_sea g v1 = (g 10 1, va_up (thr g 0) 10 (upd (thr g 0 10) 1 v1)) := by
    unfold fX6_sea
    rw [in1 h1 h2, as1_1, jn_eq, if_neg (c := (1 : Int32) = 0) (by decide)]
    dsimp only
    rw [thr_m (j := 1) (by decide)]
  refine ⟨0, (fX5_sea gP gT gA gF v1).2, gT, gA, gF, _, hL_sea_ok l X h a b na nf o gP gT gA gF fo v1 _ gT gA gF _ (mX5_sea l X h a b na nf gP gT gA gF v1 h1 h2) ⟨by decide, by decide⟩, ?_, fun _ => ?_, ?_⟩
  · rw [e]
    show va_up (thr g 0) 10 (upd (thr g 0 10) 1 v1) 10 0 = 0
    unfold va_up
    rw [if_pos rfl, pk_un (by decide), thr_10]
  · rw [pk_uLs, e]
    obtain ⟨yr, -, hc, -⟩ := hR
    show (gP 10 1).toInt64 = (g 10 1).toInt64
    rw [hc.2.2.2.1.2.1]
  · rw [e]
    exact rel_sea v1 (rel_thr 0 hR)
set_option maxRecDepth 100000 in
theorem op_climate (l : Launch) (hl : l.stackTraces = false) (X : zX) (h a b na nf : Nat → Nat) (o : Nat) {n : Nat} (hn : n < 512) {gP gA gF g : zG} (hR : REL n gP gA gF g) (gT : zG) (fo : Nat → Int64) (v1 v2 v3 : Int32) : ∃ (r : Int32) (gP1 gT1 gA1 gF1 : zG) (fo1 : Nat → Int64), CE l yL_climate wsL_climate 9 200 1 6 X (HW h a b na nf o X gP gT gA gF fo) [.ref (h 0), .int v1, .int v2, .int v3] r (HW h a b na nf o X gP1 gT1 gA1 gF1 fo1) ∧ (fX6_climate g v1 v2 v3) 10 0 = r ∧ REL (n + 1) gP1 gA1 gF1 (fX6_climate g v1 v2 v3) := by
  by_cases h0 : v1 < (-300) ∨ 300 < v1
  · have e : fX6_climate g v1 v2 v3 = thr g 1 := by
      unfold fX6_climate
      rw [in0 h0, if_pos (c := (0 : Int32) = 0) rfl, jn_eq, as1_0, jn_eq, if_pos (c := (0 : Int32) = 0) rfl]
    refine ⟨1, gP, gT, gA, gF, fo, hL_climate_x1 l X h a b na nf o gP gT gA gF fo v1 v2 v3 (mX5_climate_x1 l hl X h a b na nf gP gT gA gF v1 v2 v3 h0) ⟨by decide, by decide⟩, ?_, ?_⟩
    · rw [e]; exact thr_10 g 1
    · rw [e]; exact rel_thr 1 hR
  have h1 : ¬ v1 < (-300) := fun q => h0 (Or.inl q)
  have h2 : ¬ 300 < v1 := fun q => h0 (Or.inr q)
  by_cases h3 : v2 < 0 ∨ 20 < v2
  · have e : fX6_climate g v1 v2 v3 = thr g 1 := by
      unfold fX6_climate
      rw [in1 h1 h2, if_neg (c := (1 : Int32) = 0) (by decide), in0 h3, if_pos (c := (0 : Int32) = 0) rfl, jn_eq, as1_0, jn_eq, if_pos (c := (0 : Int32) = 0) rfl]
    refine ⟨1, gP, gT, gA, gF, fo, hL_climate_x1 l X h a b na nf o gP gT gA gF fo v1 v2 v3 (mX5_climate_x2 l hl X h a b na nf gP gT gA gF v1 v2 v3 h1 h2 h3) ⟨by decide, by decide⟩, ?_, ?_⟩
    · rw [e]; exact thr_10 g 1
    · rw [e]; exact rel_thr 1 hR
  have h4 : ¬ v2 < 0 := fun q => h3 (Or.inl q)
  have h5 : ¬ 20 < v2 := fun q => h3 (Or.inr q)
  by_cases h6 : v3 < 0 ∨ 9 < v3
  · have e : fX6_climate g v1 v2 v3 = thr g 1 := by
      unfold fX6_climate
      rw [in1 h1 h2, if_neg (c := (1 : Int32) = 0) (by decide), in1 h4 h5, if_neg (c := (1 : Int32) = 0) (by decide), in0 h6, if_pos (c := (0 : Int32) = 0) rfl, jn_eq, as1_0, jn_eq, if_pos (c := (0 : Int32) = 0) rfl]
    refine ⟨1, gP, gT, gA, gF, fo, hL_climate_x1 l X h a b na nf o gP gT gA gF fo v1 v2 v3 (mX5_climate_x3 l hl X h a b na nf gP gT gA gF v1 v2 v3 h1 h2 h4 h5 h6) ⟨by decide, by decide⟩, ?_, ?_⟩
    · rw [e]; exact thr_10 g 1
    · rw [e]; exact rel_thr 1 hR
  have h7 : ¬ v3 < 0 := fun q => h6 (Or.inl q)
  have h8 : ¬ 9 < v3 := fun q => h6 (Or.inr q)
  have e : fX6_climate g v1 v2 v3 = (fX5_climate (thr g 0) gT gA gF v1 v2 v3) := by
    unfold fX6_climate
    rw [in1 h1 h2, in1 h4 h5, in1 h7 h8, if_neg (c := (1 : Int32) = 0) (by decide), if_neg (c := (1 : Int32) = 0) (by decide), if_neg (c := (1 : Int32) = 0) (by decide), jn_eq, as1_1, jn_eq, if_neg (c := (1 : Int32) = 0) (by decide)]
    rfl
  refine ⟨0, fX5_climate gP gT gA gF v1 v2 v3, gT, gA, gF, fo, hL_climate_ok l X h a b na nf o gP gT gA gF fo v1 v2 v3 _ gT gA gF (mX5_climate l X h a b na nf gP gT gA gF v1 v2 v3 h1 h2 h4 h5 h7 h8) ⟨by decide, by decide⟩, ?_, ?_⟩
  · rw [e]
    unfold fX5_climate va_up
    rw [if_pos rfl, pk_un (by decide), pk_un (by decide), pk_un (by decide), thr_10]
  · rw [e]
    exact rel_climate gT gA gF h1 h2 h4 h5 h7 h8 (rel_thr 0 hR)
set_option maxRecDepth 100000 in
theorem op_ice (l : Launch) (hl : l.stackTraces = false) (X : zX) (h a b na nf : Nat → Nat) (o : Nat) {n : Nat} (hn : n < 512) {gP gA gF g : zG} (hR : REL n gP gA gF g) (gT : zG) (fo : Nat → Int64) (v1 v2 : Int32) : ∃ (r : Int32) (gP1 gT1 gA1 gF1 : zG) (fo1 : Nat → Int64), CE l yL_ice wsL_ice 9 200 1 6 X (HW h a b na nf o X gP gT gA gF fo) [.ref (h 0), .int v1, .int v2, .ref o] r (HW h a b na nf o X gP1 gT1 gA1 gF1 fo1) ∧ (fX6_ice g v1 v2).2 10 0 = r ∧ (r = 0 → fo1 0 = (fX6_ice g v1 v2).1.toInt64) ∧ REL (n + 1) gP1 gA1 gF1 (fX6_ice g v1 v2).2 := by
  by_cases hc : vp_in v1 12
  rotate_left
  · have e : fX6_ice g v1 v2 = (0, thr g 1) := by
      unfold fX6_ice
      rw [cell0 hc, jn_eq, as3_x1, jn_eq, if_pos (c := (0 : Int32) = 0) rfl]
    refine ⟨1, gP, gT, gA, gF, fo, hL_ice_x1 l X h a b na nf o gP gT gA gF fo v1 v2 (mX5_ice_x1 l hl X h a b na nf gP gT gA gF v1 v2 hc) ⟨by decide, by decide⟩, ?_, ?_, ?_⟩
    · rw [e]; exact thr_10 g 1
    · intro h9; exact absurd h9 (by decide)
    · rw [e]; exact rel_thr 1 hR
  obtain ⟨k, hk, rfl⟩ := vp_in_of hc (by decide)
  by_cases h0 : v2 < 1 ∨ 999 < v2
  · have e : fX6_ice g (nI k) v2 = (0, thr g 2) := by
      unfold fX6_ice
      rw [cell1 hk, in0 h0, jn_eq, as3_x2, jn_eq, if_pos (c := (0 : Int32) = 0) rfl]
    refine ⟨2, gP, gT, gA, gF, fo, hL_ice_x2 l X h a b na nf o gP gT gA gF fo (nI k) v2 (mX5_ice_x2 l hl X h a b na nf gP gT gA gF k v2 hk h0) ⟨by decide, by decide⟩, ?_, ?_, ?_⟩
    · rw [e]; exact thr_10 g 2
    · intro h9; exact absurd h9 (by decide)
    · rw [e]; exact rel_thr 2 hR
  have h1 : ¬ v2 < 1 := fun q => h0 (Or.inl q)
  have h2 : ¬ 999 < v2 := fun q => h0 (Or.inr q)
  have h8 := (rel_k hR hk).2.2.2.2.2.2.2
  by_cases h3 : 9999 < fX6_iceOf g k + v2
  · have e : fX6_ice g (nI k) v2 = (0, thr g 3) := by
      unfold fX6_ice
      rw [cell1 hk, if_neg (c := (1 : Int32) = 0) (by decide), in1 h1 h2, if_neg (c := (1 : Int32) = 0) (by decide), nI_clamp (n := k) (by omega), if_pos h3, jn_eq, as3_x3, jn_eq, if_pos (c := (0 : Int32) = 0) rfl]
    refine ⟨3, gP, gT, gA, gF, fo, hL_ice_x3 l X h a b na nf o gP gT gA gF fo (nI k) v2 (mX5_ice_x3 l hl X h a b na nf gP gT gA gF k v2 hk h1 h2 (by rw [h8]; exact h3)) ⟨by decide, by decide⟩, ?_, ?_, ?_⟩
    · rw [e]; exact thr_10 g 3
    · intro h9; exact absurd h9 (by decide)
    · rw [e]; exact rel_thr 3 hR
  have hR0 := hR
  obtain ⟨yr, m1, m2, m3, m4⟩ := hR
  have hyr := mp_yr m1
  have ey : (nI yr).toNatClampNeg = yr := nI_clamp (by omega)
  have e0 : gP 10 0 = nI yr := by rw [m2.2.2.2.1.1]; exact mp_year m1
  have hv : vp_in (gP 10 0) 61 := by rw [e0]; exact vp_in_nI (by omega) (by decide)
  have e : fX6_ice g (nI k) v2 = (fX6_iceOf (gIced (thr g 0) k yr v2) k, gIced (thr g 0) k yr v2) := by
    unfold fX6_ice
    rw [cell1 hk, if_neg (c := (1 : Int32) = 0) (by decide), in1 h1 h2, if_neg (c := (1 : Int32) = 0) (by decide), nI_clamp (n := k) (by omega), if_neg h3, jn_eq, as3_1, jn_eq, if_neg (c := (1 : Int32) = 0) (by decide)]
    dsimp only
    rw [thr_n (j := 0) (by decide), mp_year m1, ey]
    unfold gIced
    rw [thr_n (j := 0) (by decide)]
  refine ⟨0, (fX5_ice gP gT gA gF k v2).2, gT, gA, gF, _, hL_ice_ok l X h a b na nf o gP gT gA gF fo (nI k) v2 _ gT gA gF _ (mX5_ice l X h a b na nf gP gT gA gF k v2 hk h1 h2 (by rw [h8]; exact h3) hv) ⟨by decide, by decide⟩, ?_, fun _ => ?_, ?_⟩
  · rw [e]
    dsimp only
    unfold gIced
    rw [up_n (j := 10) (k := 0) (by decide), up_n (j := 10) (k := 0) (by decide), thr_10]
  · rw [pk_uLs, e]
    have e9 : (fX5_ice gP gT gA gF k v2).1 = gP 8 k + v2 := by
      show upd (gP 8) k (gP 8 k + v2) k = _
      exact pk_us
    rw [e9, gIced_ice hk (by omega), h8, iceOf_c (g := g) (g1 := thr g 0) (fun j _ => by rw [thr_n (by decide)])]
  · rw [e]
    exact rel_iced gT hn hk h1 h2 hR0 (mp_year m1) hyr
set_option maxRecDepth 100000 in
theorem op_ash (l : Launch) (hl : l.stackTraces = false) (X : zX) (h a b na nf : Nat → Nat) (o : Nat) {n : Nat} (hn : n < 512) {gP gA gF g : zG} (hR : REL n gP gA gF g) (gT : zG) (fo : Nat → Int64) : ∃ (gP1 gT1 gA1 gF1 : zG), CI l yX5_ash wsX5_ash 0 0 0 0 X (IW h a b na nf X gP gT gA gF) [.ref (h 0)] (fX6_ash g).1 (IW h a b na nf X gP1 gT1 gA1 gF1) ∧ REL (n + 1) gP1 gA1 gF1 (fX6_ash g).2 := by
  have hR0 := hR
  obtain ⟨yr, h1, h2, h3, h4⟩ := hR
  have hy := mp_yr h1
  have e0 : gP 10 0 = nI yr := by rw [h2.2.2.2.1.1]; exact mp_year h1
  have ec : (nI yr).toNatClampNeg = yr := nI_clamp (by omega)
  have hv : vp_in (gP 10 0) 61 := by rw [e0]; exact vp_in_nI (by omega) (by decide)
  have hb : ∀ i, i < 61 → gA 0 i = 0 ∨ gA 0 i = 1 := fun i hi => by rw [(h3.1 i hi).1]; exact (h3.1 i hi).2
  refine ⟨gP, gT, (fX5_ash gP gT gA gF).2, gF, ?_, ?_⟩
  · have e : (fX6_ash g).1 = (fX5_ash gP gT gA gF).1 := by
      show g 2 (g 0 89).toNatClampNeg = gA 0 (gP 10 0).toNatClampNeg
      rw [e0, mp_year h1, ec, (h3.1 yr (by omega)).1]
    rw [e]
    exact mX5_ash l X h a b na nf gP gT gA gF hv hb
  · have e1 : (fX6_ash g).2 = va_up (thr g 0) 2 (upd (thr g 0 2) yr 1) := by
      show va_up (thr g 0) 2 (upd (g 2) (g 0 89).toNatClampNeg (vp_nar .boolean 1)) = _
      rw [mp_year h1, ec, thr_n (by decide)]
      rfl
    have e2 : (fX5_ash gP gT gA gF).2 = va_up gA 0 (upd (gA 0) yr 1) := by
      show va_up gA 0 (upd (gA 0) (gP 10 0).toNatClampNeg (vp_nar .boolean 1)) = _
      rw [e0, ec]
      rfl
    rw [e1, e2]
    exact rel_ashed (by omega) (rel_thr 0 hR0)
set_option maxRecDepth 100000 in
theorem op_pass (l : Launch) (hl : l.stackTraces = false) (X : zX) (h a b na nf : Nat → Nat) (o : Nat) {n : Nat} (hn : n < 512) {gP gA gF g : zG} (hR : REL n gP gA gF g) (gT : zG) (fo : Nat → Int64) (v1 : Int32) : ∃ (r : Int32) (gP1 gT1 gA1 gF1 : zG) (fo1 : Nat → Int64), CE l yL_pass wsL_pass 9 200 1 6 X (HW h a b na nf o X gP gT gA gF fo) [.ref (h 0), .int v1, .ref o] r (HW h a b na nf o X gP1 gT1 gA1 gF1 fo1) ∧ (fX6_pass g v1).2 10 0 = r ∧ (r = 0 → fo1 0 = (fX6_pass g v1).1.toInt64) ∧ REL (n + 1) gP1 gA1 gF1 (fX6_pass g v1).2 := by
  have hR0 := rel_thr 0 hR
  obtain ⟨yr, m1, m2, m3, m4⟩ := hR0
  have hyr := mp_yr m1
  have ey : g 0 89 = nI yr := mp_year m1
  have e0 : gP 10 0 = nI yr := m2.2.2.2.1.1.trans ey
  by_cases h0 : v1 < 1 ∨ 20 < v1
  · have e : fX6_pass g v1 = (0, thr g 1) := by
      unfold fX6_pass
      rw [in0 h0, jn_eq, if_pos (c := (0 : Int32) = 0) rfl, jn_eq, as2_x1, jn_eq, if_pos (c := (0 : Int32) = 0) rfl]
    refine ⟨1, gP, gT, gA, gF, fo, hL_pass_x1 l X h a b na nf o gP gT gA gF fo v1 (mX5_pass_x1 l hl X h a b na nf gP gT gA gF v1 h0) ⟨by decide, by decide⟩, ?_, ?_, ?_⟩
    · rw [e]; exact thr_10 g 1
    · intro h9; exact absurd h9 (by decide)
    · rw [e]; exact rel_thr 1 hR
  have h1 : ¬ v1 < 1 := fun q => h0 (Or.inl q)
  have h2 : ¬ 20 < v1 := fun q => h0 (Or.inr q)
  by_cases h3 : 60 < nI yr + v1
  · have e : fX6_pass g v1 = (0, thr g 2) := by
      unfold fX6_pass
      rw [in1 h1 h2, jn_eq, if_neg (c := (1 : Int32) = 0) (by decide), ey, if_pos h3, jn_eq, as2_x2, jn_eq, if_pos (c := (0 : Int32) = 0) rfl]
    refine ⟨2, gP, gT, gA, gF, fo, hL_pass_x2 l X h a b na nf o gP gT gA gF fo v1 (mX5_pass_x2 l hl X h a b na nf gP gT gA gF v1 h1 h2 (by rw [e0]; exact h3)) ⟨by decide, by decide⟩, ?_, ?_, ?_⟩
    · rw [e]; exact thr_10 g 2
    · intro h9; exact absurd h9 (by decide)
    · rw [e]; exact rel_thr 2 hR
  obtain ⟨p, hp1, hp2, rfl⟩ := rng_p h1 h2
  have hp3 := yr_p hyr hp2 h3
  obtain ⟨fl, hfl, efl⟩ := mp_fl m1
  have e : fX6_pass g (nI p) = fX6_pass_L43 p 0 (thr g 0) := by
    unfold fX6_pass
    rw [in1 h1 h2, jn_eq, if_neg (c := (1 : Int32) = 0) (by decide), ey, if_neg h3, jn_eq, as2_1, jn_eq, if_neg (c := (1 : Int32) = 0) (by decide), nI_clamp (n := p) (by omega)]
  have e5 : fX5_pass gP gT gA gF p = fX5_pass_L14 p 0 gP gA := by unfold fX5_pass; rfl
  have hM := mX5_pass l X h a b na nf gP gT gA gF p yr hp1 hp2 e0 hp3 ⟨fl, by omega, by rw [m3.2.2.1]; exact efl⟩
  obtain ⟨r1, r2, r3⟩ := ry_pass (gF := gF) p 0 _ yr gP gA (thr g 0) ⟨m1, m2, m3, m4⟩ hp3 (by omega)
  rw [e5] at hM
  rw [e]
  generalize fX6_pass_L43 p 0 (thr g 0) = u6 at r1 r2 r3 ⊢
  generalize fX5_pass_L14 p 0 gP gA = u5 at r1 r2 hM
  refine ⟨0, u5.2.1, gT, u5.2.2, gF, _, hL_pass_ok l X h a b na nf o gP gT gA gF fo (nI p) _ gT _ gF _ hM ⟨by decide, by decide⟩, ?_, fun _ => ?_, ?_⟩
  · rw [r3]; exact thr_10 g 0
  · rw [pk_uLs, r1]
  · refine ⟨yr + p, ?_⟩
    rw [show 999 * (n + 1) + 240 * (yr + p) = 999 * (n + 1) + 240 * yr + 240 * p by omega]
    exact r2
set_option maxRecDepth 100000 in
theorem op_cellIs (l : Launch) (hl : l.stackTraces = false) (X : zX) (h a b na nf : Nat → Nat) (o : Nat) {n : Nat} (hn : n < 512) {gP gA gF g : zG} (hR : REL n gP gA gF g) (gT : zG) (fo : Nat → Int64) (v1 v2 : Int32) : ∃ (r : Int32) (gP1 gT1 gA1 gF1 : zG) (fo1 : Nat → Int64), CE l yL_cellIs wsL_cellIs 9 200 1 6 X (HW h a b na nf o X gP gT gA gF fo) [.ref (h 0), .int v1, .int v2, .ref o] r (HW h a b na nf o X gP1 gT1 gA1 gF1 fo1) ∧ (fX6_cellIs g v1 v2).2 10 0 = r ∧ (r = 0 → fo1 0 = (fX6_cellIs g v1 v2).1.toInt64) ∧ REL (n + 1) gP1 gA1 gF1 (fX6_cellIs g v1 v2).2 := by
  by_cases hc : vp_in v1 12
  rotate_left
  · have e : fX6_cellIs g v1 v2 = (0, thr g 1) := by
      unfold fX6_cellIs
      rw [cell0 hc, as2_x1, jn_eq, if_pos (c := (0 : Int32) = 0) rfl]
    refine ⟨1, gP, gT, gA, gF, fo, hL_cellIs_x1 l X h a b na nf o gP gT gA gF fo v1 v2 (mX5_cellIs_x1 l hl X h a b na nf gP gT gA gF v1 v2 hc) ⟨by decide, by decide⟩, ?_, ?_, ?_⟩
    · rw [e]; exact thr_10 g 1
    · intro h9; exact absurd h9 (by decide)
    · rw [e]; exact rel_thr 1 hR
  obtain ⟨k, hk, rfl⟩ := vp_in_of hc (by decide)
  by_cases h0 : v2 < 0 ∨ 9 < v2
  · have e : fX6_cellIs g (nI k) v2 = (0, thr g 2) := by
      unfold fX6_cellIs
      rw [cell1 hk, in0 h0, as2_x2, jn_eq, if_pos (c := (0 : Int32) = 0) rfl]
    refine ⟨2, gP, gT, gA, gF, fo, hL_cellIs_x2 l X h a b na nf o gP gT gA gF fo (nI k) v2 (mX5_cellIs_x2 l hl X h a b na nf gP gT gA gF k v2 hk h0) ⟨by decide, by decide⟩, ?_, ?_, ?_⟩
    · rw [e]; exact thr_10 g 2
    · intro h9; exact absurd h9 (by decide)
    · rw [e]; exact rel_thr 2 hR
  have h1 : ¬ v2 < 0 := fun q => h0 (Or.inl q)
  have h2 : ¬ 9 < v2 := fun q => h0 (Or.inr q)
  obtain ⟨w, hw, rfl⟩ := rng_nat 9 (by decide) h1 h2
  have e : fX6_cellIs g (nI k) (nI w) = (fX6_tells (thr g 0) k (nI w), thr g 0) := by
    unfold fX6_cellIs
    rw [cell1 hk, in1 h1 h2, as2_1, jn_eq, if_neg (c := (1 : Int32) = 0) (by decide)]
    dsimp only
    rw [nI_clamp (n := k) (by omega)]
  refine ⟨0, gP, gT, gA, gF, _, hL_cellIs_ok l X h a b na nf o gP gT gA gF fo (nI k) (nI w) gP gT gA gF _ (mX5_cellIs l X h a b na nf gP gT gA gF k w hk hw) ⟨by decide, by decide⟩, ?_, fun _ => ?_, ?_⟩
  · rw [e]; exact thr_10 g 0
  · rw [pk_uLs, e]
    have hR1 := rel_thr 0 hR
    have hq := rel_k hR1 hk
    obtain ⟨yr, -, hc2, -⟩ := hR1
    unfold fX5_cellIs
    rw [tell_eq hw hq.1.2 hq.2 hc2.2.2.2.1.2.1]
  · rw [e]; exact rel_thr 0 hR
set_option maxRecDepth 100000 in
theorem op_layer (l : Launch) (hl : l.stackTraces = false) (X : zX) (h a b na nf : Nat → Nat) (o : Nat) {n : Nat} (hn : n < 512) {gP gA gF g : zG} (hR : REL n gP gA gF g) (gT : zG) (fo : Nat → Int64) (v1 v2 : Int32) : ∃ (r : Int32) (gP1 gT1 gA1 gF1 : zG) (fo1 : Nat → Int64), CE l yL_layer wsL_layer 9 200 1 6 X (HW h a b na nf o X gP gT gA gF fo) [.ref (h 0), .int v1, .int v2, .ref o] r (HW h a b na nf o X gP1 gT1 gA1 gF1 fo1) ∧ (fX6_layer g v1 v2).2 10 0 = r ∧ (r = 0 → fo1 0 = (fX6_layer g v1 v2).1.toInt64) ∧ REL (n + 1) gP1 gA1 gF1 (fX6_layer g v1 v2).2 := by
  by_cases hc : vp_in v1 12
  rotate_left
  · have e : fX6_layer g v1 v2 = (0, thr g 1) := by
      unfold fX6_layer
      rw [cell0 hc, as2_x1, jn_eq, if_pos (c := (0 : Int32) = 0) rfl]
    refine ⟨1, gP, gT, gA, gF, fo, hL_layer_x1 l X h a b na nf o gP gT gA gF fo v1 v2 (mX5_layer_x1 l hl X h a b na nf gP gT gA gF v1 v2 hc) ⟨by decide, by decide⟩, ?_, ?_, ?_⟩
    · rw [e]; exact thr_10 g 1
    · intro h9; exact absurd h9 (by decide)
    · rw [e]; exact rel_thr 1 hR
  obtain ⟨k, hk, rfl⟩ := vp_in_of hc (by decide)
  by_cases h0 : v2 < 0 ∨ 60 < v2
  · have e : fX6_layer g (nI k) v2 = (0, thr g 2) := by
      unfold fX6_layer
      rw [cell1 hk, in0 h0, as2_x2, jn_eq, if_pos (c := (0 : Int32) = 0) rfl]
    refine ⟨2, gP, gT, gA, gF, fo, hL_layer_x2 l X h a b na nf o gP gT gA gF fo (nI k) v2 (mX5_layer_x2 l hl X h a b na nf gP gT gA gF k v2 hk h0) ⟨by decide, by decide⟩, ?_, ?_, ?_⟩
    · rw [e]; exact thr_10 g 2
    · intro h9; exact absurd h9 (by decide)
    · rw [e]; exact rel_thr 2 hR
  have h1 : ¬ v2 < 0 := fun q => h0 (Or.inl q)
  have h2 : ¬ 60 < v2 := fun q => h0 (Or.inr q)
  obtain ⟨y, hy, rfl⟩ := rng_nat 60 (by decide) h1 h2
  have e : fX6_layer g (nI k) (nI y) = (g 0 (100 + 61 * k + y), thr g 0) := by
    unfold fX6_layer
    rw [cell1 hk, in1 h1 h2, as2_1, jn_eq, if_neg (c := (1 : Int32) = 0) (by decide)]
    dsimp only
    rw [thr_n (j := 0) (by decide), nI_clamp (n := k) (by omega), nI_clamp (n := y) (by omega)]
  refine ⟨0, gP, gT, gA, gF, _, hL_layer_ok l X h a b na nf o gP gT gA gF fo (nI k) (nI y) gP gT gA gF _ (mX5_layer l X h a b na nf gP gT gA gF k y hk hy) ⟨by decide, by decide⟩, ?_, fun _ => ?_, ?_⟩
  · rw [e]; exact thr_10 g 0
  · rw [pk_uLs, e]
    obtain ⟨yr, -, hc2, -⟩ := hR
    show (gP 9 (k * 61 + y)).toInt64 = _
    rw [hc2.2.2.1 k y hk hy]
  · rw [e]; exact rel_thr 0 hR
set_option maxRecDepth 100000 in
theorem op_yearAt (l : Launch) (hl : l.stackTraces = false) (X : zX) (h a b na nf : Nat → Nat) (o : Nat) {n : Nat} (hn : n < 512) {gP gA gF g : zG} (hR : REL n gP gA gF g) (gT : zG) (fo : Nat → Int64) (v1 v2 : Int32) : ∃ (r : Int32) (gP1 gT1 gA1 gF1 : zG) (fo1 : Nat → Int64), CE l yL_yearAt wsL_yearAt 9 200 1 6 X (HW h a b na nf o X gP gT gA gF fo) [.ref (h 0), .int v1, .int v2, .ref o] r (HW h a b na nf o X gP1 gT1 gA1 gF1 fo1) ∧ (fX6_yearAt g v1 v2).2 10 0 = r ∧ (r = 0 → fo1 0 = (fX6_yearAt g v1 v2).1.toInt64) ∧ REL (n + 1) gP1 gA1 gF1 (fX6_yearAt g v1 v2).2 := by
  by_cases hc : vp_in v1 12
  rotate_left
  · have e : fX6_yearAt g v1 v2 = (0, thr g 1) := by
      unfold fX6_yearAt
      rw [cell0 hc, jn_eq, as2_x1, jn_eq, if_pos (c := (0 : Int32) = 0) rfl]
    refine ⟨1, gP, gT, gA, gF, fo, hL_yearAt_x1 l X h a b na nf o gP gT gA gF fo v1 v2 (mX5_yearAt_x1 l hl X h a b na nf gP gT gA gF v1 v2 hc) ⟨by decide, by decide⟩, ?_, ?_, ?_⟩
    · rw [e]; exact thr_10 g 1
    · intro h9; exact absurd h9 (by decide)
    · rw [e]; exact rel_thr 1 hR
  obtain ⟨k, hk, rfl⟩ := vp_in_of hc (by decide)
  by_cases h0 : v2 < 0
  · have e : fX6_yearAt g (nI k) v2 = (0, thr g 2) := by
      unfold fX6_yearAt
      rw [if_pos h0, cell1 hk, jn_eq, as2_x2, jn_eq, if_pos (c := (0 : Int32) = 0) rfl]
    refine ⟨2, gP, gT, gA, gF, fo, hL_yearAt_x2 l X h a b na nf o gP gT gA gF fo (nI k) v2 (mX5_yearAt_x2 l hl X h a b na nf gP gT gA gF k v2 hk h0) ⟨by decide, by decide⟩, ?_, ?_, ?_⟩
    · rw [e]; exact thr_10 g 2
    · intro h9; exact absurd h9 (by decide)
    · rw [e]; exact rel_thr 2 hR
  have e : fX6_yearAt g (nI k) v2 = (fX1_yearBelow_L6 (gP 8) (gP 9) k 61 v2, thr g 0) := by
    have hR1 := rel_thr 0 hR
    obtain ⟨yr, -, hc2, -⟩ := hR1
    unfold fX6_yearAt
    rw [if_neg h0, cell1 hk, jn_eq, as2_1, jn_eq, if_neg (c := (1 : Int32) = 0) (by decide)]
    exact yb_eq (g := g) hk (fun j hj => (hc2.2.2.1 k j hk hj).symm) 61 v2 (Nat.le_refl 61)
  refine ⟨0, gP, gT, gA, gF, _, hL_yearAt_ok l X h a b na nf o gP gT gA gF fo (nI k) v2 gP gT gA gF _ (mX5_yearAt l X h a b na nf gP gT gA gF k v2 hk h0) ⟨by decide, by decide⟩, ?_, fun _ => ?_, ?_⟩
  · rw [e]; exact thr_10 g 0
  · rw [pk_uLs, e]
    rfl
  · rw [e]; exact rel_thr 0 hR
set_option maxRecDepth 100000 in
theorem op_common (l : Launch) (hl : l.stackTraces = false) (X : zX) (h a b na nf : Nat → Nat) (o : Nat) {n : Nat} (hn : n < 512) {gP gA gF g : zG} (hR : REL n gP gA gF g) (gT : zG) (fo : Nat → Int64) (v1 v2 : Int32) : ∃ (r : Int32) (gP1 gT1 gA1 gF1 : zG) (fo1 : Nat → Int64), CE l yL_common wsL_common 9 200 1 6 X (HW h a b na nf o X gP gT gA gF fo) [.ref (h 0), .int v1, .int v2, .ref o] r (HW h a b na nf o X gP1 gT1 gA1 gF1 fo1) ∧ (fX6_common g v1 v2).2 10 0 = r ∧ (r = 0 → fo1 0 = (fX6_common g v1 v2).1.toInt64) ∧ REL (n + 1) gP1 gA1 gF1 (fX6_common g v1 v2).2 := by
  by_cases hc : vp_in v1 12
  rotate_left
  · have e : fX6_common g v1 v2 = (0, thr g 1) := by
      unfold fX6_common
      rw [cell0 hc, if_pos (c := (0 : Int32) = 0) rfl, jn_eq, as1_0, jn_eq, if_pos (c := (0 : Int32) = 0) rfl]
    refine ⟨1, gP, gT, gA, gF, fo, hL_common_x1 l X h a b na nf o gP gT gA gF fo v1 v2 (mX5_common_x1 l hl X h a b na nf gP gT gA gF v1 v2 hc) ⟨by decide, by decide⟩, ?_, ?_, ?_⟩
    · rw [e]; exact thr_10 g 1
    · intro h9; exact absurd h9 (by decide)
    · rw [e]; exact rel_thr 1 hR
  obtain ⟨k, hk, rfl⟩ := vp_in_of hc (by decide)
  by_cases hc2 : vp_in v2 12
  rotate_left
  · have e : fX6_common g (nI k) v2 = (0, thr g 1) := by
      unfold fX6_common
      rw [cell1 hk, if_neg (c := (1 : Int32) = 0) (by decide), cell0 hc2, if_pos (c := (0 : Int32) = 0) rfl, jn_eq, as1_0, jn_eq, if_pos (c := (0 : Int32) = 0) rfl]
    refine ⟨1, gP, gT, gA, gF, fo, hL_common_x1 l X h a b na nf o gP gT gA gF fo (nI k) v2 (mX5_common_x2 l hl X h a b na nf gP gT gA gF k v2 hk hc2) ⟨by decide, by decide⟩, ?_, ?_, ?_⟩
    · rw [e]; exact thr_10 g 1
    · intro h9; exact absurd h9 (by decide)
    · rw [e]; exact rel_thr 1 hR
  obtain ⟨j, hj, rfl⟩ := vp_in_of hc2 (by decide)
  have e : fX6_common g (nI k) (nI j) = (fX5_common_L13 gP gA k j 61 0 0, thr g 0) := by
    have hR1 := rel_thr 0 hR
    obtain ⟨yr, -, hc3, ha, -⟩ := hR1
    unfold fX6_common
    rw [cell1 hk, cell1 hj, if_neg (c := (1 : Int32) = 0) (by decide), if_neg (c := (1 : Int32) = 0) (by decide), jn_eq, as1_1, jn_eq, if_neg (c := (1 : Int32) = 0) (by decide)]
    exact com_eq (g := g) hk hj (fun c y hc4 hy => (hc3.2.2.1 c y hc4 hy).symm) (fun y hy => (ha.1 y hy).1.symm) 61 0 0 rfl
  refine ⟨0, gP, gT, gA, gF, _, hL_common_ok l X h a b na nf o gP gT gA gF fo (nI k) (nI j) gP gT gA gF _ (mX5_common l X h a b na nf gP gT gA gF k j hk hj) ⟨by decide, by decide⟩, ?_, fun _ => ?_, ?_⟩
  · rw [e]; exact thr_10 g 0
  · rw [pk_uLs, e]
    rfl
  · rw [e]; exact rel_thr 0 hR
set_option maxRecDepth 100000 in
theorem op_floods (l : Launch) (hl : l.stackTraces = false) (X : zX) (h a b na nf : Nat → Nat) (o : Nat) {n : Nat} (hn : n < 512) {gP gA gF g : zG} (hR : REL n gP gA gF g) (gT : zG) (fo : Nat → Int64) : ∃ (gP1 gT1 gA1 gF1 : zG), CI l yX5_floods wsX5_floods 0 0 0 0 X (IW h a b na nf X gP gT gA gF) [.ref (h 0)] (fX6_floods g).1 (IW h a b na nf X gP1 gT1 gA1 gF1) ∧ REL (n + 1) gP1 gA1 gF1 (fX6_floods g).2 := by
  obtain ⟨yr, h1, h2, h3, h4⟩ := hR
  refine ⟨gP, gT, gA, gF, ?_, rel_thr 0 ⟨yr, h1, h2, h3, h4⟩⟩
  have e : (fX6_floods g).1 = fX5_floods gP gT gA gF := h3.2.2.1.symm
  rw [e]
  exact mX5_floods l X h a b na nf gP gT gA gF
set_option maxRecDepth 100000 in
theorem op_flood (l : Launch) (hl : l.stackTraces = false) (X : zX) (h a b na nf : Nat → Nat) (o : Nat) {n : Nat} (hn : n < 512) {gP gA gF g : zG} (hR : REL n gP gA gF g) (gT : zG) (fo : Nat → Int64) (v1 v2 : Int32) : ∃ (r : Int32) (gP1 gT1 gA1 gF1 : zG) (fo1 : Nat → Int64), CE l yL_flood wsL_flood 9 200 1 6 X (HW h a b na nf o X gP gT gA gF fo) [.ref (h 0), .int v1, .int v2, .ref o] r (HW h a b na nf o X gP1 gT1 gA1 gF1 fo1) ∧ (fX6_flood g v1 v2).2 10 0 = r ∧ (r = 0 → fo1 0 = (fX6_flood g v1 v2).1.toInt64) ∧ REL (n + 1) gP1 gA1 gF1 (fX6_flood g v1 v2).2 := by
  have hR0 := hR
  obtain ⟨yr, h1, h2, h3, h4⟩ := hR
  have hR := hR0
  have hyr := mp_yr h1
  obtain ⟨fl, hfl, efl⟩ := mp_fl h1
  have e0 : gA 6 0 = nI fl := by rw [h3.2.2.1]; exact efl
  by_cases h0 : v1 < 0 ∨ nI fl ≤ v1
  · have e : fX6_flood g v1 v2 = (0, thr g 1) := by
      unfold fX6_flood
      rw [efl, in0 (cnt_x (by omega) h0), as2_x1, jn_eq, if_pos (c := (0 : Int32) = 0) rfl]
    refine ⟨1, gP, gT, gA, gF, fo, hL_flood_x1 l X h a b na nf o gP gT gA gF fo v1 v2 (mX5_flood_x1 l hl X h a b na nf gP gT gA gF v1 v2 (by rw [e0]; exact h0)) ⟨by decide, by decide⟩, ?_, ?_, ?_⟩
    · rw [e]; exact thr_10 g 1
    · intro h9; exact absurd h9 (by decide)
    · rw [e]; exact rel_thr 1 hR
  obtain ⟨f, hf, rfl⟩ := cnt_n (by omega) h0
  have h5 := cnt_1 (n := fl) (f := f) (by omega) hf
  have h6 : nI f < gA 6 0 := by rw [e0]; exact nI_lt hf (by omega)
  by_cases h7 : v2 < 0 ∨ 2 < v2
  · have e : fX6_flood g (nI f) v2 = (0, thr g 2) := by
      unfold fX6_flood
      rw [efl, in1 h5.1 h5.2, in0 h7, as2_x2, jn_eq, if_pos (c := (0 : Int32) = 0) rfl]
    refine ⟨2, gP, gT, gA, gF, fo, hL_flood_x2 l X h a b na nf o gP gT gA gF fo (nI f) v2 (mX5_flood_x2 l hl X h a b na nf gP gT gA gF f v2 (by omega) h6 h7) ⟨by decide, by decide⟩, ?_, ?_, ?_⟩
    · rw [e]; exact thr_10 g 2
    · intro h9; exact absurd h9 (by decide)
    · rw [e]; exact rel_thr 2 hR
  have h8 : ¬ v2 < 0 := fun q => h7 (Or.inl q)
  have h9 : ¬ 2 < v2 := fun q => h7 (Or.inr q)
  obtain ⟨w, hw, rfl⟩ := rng_nat 2 (by decide) h8 h9
  have e : fX6_flood g (nI f) (nI w) = ((if w = 0 then g 3 f else if w = 1 then g 4 f else g 5 f), thr g 0) := by
    unfold fX6_flood
    rw [efl, in1 h5.1 h5.2, in1 h8 h9, as2_1, jn_eq, if_neg (c := (1 : Int32) = 0) (by decide)]
    dsimp only
    rw [nI_clamp (n := f) (by omega), thr_n (j := 3) (by decide), thr_n (j := 4) (by decide), thr_n (j := 5) (by decide)]
    rcases (show w = 0 ∨ w = 1 ∨ w = 2 by omega) with rfl | rfl | rfl
    · rfl
    · rfl
    · rfl
  refine ⟨0, gP, gT, gA, gF, _, hL_flood_ok l X h a b na nf o gP gT gA gF fo (nI f) (nI w) gP gT gA gF _ (mX5_flood l X h a b na nf gP gT gA gF f w (by omega) h6 hw) ⟨by decide, by decide⟩, ?_, fun _ => ?_, ?_⟩
  · rw [e]; exact thr_10 g 0
  · rw [pk_uLs, e]
    have h10 := h3.2.2.2 f (by omega) (by rw [efl]; exact nI_lt hf (by omega))
    unfold fX5_flood
    rw [h10.1, h10.2.1, h10.2.2]
  · rw [e]; exact rel_thr 0 hR
set_option maxRecDepth 100000 in
theorem op_front (l : Launch) (hl : l.stackTraces = false) (X : zX) (h a b na nf : Nat → Nat) (o : Nat) {n : Nat} (hn : n < 512) {gP gA gF g : zG} (hR : REL n gP gA gF g) (gT : zG) (fo : Nat → Int64) (v1 : Int32) : ∃ (r : Int32) (gP1 gT1 gA1 gF1 : zG) (fo1 : Nat → Int64), CE l yL_front wsL_front 9 200 1 6 X (HW h a b na nf o X gP gT gA gF fo) [.ref (h 0), .int v1, .ref o] r (HW h a b na nf o X gP1 gT1 gA1 gF1 fo1) ∧ (fX6_front g v1).2 10 0 = r ∧ (r = 0 → fo1 0 = (fX6_front g v1).1.toInt64) ∧ REL (n + 1) gP1 gA1 gF1 (fX6_front g v1).2 := by
  have hR0 := hR
  obtain ⟨yr, h1, h2, h3, h4⟩ := hR
  have hR := hR0
  have hyr := mp_yr h1
  have e0 : gP 10 0 = nI yr := by rw [h2.2.2.2.1.1]; exact mp_year h1
  by_cases h0 : v1 < 0 ∨ nI yr < v1
  · have e : fX6_front g v1 = (0, thr g 1) := by
      unfold fX6_front
      rw [mp_year h1, in0 h0, as1_0, jn_eq, if_pos (c := (0 : Int32) = 0) rfl]
    refine ⟨1, gP, gT, gA, gF, fo, hL_front_x1 l X h a b na nf o gP gT gA gF fo v1 (mX5_front_x1 l hl X h a b na nf gP gT gA gF v1 (by rw [e0]; exact h0)) ⟨by decide, by decide⟩, ?_, ?_, ?_⟩
    · rw [e]; exact thr_10 g 1
    · intro h9; exact absurd h9 (by decide)
    · rw [e]; exact rel_thr 1 hR
  have h5 : ¬ v1 < 0 := fun q => h0 (Or.inl q)
  have h6 : ¬ nI yr < v1 := fun q => h0 (Or.inr q)
  obtain ⟨y, hy, rfl⟩ := rng_nat yr (by omega) h5 h6
  have e : fX6_front g (nI y) = (g 0 (900 + y), thr g 0) := by
    unfold fX6_front
    rw [mp_year h1, in1 h5 h6, as1_1, jn_eq, if_neg (c := (1 : Int32) = 0) (by decide)]
    dsimp only
    rw [thr_n (j := 0) (by decide), nI_clamp (n := y) (by omega)]
  refine ⟨0, gP, gT, gA, gF, _, hL_front_ok l X h a b na nf o gP gT gA gF fo (nI y) gP gT gA gF _ (mX5_front l X h a b na nf gP gT gA gF y (by omega) (by rw [e0]; exact h6)) ⟨by decide, by decide⟩, ?_, fun _ => ?_, ?_⟩
  · rw [e]; exact thr_10 g 0
  · rw [pk_uLs, e]
    show (gA 1 y).toInt64 = _
    rw [h3.2.1 y (by omega)]
  · rw [e]; exact rel_thr 0 hR
set_option maxRecDepth 100000 in
theorem op_total (l : Launch) (hl : l.stackTraces = false) (X : zX) (h a b na nf : Nat → Nat) (o : Nat) {n : Nat} (hn : n < 512) {gP gA gF g : zG} (hR : REL n gP gA gF g) (gT : zG) (fo : Nat → Int64) (v1 : Int32) : ∃ (r : Int32) (gP1 gT1 gA1 gF1 : zG) (fo1 : Nat → Int64), CE l yL_total wsL_total 9 200 1 6 X (HW h a b na nf o X gP gT gA gF fo) [.ref (h 0), .int v1, .ref o] r (HW h a b na nf o X gP1 gT1 gA1 gF1 fo1) ∧ (fX6_total g v1).2 10 0 = r ∧ (r = 0 → fo1 0 = (fX6_total g v1).1.toInt64) ∧ REL (n + 1) gP1 gA1 gF1 (fX6_total g v1).2 := by
  by_cases h0 : v1 < 0 ∨ 5 < v1
  · have e : fX6_total g v1 = (0, thr g 1) := by
      unfold fX6_total
      rw [in0 h0, as1_0, jn_eq, if_pos (c := (0 : Int32) = 0) rfl]
    refine ⟨1, gP, gT, gA, gF, fo, hL_total_x1 l X h a b na nf o gP gT gA gF fo v1 (mX5_total_x1 l hl X h a b na nf gP gT gA gF v1 h0) ⟨by decide, by decide⟩, ?_, ?_, ?_⟩
    · rw [e]; exact thr_10 g 1
    · intro h9; exact absurd h9 (by decide)
    · rw [e]; exact rel_thr 1 hR
  have h1 : ¬ v1 < 0 := fun q => h0 (Or.inl q)
  have h2 : ¬ 5 < v1 := fun q => h0 (Or.inr q)
  obtain ⟨w, hw, rfl⟩ := rng_nat 5 (by decide) h1 h2
  have hR0 := hR
  have hR1 := rel_thr 0 hR
  obtain ⟨yr, -, hc3, -⟩ := hR1
  have e : fX6_total g (nI w) = (fX5_total gP gT gA gF w, thr g 0) := by
    unfold fX6_total
    rw [in1 h1 h2, as1_1, jn_eq, if_neg (c := (1 : Int32) = 0) (by decide)]
    refine (tot_eq (gP := gP) (fun k hk => (hc3.2.1 k hk).2.2.1) 12 0 0 rfl).trans ?_
    unfold fX5_total
    have ea : fX1_allIce (gP 8) (gP 9) = fX6_allIce (thr g 0) := all_eq (fun k hk => (hc3.2.1 k hk).2.2.2.2.2.2)
    rw [ea, hc3.2.2.2.2.1, hc3.2.2.2.2.2.1, hc3.2.2.2.2.2.2.2.1, hc3.2.2.2.2.2.2.2.2]
    rcases (show w = 0 ∨ w = 1 ∨ w = 2 ∨ w = 3 ∨ w = 4 ∨ w = 5 by omega) with rfl | rfl | rfl | rfl | rfl | rfl <;> rfl
  refine ⟨0, gP, gT, gA, gF, _, hL_total_ok l X h a b na nf o gP gT gA gF fo (nI w) gP gT gA gF _ (mX5_total l X h a b na nf gP gT gA gF w hw) ⟨by decide, by decide⟩, ?_, fun _ => ?_, ?_⟩
  · rw [e]; exact thr_10 g 0
  · rw [pk_uLs, e]
  · rw [e]; exact rel_thr 0 hR
set_option maxRecDepth 100000 in
theorem op_iceAnew (l : Launch) (hl : l.stackTraces = false) (X : zX) (h a b na nf : Nat → Nat) (o : Nat) {n : Nat} (hn : n < 512) {gP gA gF g : zG} (hR : REL n gP gA gF g) (gT : zG) (fo : Nat → Int64) : ∃ (gP1 gT1 gA1 gF1 : zG), CI l yX5_iceAnew wsX5_iceAnew 0 0 0 0 X (IW h a b na nf X gP gT gA gF) [.ref (h 0)] (fX6_iceAnew g).1 (IW h a b na nf X gP1 gT1 gA1 gF1) ∧ REL (n + 1) gP1 gA1 gF1 (fX6_iceAnew g).2 := by
  obtain ⟨yr, h1, h2, h3, h4⟩ := hR
  refine ⟨gP, gT, gA, gF, ?_, rel_thr 0 ⟨yr, h1, h2, h3, h4⟩⟩
  have e : (fX6_iceAnew g).1 = fX5_iceAnew gP gT gA gF := by
    obtain ⟨-, -, -, -, q0, q1, q2, q3, q4⟩ := h2
    show (g 0 87 + g 0 86 - g 0 88) - g 0 85 = (gP 11 0 + gP 11 1 - gP 11 2) - gP 11 4
    rw [q0, q1, q2, q4, Int32.add_comm (g 0 87)]
  rw [e]
  exact mX5_iceAnew l X h a b na nf gP gT gA gF
set_option maxRecDepth 100000 in
theorem op_would (l : Launch) (hl : l.stackTraces = false) (X : zX) (h a b na nf : Nat → Nat) (o : Nat) {n : Nat} (hn : n < 512) {gP gA gF g : zG} (hR : REL n gP gA gF g) (gT : zG) (fo : Nat → Int64) (v1 v2 v3 : Int32) : ∃ (r : Int32) (gP1 gT1 gA1 gF1 : zG) (fo1 : Nat → Int64), CE l yL_would wsL_would 9 200 1 6 X (HW h a b na nf o X gP gT gA gF fo) [.ref (h 0), .int v1, .int v2, .int v3, .ref o] r (HW h a b na nf o X gP1 gT1 gA1 gF1 fo1) ∧ (fX6_would g v1 v2 v3).2 10 0 = r ∧ (r = 0 → fo1 0 = (fX6_would g v1 v2 v3).1.toInt64) ∧ REL (n + 1) gP1 gA1 gF1 (fX6_would g v1 v2 v3).2 := by
  have hR0 := rel_thr 0 hR
  obtain ⟨yr, m1, m2, m3, m4⟩ := hR0
  have hyr := mp_yr m1
  have ey : g 0 89 = nI yr := mp_year m1
  have e0 : gP 10 0 = nI yr := m2.2.2.2.1.1.trans ey
  by_cases hc : vp_in v2 12
  rotate_left
  · have e : fX6_would g v1 v2 v3 = (0, thr g 1) := by
      unfold fX6_would
      rw [cell0 hc, jn_eq, jn_eq, as3_x1, jn_eq, if_pos (c := (0 : Int32) = 0) rfl]
    refine ⟨1, gP, gT, gA, gF, fo, hL_would_x1 l X h a b na nf o gP gT gA gF fo v1 v2 v3 (mX5_would_x1 l hl X h a b na nf gP gT gA gF v1 v2 v3 hc) ⟨by decide, by decide⟩, ?_, ?_, ?_⟩
    · rw [e]; exact thr_10 g 1
    · intro h9; exact absurd h9 (by decide)
    · rw [e]; exact rel_thr 1 hR
  obtain ⟨k, hk, rfl⟩ := vp_in_of hc (by decide)
  by_cases h0 : v1 < 1 ∨ 20 < v1
  · have e : fX6_would g v1 (nI k) v3 = (0, thr g 2) := by
      unfold fX6_would
      rw [cell1 hk, in0 h0, if_pos (c := (0 : Int32) = 0) rfl, jn_eq, jn_eq, as3_x2, jn_eq, if_pos (c := (0 : Int32) = 0) rfl]
    refine ⟨2, gP, gT, gA, gF, fo, hL_would_x2 l X h a b na nf o gP gT gA gF fo v1 (nI k) v3 (mX5_would_x2 l hl X h a b na nf gP gT gA gF v1 k v3 hk h0) ⟨by decide, by decide⟩, ?_, ?_, ?_⟩
    · rw [e]; exact thr_10 g 2
    · intro h9; exact absurd h9 (by decide)
    · rw [e]; exact rel_thr 2 hR
  have h1 : ¬ v1 < 1 := fun q => h0 (Or.inl q)
  have h2 : ¬ 20 < v1 := fun q => h0 (Or.inr q)
  by_cases h4 : v3 < 0 ∨ 9 < v3
  · have e : fX6_would g v1 (nI k) v3 = (0, thr g 2) := by
      unfold fX6_would
      rw [cell1 hk, in1 h1 h2, if_neg (c := (1 : Int32) = 0) (by decide), in0 h4, if_pos (c := (0 : Int32) = 0) rfl, jn_eq, jn_eq, as3_x2, jn_eq, if_pos (c := (0 : Int32) = 0) rfl]
    refine ⟨2, gP, gT, gA, gF, fo, hL_would_x2 l X h a b na nf o gP gT gA gF fo v1 (nI k) v3 (mX5_would_x3 l hl X h a b na nf gP gT gA gF v1 k v3 hk h1 h2 h4) ⟨by decide, by decide⟩, ?_, ?_, ?_⟩
    · rw [e]; exact thr_10 g 2
    · intro h9; exact absurd h9 (by decide)
    · rw [e]; exact rel_thr 2 hR
  have h5 : ¬ v3 < 0 := fun q => h4 (Or.inl q)
  have h6 : ¬ 9 < v3 := fun q => h4 (Or.inr q)
  by_cases h3 : 60 < nI yr + v1
  · have e : fX6_would g v1 (nI k) v3 = (0, thr g 3) := by
      unfold fX6_would
      rw [cell1 hk, in1 h1 h2, if_neg (c := (1 : Int32) = 0) (by decide), in1 h5 h6, if_neg (c := (1 : Int32) = 0) (by decide), jn_eq, if_neg (c := (1 : Int32) = 0) (by decide), ey, if_pos h3, jn_eq, as3_x3, jn_eq, if_pos (c := (0 : Int32) = 0) rfl]
    refine ⟨3, gP, gT, gA, gF, fo, hL_would_x3 l X h a b na nf o gP gT gA gF fo v1 (nI k) v3 (mX5_would_x4 l hl X h a b na nf gP gT gA gF v1 k v3 hk h1 h2 h5 h6 (by rw [e0]; exact h3)) ⟨by decide, by decide⟩, ?_, ?_, ?_⟩
    · rw [e]; exact thr_10 g 3
    · intro h9; exact absurd h9 (by decide)
    · rw [e]; exact rel_thr 3 hR
  obtain ⟨p, hp1, hp2, rfl⟩ := rng_p h1 h2
  have hp3 := yr_p hyr hp2 h3
  obtain ⟨w, hw, rfl⟩ := rng_nat 9 (by decide) h5 h6
  obtain ⟨fl, hfl, efl⟩ := mp_fl m1
  have e : fX6_would g (nI p) (nI k) (nI w) = (fX6_tells (fX6_passes (fX6_keeps (thr g 0) 0) p) k (nI w), fX6_keeps (fX6_passes (fX6_keeps (thr g 0) 0) p) 1) := by
    unfold fX6_would
    rw [cell1 hk, in1 h1 h2, if_neg (c := (1 : Int32) = 0) (by decide), in1 h5 h6, if_neg (c := (1 : Int32) = 0) (by decide), jn_eq, if_neg (c := (1 : Int32) = 0) (by decide), ey, if_neg h3, jn_eq, as3_1, jn_eq, if_neg (c := (1 : Int32) = 0) (by decide)]
    dsimp only
    rw [nI_clamp (n := p) (by omega), nI_clamp (n := k) (by omega), jn_eq, jn_eq, jn_eq]
  have e5 : fX5_would gP gT gA gF p k w = (fX3_tellOf (fX5_tryOut_L13 p 0 (fX3_becomeLike gT gP)) k w, fX5_tryOut_L13 p 0 (fX3_becomeLike gT gP)) := by
    unfold fX5_would fX5_tryOut
    rw [jn_eq, jn_eq]
  have hM := mX5_would l X h a b na nf gP gT gA gF p k w yr hp1 hp2 e0 hp3 hk hw
  obtain ⟨t1, t2, t3, t4⟩ := tried (like_yr (gT := gT) m2) m1 (show fl ≤ 720 by omega) efl hp1 hp3 (by omega)
  rw [e5] at hM
  dsimp only at hM
  rw [e]
  generalize fX6_passes (fX6_keeps (thr g 0) 0) p = U at t1 t2 t3 t4 ⊢
  generalize fX5_tryOut_L13 p 0 (fX3_becomeLike gT gP) = T at t1 t2 hM
  have k1 : ∀ j, j ≠ 0 → j ≠ 1 → fX6_keeps U 1 j = U j := fun j a0 a1 => keeps_n a0 a1 U 1
  have k0 : ∀ j, j < 1024 → fX6_keeps U 1 0 j = thr g 0 0 j := fun j hj => by rw [keeps1_0 hj, t3 j hj]
  have a10 : fX6_keeps U 1 10 = thr g 0 10 := by rw [k1 10 (by decide) (by decide), t4 10 (by decide) (by decide) (by decide) (by decide) (by decide) (by decide)]
  refine ⟨0, gP, T, gA, gF, _, hL_would_ok l X h a b na nf o gP gT gA gF fo (nI p) (nI k) (nI w) gP T gA gF _ hM ⟨by decide, by decide⟩, ?_, fun _ => ?_, ?_⟩
  · show fX6_keeps U 1 10 0 = 0
    rw [a10]
    exact thr_10 g 0
  · rw [pk_uLs, tz_tell hk hw t1.1 t2]
  · obtain ⟨r1, r2, r3⟩ := rb_back (v := fX6_keeps U 1) m1 m2 m3 (show fl ≤ 720 by omega) efl t1.2.2.2 k0 (fun j _ _ => by rw [a10]) (by rw [k1 2 (by decide) (by decide), t4 2 (by decide) (by decide) (by decide) (by decide) (by decide) (by decide)]) (k1 3 (by decide) (by decide)) (k1 4 (by decide) (by decide)) (k1 5 (by decide) (by decide))
    refine ⟨yr, r1, r2 _ _, r3, ?_⟩
    show RELf gP gA gF (fX6_keeps U 1)
    unfold RELf at m4 ⊢
    rw [a10, k1 6 (by decide) (by decide), k1 7 (by decide) (by decide), k1 8 (by decide) (by decide), t4 6 (by decide) (by decide) (by decide) (by decide) (by decide) (by decide), t4 7 (by decide) (by decide) (by decide) (by decide) (by decide) (by decide), t4 8 (by decide) (by decide) (by decide) (by decide) (by decide) (by decide)]
    exact m4
set_option maxRecDepth 100000 in
theorem op_forecast (l : Launch) (hl : l.stackTraces = false) (X : zX) (h a b na nf : Nat → Nat) (o : Nat) {n : Nat} (hn : n < 512) {gP gA gF g : zG} (hR : REL n gP gA gF g) (gT : zG) (fo : Nat → Int64) (v1 : Int32) : ∃ (r : Int32) (gP1 gT1 gA1 gF1 : zG) (fo1 : Nat → Int64), CE l yL_forecast wsL_forecast 9 200 1 6 X (HW h a b na nf o X gP gT gA gF fo) [.ref (h 0), .int v1, .ref o] r (HW h a b na nf o X gP1 gT1 gA1 gF1 fo1) ∧ (fX6_forecast g v1).2 10 0 = r ∧ (r = 0 → fo1 0 = (fX6_forecast g v1).1.toInt64) ∧ REL (n + 1) gP1 gA1 gF1 (fX6_forecast g v1).2 := by
  have hR0 := rel_thr 0 hR
  obtain ⟨yr, m1, m2, m3, m4⟩ := hR0
  have hyr := mp_yr m1
  have ey : g 0 89 = nI yr := mp_year m1
  have e0 : gP 10 0 = nI yr := m2.2.2.2.1.1.trans ey
  by_cases h0 : v1 < 1 ∨ 20 < v1
  · have e : fX6_forecast g v1 = (0, thr g 1) := by
      unfold fX6_forecast
      rw [in0 h0, jn_eq, if_pos (c := (0 : Int32) = 0) rfl, jn_eq, as2_x1, jn_eq, if_pos (c := (0 : Int32) = 0) rfl]
    refine ⟨1, gP, gT, gA, gF, fo, hL_forecast_x1 l X h a b na nf o gP gT gA gF fo v1 (mX5_forecast_x1 l hl X h a b na nf gP gT gA gF v1 h0) ⟨by decide, by decide⟩, ?_, ?_, ?_⟩
    · rw [e]; exact thr_10 g 1
    · intro h9; exact absurd h9 (by decide)
    · rw [e]; exact rel_thr 1 hR
  have h1 : ¬ v1 < 1 := fun q => h0 (Or.inl q)
  have h2 : ¬ 20 < v1 := fun q => h0 (Or.inr q)
  by_cases h3 : 60 < nI yr + v1
  · have e : fX6_forecast g v1 = (0, thr g 2) := by
      unfold fX6_forecast
      rw [in1 h1 h2, jn_eq, if_neg (c := (1 : Int32) = 0) (by decide), ey, if_pos h3, jn_eq, as2_x2, jn_eq, if_pos (c := (0 : Int32) = 0) rfl]
    refine ⟨2, gP, gT, gA, gF, fo, hL_forecast_x2 l X h a b na nf o gP gT gA gF fo v1 (mX5_forecast_x2 l hl X h a b na nf gP gT gA gF v1 h1 h2 (by rw [e0]; exact h3)) ⟨by decide, by decide⟩, ?_, ?_, ?_⟩
    · rw [e]; exact thr_10 g 2
    · intro h9; exact absurd h9 (by decide)
    · rw [e]; exact rel_thr 2 hR
  have m40 := m4
  obtain ⟨⟨c, hc, ec0⟩, f2, f3⟩ := m40
  have ec : g 10 5 = nI c := by rw [← ec0, thr_m (by decide)]
  have ef2 : gF 2 0 = nI c := by rw [f2]; exact ec0
  have e10 : (10 : Int32) = nI 10 := rfl
  by_cases h7 : 10 ≤ nI c
  · have e : fX6_forecast g v1 = (0, thr g 2) := by
      unfold fX6_forecast
      rw [in1 h1 h2, jn_eq, if_neg (c := (1 : Int32) = 0) (by decide), ey, if_neg h3, ec, if_pos h7, jn_eq, as2_x2, jn_eq, if_pos (c := (0 : Int32) = 0) rfl]
    refine ⟨2, gP, gT, gA, gF, fo, hL_forecast_x2 l X h a b na nf o gP gT gA gF fo v1 (mX5_forecast_x3 l hl X h a b na nf gP gT gA gF v1 h1 h2 (by rw [e0]; exact h3) (by rw [ef2]; exact fun q => (fa_of_lt q).2.1 h7)) ⟨by decide, by decide⟩, ?_, ?_, ?_⟩
    · rw [e]; exact thr_10 g 2
    · intro h9; exact absurd h9 (by decide)
    · rw [e]; exact rel_thr 2 hR
  have hc9 : c < 10 := by
    have q := fa_of_nle h7
    rw [e10] at q
    exact (nI_ltI (by omega) (by omega)).mp q
  obtain ⟨p, hp1, hp2, rfl⟩ := rng_p h1 h2
  have hp3 := yr_p hyr hp2 h3
  obtain ⟨fl, hfl, efl⟩ := mp_fl m1
  have ecc : (nI c).toNatClampNeg = c := nI_clamp (by omega)
  -- the state behind the aim's noting
  generalize hg8 : va_up (thr g 0) 6 (upd (g 6) c (nI yr + nI p)) = g8
  have j8 : ∀ j, j ≠ 6 → g8 j = thr g 0 j := fun j hj => by rw [← hg8, up_n hj]
  have j86 : g8 6 = upd (g 6) c (nI yr + nI p) := by rw [← hg8, up_t]
  have m18 : MP g8 (999 * (n + 1) + 240 * yr) yr (12 * yr) yr := m1.of (j8 0 (by decide)) (by rw [j8 10 (by decide)]) (by rw [j8 10 (by decide)]) (by rw [j8 10 (by decide)])
  have m28 : RELc gP gA gF g8 := relc_t (fun i _ => by rw [j8 0 (by decide)]) (fun j _ _ => by rw [j8 10 (by decide)]) m2
  obtain ⟨t1, t2, t3, t4⟩ := tried (like_yr (gT := gT) m28) m18 (show fl ≤ 720 by omega) (by rw [j8 0 (by decide)]; exact efl) hp1 hp3 (by omega)
  obtain ⟨U, hU⟩ : ∃ U, U = fX6_passes (fX6_keeps g8 0) p := ⟨_, rfl⟩
  rw [← hU] at t1 t2 t3 t4
  have u10 : U 10 = thr g 0 10 := by rw [t4 10 (by decide) (by decide) (by decide) (by decide) (by decide) (by decide), j8 10 (by decide)]
  have u105 : U 10 5 = nI c := by rw [u10]; exact ec0
  have e : fX6_forecast g (nI p) = (fcEnd U c 7 c, va_up (fcEnd U c) 10 (upd (fcEnd U c 10) 5 (nI (c + 1)))) := by
    unfold fX6_forecast fcEnd
    rw [in1 h1 h2, jn_eq, if_neg (c := (1 : Int32) = 0) (by decide), ey, if_neg h3, ec, if_neg h7, jn_eq, as2_1, jn_eq, if_neg (c := (1 : Int32) = 0) (by decide)]
    dsimp only
    rw [ec0, ecc, thr_n (j := 6) (by decide), thr_n (j := 0) (by decide), ey, hg8, jn_eq, jn_eq, nI_clamp (n := p) (by omega), ← hU, jn_eq, u105, ecc, jn_eq]
    generalize hu12 : fX6_keeps (va_up U 7 (upd (U 7) c (fX6_allIce U))) 1 = u12
    have h12 : u12 10 5 = nI c := by rw [← hu12, keeps_10, up_n (by decide), u105]
    rw [jn_eq, h12, ecc]
    generalize hg13 : va_up u12 8 (upd (u12 8) c (-1)) = g13
    have h13 : g13 10 5 = nI c := by rw [← hg13, up_n (by decide), h12]
    rw [jn_eq, h13, ecc, Nat.add_sub_cancel]
  obtain ⟨T, hT⟩ : ∃ T, T = fX5_tryOut_L13 p 0 (fX3_becomeLike gT gP) := ⟨_, rfl⟩
  rw [← hT] at t1 t2
  have eA : fX1_allIce (T 8) (T 9) = fX6_allIce U := all_eq (fun k hk => t1.1.2.1.1 k hk)
  have eT : T 10 0 = nI (yr + p) := t1.1.2.2.1.1.trans (mp_year t1.2.1)
  have hk10 : ¬ 10 ≤ gF 2 0 := by rw [ef2]; exact h7
  have e5 : fX5_forecast gP gT gA gF p = (fX6_allIce U, T, va_up (va_up (va_up gF 0 (upd (gF 0) c (nI (yr + p)))) 1 (upd (gF 1) c (fX6_allIce U))) 2 (upd (gF 2) 0 (nI (c + 1)))) := by
    unfold fX5_forecast fX5_tryOut
    rw [jn_eq, jn_eq, ← hT, jn_eq, eA, jn_eq, eT]
    unfold fX2_keep
    rw [if_neg hk10, ef2, ecc, nI_1]
  have hM := mX5_forecast l X h a b na nf gP gT gA gF p yr hp1 hp2 e0 hp3 ⟨c, by omega, ef2⟩ (by rw [ef2]; exact fa_of_nle h7)
  rw [e5] at hM
  dsimp only at hM
  rw [e]
  have w0 : ∀ j, j ≠ 0 → j ≠ 1 → j ≠ 7 → j ≠ 8 → fcEnd U c j = U j := fun j a0 a1 a7 a8 => by
    unfold fcEnd
    rw [up_n a8, keeps_n a0 a1, up_n a7]
  have w00 : ∀ j, j < 1024 → fcEnd U c 0 j = thr g 0 0 j := fun j hj => by
    unfold fcEnd
    rw [up_n (by decide)]
    rw [keeps1_0 hj, up_n (by decide), t3 j hj, j8 0 (by decide)]
  have w7 : fcEnd U c 7 = upd (g 7) c (fX6_allIce U) := by
    unfold fcEnd
    rw [up_n (by decide), keeps_n (j := 7) (by decide) (by decide), up_t, t4 7 (by decide) (by decide) (by decide) (by decide) (by decide) (by decide), j8 7 (by decide), thr_n (by decide)]
  have w8 : fcEnd U c 8 = upd (g 8) c (-1) := by
    unfold fcEnd
    rw [up_t, keeps_n (j := 8) (by decide) (by decide), up_n (by decide), t4 8 (by decide) (by decide) (by decide) (by decide) (by decide) (by decide), j8 8 (by decide), thr_n (by decide)]
  have w6 : fcEnd U c 6 = upd (g 6) c (nI (yr + p)) := by
    rw [w0 6 (by decide) (by decide) (by decide) (by decide), t4 6 (by decide) (by decide) (by decide) (by decide) (by decide) (by decide), j86, nI_add]
  have w2 : fcEnd U c 2 = g8 2 := by
    rw [w0 2 (by decide) (by decide) (by decide) (by decide), t4 2 (by decide) (by decide) (by decide) (by decide) (by decide) (by decide)]
  have w10 : fcEnd U c 10 = thr g 0 10 := by
    rw [w0 10 (by decide) (by decide) (by decide) (by decide), u10]
  have w3 := w0 3 (by decide) (by decide) (by decide) (by decide)
  have w4 := w0 4 (by decide) (by decide) (by decide) (by decide)
  have w5 := w0 5 (by decide) (by decide) (by decide) (by decide)
  generalize fcEnd U c = W at w0 w00 w2 w3 w4 w5 w6 w7 w8 w10 ⊢
  have v0 : ∀ j, j ≠ 10 → va_up W 10 (upd (W 10) 5 (nI (c + 1))) j = W j := fun j hj => up_n hj
  have v10 : va_up W 10 (upd (W 10) 5 (nI (c + 1))) 10 = upd (thr g 0 10) 5 (nI (c + 1)) := by rw [up_t, w10]
  generalize hV : va_up W 10 (upd (W 10) 5 (nI (c + 1))) = V at v0 v10 ⊢
  refine ⟨0, gP, T, gA, _, _, hL_forecast_ok l X h a b na nf o gP gT gA gF fo (nI p) gP T gA _ _ hM ⟨by decide, by decide⟩, ?_, fun _ => ?_, ?_⟩
  · show V 10 0 = 0
    rw [v10, pk_un (by decide)]
    exact thr_10 g 0
  · show _ = (W 7 c).toInt64
    rw [pk_uLs, w7, pk_us]
  · have m38 : RELa yr gA g8 := rela_t hyr (fun i _ => by rw [j8 0 (by decide)]) (j8 2 (by decide)) (fun i _ _ => by rw [j8 3 (by decide), j8 4 (by decide), j8 5 (by decide)]; exact ⟨rfl, rfl, rfl⟩) m3
    obtain ⟨r1, r2, r3⟩ := rb_back (v := V) m18 m28 m38 (show fl ≤ 720 by omega) (by rw [j8 0 (by decide)]; exact efl) t1.2.2.2 (fun i hi => by rw [v0 0 (by decide), w00 i hi, j8 0 (by decide)]) (fun j h0 h5 => by rw [v10, pk_un h5, j8 10 (by decide)]) (by rw [v0 2 (by decide), w2]) (by rw [v0 3 (by decide), w3]) (by rw [v0 4 (by decide), w4]) (by rw [v0 5 (by decide), w5])
    refine ⟨yr, r1, r2 _ _, r3, ?_⟩
    show RELf gP gA (va_up (va_up (va_up gF 0 (upd (gF 0) c (nI (yr + p)))) 1 (upd (gF 1) c (fX6_allIce U))) 2 (upd (gF 2) 0 (nI (c + 1)))) V
    have q0 : va_up (va_up (va_up gF 0 (upd (gF 0) c (nI (yr + p)))) 1 (upd (gF 1) c (fX6_allIce U))) 2 (upd (gF 2) 0 (nI (c + 1))) 0 = upd (gF 0) c (nI (yr + p)) := by rw [up_n (by decide), up_n (by decide), up_t]
    have q1 : va_up (va_up (va_up gF 0 (upd (gF 0) c (nI (yr + p)))) 1 (upd (gF 1) c (fX6_allIce U))) 2 (upd (gF 2) 0 (nI (c + 1))) 1 = upd (gF 1) c (fX6_allIce U) := by rw [up_n (by decide), up_t]
    have q2 : va_up (va_up (va_up gF 0 (upd (gF 0) c (nI (yr + p)))) 1 (upd (gF 1) c (fX6_allIce U))) 2 (upd (gF 2) 0 (nI (c + 1))) 2 = upd (gF 2) 0 (nI (c + 1)) := up_t _ _ _
    unfold RELf
    rw [q0, q1, q2, v10, v0 6 (by decide), v0 7 (by decide), v0 8 (by decide), w6, w7, w8, pk_us, pk_us]
    refine ⟨⟨c + 1, by omega, rfl⟩, rfl, fun f hf hfc => ?_⟩
    have hfc2 := (nI_ltI (by omega) (by omega)).mp hfc
    by_cases ce : f = c
    · subst ce
      rw [pk_us, pk_us, pk_us, pk_us, pk_us, e0, if_neg (c := nI (yr + p) ≤ nI yr) (fun q => by have := (nI_leI (by omega) (by omega)).mp q; omega)]
      exact ⟨rfl, rfl, vp_in_nI (by omega) (by decide), rfl⟩
    · rw [pk_un ce, pk_un ce, pk_un ce, pk_un ce, pk_un ce]
      have q := f3 f hf (by rw [ec0]; exact nI_lt (by omega) (by omega))
      rw [thr_n (j := 6) (by decide), thr_n (j := 7) (by decide), thr_n (j := 8) (by decide)] at q
      exact q
set_option maxRecDepth 100000 in
theorem op_miss (l : Launch) (hl : l.stackTraces = false) (X : zX) (h a b na nf : Nat → Nat) (o : Nat) {n : Nat} (hn : n < 512) {gP gA gF g : zG} (hR : REL n gP gA gF g) (gT : zG) (fo : Nat → Int64) (v1 : Int32) : ∃ (r : Int32) (gP1 gT1 gA1 gF1 : zG) (fo1 : Nat → Int64), CE l yL_miss wsL_miss 9 200 1 6 X (HW h a b na nf o X gP gT gA gF fo) [.ref (h 0), .int v1, .ref o] r (HW h a b na nf o X gP1 gT1 gA1 gF1 fo1) ∧ (fX6_miss g v1).2 10 0 = r ∧ (r = 0 → fo1 0 = (fX6_miss g v1).1.toInt64) ∧ REL (n + 1) gP1 gA1 gF1 (fX6_miss g v1).2 := by
  have hR0 := hR
  obtain ⟨yr, h1, h2, h3, h4⟩ := hR
  have hR := hR0
  obtain ⟨⟨fl, hfl, efl⟩, h5, h6⟩ := h4
  have e0 : gF 2 0 = nI fl := by rw [h5]; exact efl
  by_cases h0 : v1 < 0 ∨ nI fl ≤ v1
  · have e : fX6_miss g v1 = (0, thr g 1) := by
      unfold fX6_miss
      rw [efl, in0 (cnt_x (by omega) h0), as1_0, jn_eq, if_pos (c := (0 : Int32) = 0) rfl]
    refine ⟨1, gP, gT, gA, gF, fo, hL_miss_x1 l X h a b na nf o gP gT gA gF fo v1 (mX5_miss_x1 l hl X h a b na nf gP gT gA gF v1 (by rw [e0]; exact h0)) ⟨by decide, by decide⟩, ?_, ?_, ?_⟩
    · rw [e]; exact thr_10 g 1
    · intro h9; exact absurd h9 (by decide)
    · rw [e]; exact rel_thr 1 hR
  obtain ⟨f, hf, rfl⟩ := cnt_n (by omega) h0
  have h7 := cnt_1 (n := fl) (f := f) (by omega) hf
  have h8 : nI f < gF 2 0 := by rw [e0]; exact nI_lt hf (by omega)
  have h9 := h6 f (by omega) (by rw [efl]; exact nI_lt hf (by omega))
  have e : fX6_miss g (nI f) = (g 8 f, thr g 0) := by
    unfold fX6_miss
    rw [efl, in1 h7.1 h7.2, as1_1, jn_eq, if_neg (c := (1 : Int32) = 0) (by decide)]
    dsimp only
    rw [nI_clamp (n := f) (by omega), thr_n (j := 8) (by decide)]
  refine ⟨0, gP, gT, gA, gF, _, hL_miss_ok l X h a b na nf o gP gT gA gF fo (nI f) gP gT gA gF _ (mX5_miss l X h a b na nf gP gT gA gF f (by omega) h8 h9.2.2.1) ⟨by decide, by decide⟩, ?_, fun _ => ?_, ?_⟩
  · rw [e]; exact thr_10 g 0
  · rw [pk_uLs, e]
    unfold fX5_miss
    rw [h9.2.2.2]
  · rw [e]; exact rel_thr 0 hR
