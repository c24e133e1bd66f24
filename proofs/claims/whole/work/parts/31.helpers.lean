/-- the cells of the class's object and the law's long array -/
def HW (h a b na nf : Nat → Nat) (o : Nat) (X : zX) (gP gT gA gF : zG) (fo : Nat → Int64) : va_W := [(h 0, .inr (5, [.ref (a 0), .ref (b 0), .ref (na 0), .ref (nf 0)])), (a 0, .inr (3, [.int (gP 10 0), .int (gP 10 1), .int (gP 10 2), .int (gP 10 3), .int (gP 10 4), .ref (a 1), .ref (a 2), .ref (a 3), .ref (a 4), .ref (a 5), .ref (a 6), .ref (a 7), .ref (a 8), .ref (a 9), .ref (a 10), .int (gP 10 5)])), (a 1, .inr (1, [.ref (a 11), .ref (a 12)])), (a 2, .inr (4, [.int (gP 11 0), .int (gP 11 1), .int (gP 11 2), .int (gP 11 3), .int (gP 11 4)])), (a 3, .inl (X.2.1, 12, .inl (gP 0))), (a 4, .inl (X.2.1, 12, .inl (gP 1))), (a 5, .inl (X.2.1, 12, .inl (gP 2))), (a 6, .inl (X.2.1, 12, .inl (gP 3))), (a 7, .inl (X.2.1, 12, .inl (gP 4))), (a 8, .inl (X.2.1, 12, .inl (gP 5))), (a 9, .inl (X.2.1, 11, .inl (gP 6))), (a 10, .inl (X.2.1, 12, .inl (gP 7))), (a 11, .inl (X.2.1, 12, .inl (gP 8))), (a 12, .inl (X.2.1, 732, .inl (gP 9))), (b 0, .inr (3, [.int (gT 10 0), .int (gT 10 1), .int (gT 10 2), .int (gT 10 3), .int (gT 10 4), .ref (b 1), .ref (b 2), .ref (b 3), .ref (b 4), .ref (b 5), .ref (b 6), .ref (b 7), .ref (b 8), .ref (b 9), .ref (b 10), .int (gT 10 5)])), (b 1, .inr (1, [.ref (b 11), .ref (b 12)])), (b 2, .inr (4, [.int (gT 11 0), .int (gT 11 1), .int (gT 11 2), .int (gT 11 3), .int (gT 11 4)])), (b 3, .inl (X.2.1, 12, .inl (gT 0))), (b 4, .inl (X.2.1, 12, .inl (gT 1))), (b 5, .inl (X.2.1, 12, .inl (gT 2))), (b 6, .inl (X.2.1, 12, .inl (gT 3))), (b 7, .inl (X.2.1, 12, .inl (gT 4))), (b 8, .inl (X.2.1, 12, .inl (gT 5))), (b 9, .inl (X.2.1, 11, .inl (gT 6))), (b 10, .inl (X.2.1, 12, .inl (gT 7))), (b 11, .inl (X.2.1, 12, .inl (gT 8))), (b 12, .inl (X.2.1, 732, .inl (gT 9))), (na 0, .inr (0, [.ref (na 1), .ref (na 2), .ref (na 3), .ref (na 4), .ref (na 5), .ref (na 6), .int (gA 6 0)])), (na 1, .inl (X.2.2.1, 61, .inl (gA 0))), (na 2, .inl (X.2.1, 61, .inl (gA 1))), (na 3, .inl (X.2.1, 61, .inl (gA 2))), (na 4, .inl (X.2.1, 720, .inl (gA 3))), (na 5, .inl (X.2.1, 720, .inl (gA 4))), (na 6, .inl (X.2.1, 720, .inl (gA 5))), (nf 0, .inr (2, [.ref (nf 1), .ref (nf 2), .int (gF 2 0)])), (nf 1, .inl (X.2.1, 10, .inl (gF 0))), (nf 2, .inl (X.2.1, 10, .inl (gF 1))), (o, .inl (X.2.2.2, 1, .inr (.inl fo)))]
set_option maxHeartbeats 4000000 in
set_option maxRecDepth 100000 in
theorem hL_land_ok (l : Launch) (X : zX) (h a b na nf : Nat → Nat) (o : Nat) (gP gT gA gF : zG) (fo : Nat → Int64) (v1 v2 : Int32) (gP1 gT1 gA1 gF1 : zG) (r : Int32) {fr lo : Nat} (hM : CI l yX5_land wsX5_land fr lo 0 0 X (IW h a b na nf X gP gT gA gF) (.ref (h 0) :: [.int v1, .int v2]) r (IW h a b na nf X gP1 gT1 gA1 gF1)) (hR : fr + 1 ≤ 9 ∧ 8 + (4 + 11) + lo ≤ 200) : CE l yL_land wsL_land 9 200 1 6 X (HW h a b na nf o X gP gT gA gF fo) [.ref (h 0), .int v1, .int v2, .ref o] 0 (HW h a b na nf o X gP1 gT1 gA1 gF1 (vp_updL fo 0 r.toInt64)) := by
  refine ce_intro (cc := cL_land) (ret := some .int) (maxL := 5) (hh := [(0, 10, 13, 13), (0, 10, 17, 15), (0, 10, 21, 17)]) (by decide +kernel) rfl (Nat.le_of_ble_eq_true rfl) ?_
  intro p e s m args below meth c A Q C hxw hxs hT hQ
  show Z p l e { frames := 9, cells := 1, slots := 6, locals := 200 } s m args below meth c X A 5 Q 0 0 (HW h a b na nf o X gP gT gA gF fo) [(0, .ref (h 0)), (1, .int v1), (2, .int v2), (3, .ref o)] 0 []
  refine z_aln C dL_land_0 3 rfl ?_
  refine z_ic C dL_land_1 0 (by decide) ?_
  refine z_aln C dL_land_2 0 rfl ?_
  refine z_iln C dL_land_3 1 rfl ?_
  refine z_iln C dL_land_4 2 rfl ?_
  refine z_cVi (As := [.int v1, .int v2]) (rest := [.int 0, .ref o]) C hM gL_land_X5_land rfl ⟨rfl, by decide, by decide, (by decide : (parseMethodDescriptor yX5_land.desc).map (fun d => d.parameters.length) = some 2)⟩ hR ⟨by decide, by decide⟩ 0 5 rfl rfl [0, 1, 2, 3, 4, 5, 6, 7, 8, 9, 10, 11, 12, 13, 14, 15, 16, 17, 18, 19, 20, 21, 22, 23, 24, 25, 26, 27, 28, 29, 30, 31, 32, 33, 34, 35, 36] [37] [1, 2, 3, 4, 5, 6, 7, 8, 9, 10, 11, 12, 13, 14, 15, 16, 17, 18, 19, 20, 21, 22, 23, 24, 25, 26, 27, 28, 29, 30, 31, 32, 33, 34, 35, 36, 37, 0] rfl rfl (by decide) (by decide) (by decide) (by decide) (HW h a b na nf o X gP1 gT1 gA1 gF1 fo) rfl (Nat.le_of_ble_eq_true rfl) dL_land_5 rfl ?_
  refine z_i2l C dL_land_8 r.toInt64 rfl ?_
  refine z_last C 37 0 (HW h a b na nf o X gP1 gT1 gA1 gF1 (vp_updL fo 0 r.toInt64)) dL_land_9 rfl (by decide) (by decide) (by decide) rfl ?_
  refine z_go C 25 dL_land_10 (by decide) ?_
  refine z_ic C dL_land_25 0 (by decide) ?_
  exact z_iret C hQ dL_land_26 rfl rfl (by decide) (by decide)
set_option maxHeartbeats 4000000 in
set_option maxRecDepth 100000 in
theorem hL_land_x1 (l : Launch) (X : zX) (h a b na nf : Nat → Nat) (o : Nat) (gP gT gA gF : zG) (fo : Nat → Int64) (v1 v2 : Int32) {fr lo : Nat} (hM : CXi l yX5_land wsX5_land fr lo 1 6 X (IW h a b na nf X gP gT gA gF) (.ref (h 0) :: [.int v1, .int v2]) xIOB) (hR : fr + 1 ≤ 9 ∧ 8 + (4 + 11) + lo ≤ 200) : CE l yL_land wsL_land 9 200 1 6 X (HW h a b na nf o X gP gT gA gF fo) [.ref (h 0), .int v1, .int v2, .ref o] 1 (HW h a b na nf o X gP gT gA gF fo) := by
  refine ce_intro (cc := cL_land) (ret := some .int) (maxL := 5) (hh := [(0, 10, 13, 13), (0, 10, 17, 15), (0, 10, 21, 17)]) (by decide +kernel) rfl (Nat.le_of_ble_eq_true rfl) ?_
  intro p e s m args below meth c A Q C hxw hxs hT hQ
  show Z p l e { frames := 9, cells := 1, slots := 6, locals := 200 } s m args below meth c X A 5 Q 0 0 (HW h a b na nf o X gP gT gA gF fo) [(0, .ref (h 0)), (1, .int v1), (2, .int v2), (3, .ref o)] 0 []
  refine z_aln C dL_land_0 3 rfl ?_
  refine z_ic C dL_land_1 0 (by decide) ?_
  refine z_aln C dL_land_2 0 rfl ?_
  refine z_iln C dL_land_3 1 rfl ?_
  refine z_iln C dL_land_4 2 rfl ?_
  refine z_xci (As := [.int v1, .int v2]) (rest := [.int 0, .ref o]) C hxw hxs hM gL_land_X5_land rfl ⟨rfl, by decide, by decide, (by decide : (parseMethodDescriptor yX5_land.desc).map (fun d => d.parameters.length) = some 2)⟩ hR ⟨by decide, by decide⟩ 0 5 rfl rfl [0, 1, 2, 3, 4, 5, 6, 7, 8, 9, 10, 11, 12, 13, 14, 15, 16, 17, 18, 19, 20, 21, 22, 23, 24, 25, 26, 27, 28, 29, 30, 31, 32, 33, 34, 35, 36] [37] [1, 2, 3, 4, 5, 6, 7, 8, 9, 10, 11, 12, 13, 14, 15, 16, 17, 18, 19, 20, 21, 22, 23, 24, 25, 26, 27, 28, 29, 30, 31, 32, 33, 34, 35, 36, 37, 0] rfl rfl (by decide) (by decide) (by decide) (by decide) rfl (Nat.le_of_ble_eq_true rfl) dL_land_5 rfl [] ⟨0, 10, 13, 13⟩ [⟨0, 10, 17, 15⟩, ⟨0, 10, 21, 17⟩] (hT.trans rfl) (fun z hz => absurd hz List.not_mem_nil) (by decide) (by decide) (by decide +kernel) (by decide) (fun q => ?_)
  refine z_as C [(4, .ref q), (0, .ref (h 0)), (1, .int v1), (2, .int v2), (3, .ref o)] dL_land_13 (by decide) rfl ?_
  refine z_ic C dL_land_15 1 (by decide) ?_
  exact z_iret C hQ dL_land_16 rfl rfl (by decide) (by decide)
set_option maxHeartbeats 4000000 in
set_option maxRecDepth 100000 in
theorem hL_land_x2 (l : Launch) (X : zX) (h a b na nf : Nat → Nat) (o : Nat) (gP gT gA gF : zG) (fo : Nat → Int64) (v1 v2 : Int32) {fr lo : Nat} (hM : CXi l yX5_land wsX5_land fr lo 1 6 X (IW h a b na nf X gP gT gA gF) (.ref (h 0) :: [.int v1, .int v2]) xIAE) (hR : fr + 1 ≤ 9 ∧ 8 + (4 + 11) + lo ≤ 200) : CE l yL_land wsL_land 9 200 1 6 X (HW h a b na nf o X gP gT gA gF fo) [.ref (h 0), .int v1, .int v2, .ref o] 2 (HW h a b na nf o X gP gT gA gF fo) := by
  refine ce_intro (cc := cL_land) (ret := some .int) (maxL := 5) (hh := [(0, 10, 13, 13), (0, 10, 17, 15), (0, 10, 21, 17)]) (by decide +kernel) rfl (Nat.le_of_ble_eq_true rfl) ?_
  intro p e s m args below meth c A Q C hxw hxs hT hQ
  show Z p l e { frames := 9, cells := 1, slots := 6, locals := 200 } s m args below meth c X A 5 Q 0 0 (HW h a b na nf o X gP gT gA gF fo) [(0, .ref (h 0)), (1, .int v1), (2, .int v2), (3, .ref o)] 0 []
  refine z_aln C dL_land_0 3 rfl ?_
  refine z_ic C dL_land_1 0 (by decide) ?_
  refine z_aln C dL_land_2 0 rfl ?_
  refine z_iln C dL_land_3 1 rfl ?_
  refine z_iln C dL_land_4 2 rfl ?_
  refine z_xci (As := [.int v1, .int v2]) (rest := [.int 0, .ref o]) C hxw hxs hM gL_land_X5_land rfl ⟨rfl, by decide, by decide, (by decide : (parseMethodDescriptor yX5_land.desc).map (fun d => d.parameters.length) = some 2)⟩ hR ⟨by decide, by decide⟩ 0 5 rfl rfl [0, 1, 2, 3, 4, 5, 6, 7, 8, 9, 10, 11, 12, 13, 14, 15, 16, 17, 18, 19, 20, 21, 22, 23, 24, 25, 26, 27, 28, 29, 30, 31, 32, 33, 34, 35, 36] [37] [1, 2, 3, 4, 5, 6, 7, 8, 9, 10, 11, 12, 13, 14, 15, 16, 17, 18, 19, 20, 21, 22, 23, 24, 25, 26, 27, 28, 29, 30, 31, 32, 33, 34, 35, 36, 37, 0] rfl rfl (by decide) (by decide) (by decide) (by decide) rfl (Nat.le_of_ble_eq_true rfl) dL_land_5 rfl [⟨0, 10, 13, 13⟩] ⟨0, 10, 17, 15⟩ [⟨0, 10, 21, 17⟩] (hT.trans rfl) (fun z hz => by
    simp only [List.mem_cons, List.not_mem_nil, or_false] at hz
    rcases hz with rfl
    · exact Or.inr ⟨by decide, xIOB, C.ts _ (by decide +kernel), hxw.2.2.1 (xIAE, xIOB) (by decide)⟩) (by decide) (by decide) (by decide +kernel) (by decide) (fun q => ?_)
  refine z_as C [(4, .ref q), (0, .ref (h 0)), (1, .int v1), (2, .int v2), (3, .ref o)] dL_land_17 (by decide) rfl ?_
  refine z_ic C dL_land_19 2 (by decide) ?_
  exact z_iret C hQ dL_land_20 rfl rfl (by decide) (by decide)
set_option maxHeartbeats 4000000 in
set_option maxRecDepth 100000 in
theorem hL_land_x3 (l : Launch) (X : zX) (h a b na nf : Nat → Nat) (o : Nat) (gP gT gA gF : zG) (fo : Nat → Int64) (v1 v2 : Int32) {fr lo : Nat} (hM : CXi l yX5_land wsX5_land fr lo 1 6 X (IW h a b na nf X gP gT gA gF) (.ref (h 0) :: [.int v1, .int v2]) xISE) (hR : fr + 1 ≤ 9 ∧ 8 + (4 + 11) + lo ≤ 200) : CE l yL_land wsL_land 9 200 1 6 X (HW h a b na nf o X gP gT gA gF fo) [.ref (h 0), .int v1, .int v2, .ref o] 3 (HW h a b na nf o X gP gT gA gF fo) := by
  refine ce_intro (cc := cL_land) (ret := some .int) (maxL := 5) (hh := [(0, 10, 13, 13), (0, 10, 17, 15), (0, 10, 21, 17)]) (by decide +kernel) rfl (Nat.le_of_ble_eq_true rfl) ?_
  intro p e s m args below meth c A Q C hxw hxs hT hQ
  show Z p l e { frames := 9, cells := 1, slots := 6, locals := 200 } s m args below meth c X A 5 Q 0 0 (HW h a b na nf o X gP gT gA gF fo) [(0, .ref (h 0)), (1, .int v1), (2, .int v2), (3, .ref o)] 0 []
  refine z_aln C dL_land_0 3 rfl ?_
  refine z_ic C dL_land_1 0 (by decide) ?_
  refine z_aln C dL_land_2 0 rfl ?_
  refine z_iln C dL_land_3 1 rfl ?_
  refine z_iln C dL_land_4 2 rfl ?_
  refine z_xci (As := [.int v1, .int v2]) (rest := [.int 0, .ref o]) C hxw hxs hM gL_land_X5_land rfl ⟨rfl, by decide, by decide, (by decide : (parseMethodDescriptor yX5_land.desc).map (fun d => d.parameters.length) = some 2)⟩ hR ⟨by decide, by decide⟩ 0 5 rfl rfl [0, 1, 2, 3, 4, 5, 6, 7, 8, 9, 10, 11, 12, 13, 14, 15, 16, 17, 18, 19, 20, 21, 22, 23, 24, 25, 26, 27, 28, 29, 30, 31, 32, 33, 34, 35, 36] [37] [1, 2, 3, 4, 5, 6, 7, 8, 9, 10, 11, 12, 13, 14, 15, 16, 17, 18, 19, 20, 21, 22, 23, 24, 25, 26, 27, 28, 29, 30, 31, 32, 33, 34, 35, 36, 37, 0] rfl rfl (by decide) (by decide) (by decide) (by decide) rfl (Nat.le_of_ble_eq_true rfl) dL_land_5 rfl [⟨0, 10, 13, 13⟩, ⟨0, 10, 17, 15⟩] ⟨0, 10, 21, 17⟩ [] (hT.trans rfl) (fun z hz => by
    simp only [List.mem_cons, List.not_mem_nil, or_false] at hz
    rcases hz with rfl | rfl
    · exact Or.inr ⟨by decide, xIOB, C.ts _ (by decide +kernel), hxw.2.2.1 (xISE, xIOB) (by decide)⟩
    · exact Or.inr ⟨by decide, xIAE, C.ts _ (by decide +kernel), hxw.2.2.1 (xISE, xIAE) (by decide)⟩) (by decide) (by decide) (by decide +kernel) (by decide) (fun q => ?_)
  refine z_as C [(4, .ref q), (0, .ref (h 0)), (1, .int v1), (2, .int v2), (3, .ref o)] dL_land_21 (by decide) rfl ?_
  refine z_ic C dL_land_23 3 (by decide) ?_
  exact z_iret C hQ dL_land_24 rfl rfl (by decide) (by decide)
set_option maxHeartbeats 4000000 in
set_option maxRecDepth 100000 in
theorem hL_sea_ok (l : Launch) (X : zX) (h a b na nf : Nat → Nat) (o : Nat) (gP gT gA gF : zG) (fo : Nat → Int64) (v1 : Int32) (gP1 gT1 gA1 gF1 : zG) (r : Int32) {fr lo : Nat} (hM : CI l yX5_sea wsX5_sea fr lo 0 0 X (IW h a b na nf X gP gT gA gF) (.ref (h 0) :: [.int v1]) r (IW h a b na nf X gP1 gT1 gA1 gF1)) (hR : fr + 1 ≤ 9 ∧ 8 + (3 + 11) + lo ≤ 200) : CE l yL_sea wsL_sea 9 200 1 6 X (HW h a b na nf o X gP gT gA gF fo) [.ref (h 0), .int v1, .ref o] 0 (HW h a b na nf o X gP1 gT1 gA1 gF1 (vp_updL fo 0 r.toInt64)) := by
  refine ce_intro (cc := cL_sea) (ret := some .int) (maxL := 4) (hh := [(0, 9, 12, 15)]) (by decide +kernel) rfl (Nat.le_of_ble_eq_true rfl) ?_
  intro p e s m args below meth c A Q C hxw hxs hT hQ
  show Z p l e { frames := 9, cells := 1, slots := 6, locals := 200 } s m args below meth c X A 4 Q 0 0 (HW h a b na nf o X gP gT gA gF fo) [(0, .ref (h 0)), (1, .int v1), (2, .ref o)] 0 []
  refine z_aln C dL_sea_0 2 rfl ?_
  refine z_ic C dL_sea_1 0 (by decide) ?_
  refine z_aln C dL_sea_2 0 rfl ?_
  refine z_iln C dL_sea_3 1 rfl ?_
  refine z_cVi (As := [.int v1]) (rest := [.int 0, .ref o]) C hM gL_sea_X5_sea rfl ⟨rfl, by decide, by decide, (by decide : (parseMethodDescriptor yX5_sea.desc).map (fun d => d.parameters.length) = some 1)⟩ hR ⟨by decide, by decide⟩ 0 5 rfl rfl [0, 1, 2, 3, 4, 5, 6, 7, 8, 9, 10, 11, 12, 13, 14, 15, 16, 17, 18, 19, 20, 21, 22, 23, 24, 25, 26, 27, 28, 29, 30, 31, 32, 33, 34, 35, 36] [37] [1, 2, 3, 4, 5, 6, 7, 8, 9, 10, 11, 12, 13, 14, 15, 16, 17, 18, 19, 20, 21, 22, 23, 24, 25, 26, 27, 28, 29, 30, 31, 32, 33, 34, 35, 36, 37, 0] rfl rfl (by decide) (by decide) (by decide) (by decide) (HW h a b na nf o X gP1 gT1 gA1 gF1 fo) rfl (Nat.le_of_ble_eq_true rfl) dL_sea_4 rfl ?_
  refine z_i2l C dL_sea_7 r.toInt64 rfl ?_
  refine z_last C 37 0 (HW h a b na nf o X gP1 gT1 gA1 gF1 (vp_updL fo 0 r.toInt64)) dL_sea_8 rfl (by decide) (by decide) (by decide) rfl ?_
  refine z_go C 15 dL_sea_9 (by decide) ?_
  refine z_ic C dL_sea_15 0 (by decide) ?_
  exact z_iret C hQ dL_sea_16 rfl rfl (by decide) (by decide)
set_option maxHeartbeats 4000000 in
set_option maxRecDepth 100000 in
theorem hL_sea_x1 (l : Launch) (X : zX) (h a b na nf : Nat → Nat) (o : Nat) (gP gT gA gF : zG) (fo : Nat → Int64) (v1 : Int32) {fr lo : Nat} (hM : CXi l yX5_sea wsX5_sea fr lo 1 6 X (IW h a b na nf X gP gT gA gF) (.ref (h 0) :: [.int v1]) xIAE) (hR : fr + 1 ≤ 9 ∧ 8 + (3 + 11) + lo ≤ 200) : CE l yL_sea wsL_sea 9 200 1 6 X (HW h a b na nf o X gP gT gA gF fo) [.ref (h 0), .int v1, .ref o] 1 (HW h a b na nf o X gP gT gA gF fo) := by
  refine ce_intro (cc := cL_sea) (ret := some .int) (maxL := 4) (hh := [(0, 9, 12, 15)]) (by decide +kernel) rfl (Nat.le_of_ble_eq_true rfl) ?_
  intro p e s m args below meth c A Q C hxw hxs hT hQ
  show Z p l e { frames := 9, cells := 1, slots := 6, locals := 200 } s m args below meth c X A 4 Q 0 0 (HW h a b na nf o X gP gT gA gF fo) [(0, .ref (h 0)), (1, .int v1), (2, .ref o)] 0 []
  refine z_aln C dL_sea_0 2 rfl ?_
  refine z_ic C dL_sea_1 0 (by decide) ?_
  refine z_aln C dL_sea_2 0 rfl ?_
  refine z_iln C dL_sea_3 1 rfl ?_
  refine z_xci (As := [.int v1]) (rest := [.int 0, .ref o]) C hxw hxs hM gL_sea_X5_sea rfl ⟨rfl, by decide, by decide, (by decide : (parseMethodDescriptor yX5_sea.desc).map (fun d => d.parameters.length) = some 1)⟩ hR ⟨by decide, by decide⟩ 0 5 rfl rfl [0, 1, 2, 3, 4, 5, 6, 7, 8, 9, 10, 11, 12, 13, 14, 15, 16, 17, 18, 19, 20, 21, 22, 23, 24, 25, 26, 27, 28, 29, 30, 31, 32, 33, 34, 35, 36] [37] [1, 2, 3, 4, 5, 6, 7, 8, 9, 10, 11, 12, 13, 14, 15, 16, 17, 18, 19, 20, 21, 22, 23, 24, 25, 26, 27, 28, 29, 30, 31, 32, 33, 34, 35, 36, 37, 0] rfl rfl (by decide) (by decide) (by decide) (by decide) rfl (Nat.le_of_ble_eq_true rfl) dL_sea_4 rfl [] ⟨0, 9, 12, 15⟩ [] (hT.trans rfl) (fun z hz => absurd hz List.not_mem_nil) (by decide) (by decide) (by decide +kernel) (by decide) (fun q => ?_)
  refine z_asn C 3 [(3, .ref q), (0, .ref (h 0)), (1, .int v1), (2, .ref o)] dL_sea_12 rfl (by decide) rfl ?_
  refine z_ic C dL_sea_13 1 (by decide) ?_
  exact z_iret C hQ dL_sea_14 rfl rfl (by decide) (by decide)
set_option maxHeartbeats 4000000 in
set_option maxRecDepth 100000 in
theorem hL_climate_ok (l : Launch) (X : zX) (h a b na nf : Nat → Nat) (o : Nat) (gP gT gA gF : zG) (fo : Nat → Int64) (v1 v2 v3 : Int32) (gP1 gT1 gA1 gF1 : zG) {fr lo : Nat} (hM : CV l yX5_climate wsX5_climate fr lo 0 0 X (IW h a b na nf X gP gT gA gF) (.ref (h 0) :: [.int v1, .int v2, .int v3]) (IW h a b na nf X gP1 gT1 gA1 gF1)) (hR : fr + 1 ≤ 9 ∧ 8 + (4 + 11) + lo ≤ 200) : CE l yL_climate wsL_climate 9 200 1 6 X (HW h a b na nf o X gP gT gA gF fo) [.ref (h 0), .int v1, .int v2, .int v3] 0 (HW h a b na nf o X gP1 gT1 gA1 gF1 fo) := by
  refine ce_intro (cc := cL_climate) (ret := some .int) (maxL := 5) (hh := [(0, 7, 10, 15)]) (by decide +kernel) rfl (Nat.le_of_ble_eq_true rfl) ?_
  intro p e s m args below meth c A Q C hxw hxs hT hQ
  show Z p l e { frames := 9, cells := 1, slots := 6, locals := 200 } s m args below meth c X A 5 Q 0 0 (HW h a b na nf o X gP gT gA gF fo) [(0, .ref (h 0)), (1, .int v1), (2, .int v2), (3, .int v3)] 0 []
  refine z_aln C dL_climate_0 0 rfl ?_
  refine z_iln C dL_climate_1 1 rfl ?_
  refine z_iln C dL_climate_2 2 rfl ?_
  refine z_iln C dL_climate_3 3 rfl ?_
  refine z_cVu (w1 := fun _ : Unit => (IW h a b na nf X gP1 gT1 gA1 gF1)) (As := [.int v1, .int v2, .int v3]) (rest := []) C hM gL_climate_X5_climate rfl ⟨rfl, by decide, by decide, (by decide : (parseMethodDescriptor yX5_climate.desc).map (fun d => d.parameters.length) = some 3)⟩ hR ⟨by decide, by decide⟩ 0 5 rfl rfl [0, 1, 2, 3, 4, 5, 6, 7, 8, 9, 10, 11, 12, 13, 14, 15, 16, 17, 18, 19, 20, 21, 22, 23, 24, 25, 26, 27, 28, 29, 30, 31, 32, 33, 34, 35, 36] [37] [1, 2, 3, 4, 5, 6, 7, 8, 9, 10, 11, 12, 13, 14, 15, 16, 17, 18, 19, 20, 21, 22, 23, 24, 25, 26, 27, 28, 29, 30, 31, 32, 33, 34, 35, 36, 37, 0] rfl rfl (by decide) (by decide) (by decide) (by decide) (fun _ => (HW h a b na nf o X gP1 gT1 gA1 gF1 fo)) (fun _ => rfl) (Nat.le_of_ble_eq_true rfl) dL_climate_4 rfl (fun _ => ?_)
  refine z_go C 14 dL_climate_7 (by decide) ?_
  refine z_ic C dL_climate_14 0 (by decide) ?_
  exact z_iret C hQ dL_climate_15 rfl rfl (by decide) (by decide)
set_option maxHeartbeats 4000000 in
set_option maxRecDepth 100000 in
theorem hL_climate_x1 (l : Launch) (X : zX) (h a b na nf : Nat → Nat) (o : Nat) (gP gT gA gF : zG) (fo : Nat → Int64) (v1 v2 v3 : Int32) {fr lo : Nat} (hM : CXv l yX5_climate wsX5_climate fr lo 1 6 X (IW h a b na nf X gP gT gA gF) (.ref (h 0) :: [.int v1, .int v2, .int v3]) xIAE) (hR : fr + 1 ≤ 9 ∧ 8 + (4 + 11) + lo ≤ 200) : CE l yL_climate wsL_climate 9 200 1 6 X (HW h a b na nf o X gP gT gA gF fo) [.ref (h 0), .int v1, .int v2, .int v3] 1 (HW h a b na nf o X gP gT gA gF fo) := by
  refine ce_intro (cc := cL_climate) (ret := some .int) (maxL := 5) (hh := [(0, 7, 10, 15)]) (by decide +kernel) rfl (Nat.le_of_ble_eq_true rfl) ?_
  intro p e s m args below meth c A Q C hxw hxs hT hQ
  show Z p l e { frames := 9, cells := 1, slots := 6, locals := 200 } s m args below meth c X A 5 Q 0 0 (HW h a b na nf o X gP gT gA gF fo) [(0, .ref (h 0)), (1, .int v1), (2, .int v2), (3, .int v3)] 0 []
  refine z_aln C dL_climate_0 0 rfl ?_
  refine z_iln C dL_climate_1 1 rfl ?_
  refine z_iln C dL_climate_2 2 rfl ?_
  refine z_iln C dL_climate_3 3 rfl ?_
  refine z_xcv (As := [.int v1, .int v2, .int v3]) (rest := []) C hxw hxs hM gL_climate_X5_climate rfl ⟨rfl, by decide, by decide, (by decide : (parseMethodDescriptor yX5_climate.desc).map (fun d => d.parameters.length) = some 3)⟩ hR ⟨by decide, by decide⟩ 0 5 rfl rfl [0, 1, 2, 3, 4, 5, 6, 7, 8, 9, 10, 11, 12, 13, 14, 15, 16, 17, 18, 19, 20, 21, 22, 23, 24, 25, 26, 27, 28, 29, 30, 31, 32, 33, 34, 35, 36] [37] [1, 2, 3, 4, 5, 6, 7, 8, 9, 10, 11, 12, 13, 14, 15, 16, 17, 18, 19, 20, 21, 22, 23, 24, 25, 26, 27, 28, 29, 30, 31, 32, 33, 34, 35, 36, 37, 0] rfl rfl (by decide) (by decide) (by decide) (by decide) rfl (Nat.le_of_ble_eq_true rfl) dL_climate_4 rfl [] ⟨0, 7, 10, 15⟩ [] (hT.trans rfl) (fun z hz => absurd hz List.not_mem_nil) (by decide) (by decide) (by decide +kernel) (by decide) (fun q => ?_)
  refine z_as C [(4, .ref q), (0, .ref (h 0)), (1, .int v1), (2, .int v2), (3, .int v3)] dL_climate_10 (by decide) rfl ?_
  refine z_ic C dL_climate_12 1 (by decide) ?_
  exact z_iret C hQ dL_climate_13 rfl rfl (by decide) (by decide)
set_option maxHeartbeats 4000000 in
set_option maxRecDepth 100000 in
theorem hL_ice_ok (l : Launch) (X : zX) (h a b na nf : Nat → Nat) (o : Nat) (gP gT gA gF : zG) (fo : Nat → Int64) (v1 v2 : Int32) (gP1 gT1 gA1 gF1 : zG) (r : Int32) {fr lo : Nat} (hM : CI l yX5_ice wsX5_ice fr lo 0 0 X (IW h a b na nf X gP gT gA gF) (.ref (h 0) :: [.int v1, .int v2]) r (IW h a b na nf X gP1 gT1 gA1 gF1)) (hR : fr + 1 ≤ 9 ∧ 8 + (3 + 11) + lo ≤ 200) : CE l yL_ice wsL_ice 9 200 1 6 X (HW h a b na nf o X gP gT gA gF fo) [.ref (h 0), .int v1, .int v2, .ref o] 0 (HW h a b na nf o X gP1 gT1 gA1 gF1 (vp_updL fo 0 r.toInt64)) := by
  refine ce_intro (cc := cL_ice) (ret := some .int) (maxL := 5) (hh := [(0, 10, 13, 13), (0, 10, 17, 15), (0, 10, 21, 17)]) (by decide +kernel) rfl (Nat.le_of_ble_eq_true rfl) ?_
  intro p e s m args below meth c A Q C hxw hxs hT hQ
  show Z p l e { frames := 9, cells := 1, slots := 6, locals := 200 } s m args below meth c X A 5 Q 0 0 (HW h a b na nf o X gP gT gA gF fo) [(0, .ref (h 0)), (1, .int v1), (2, .int v2), (3, .ref o)] 0 []
  refine z_aln C dL_ice_0 3 rfl ?_
  refine z_ic C dL_ice_1 0 (by decide) ?_
  refine z_aln C dL_ice_2 0 rfl ?_
  refine z_iln C dL_ice_3 1 rfl ?_
  refine z_iln C dL_ice_4 2 rfl ?_
  refine z_cVi (As := [.int v1, .int v2]) (rest := [.int 0, .ref o]) C hM gL_ice_X5_ice rfl ⟨rfl, by decide, by decide, (by decide : (parseMethodDescriptor yX5_ice.desc).map (fun d => d.parameters.length) = some 2)⟩ hR ⟨by decide, by decide⟩ 0 5 rfl rfl [0, 1, 2, 3, 4, 5, 6, 7, 8, 9, 10, 11, 12, 13, 14, 15, 16, 17, 18, 19, 20, 21, 22, 23, 24, 25, 26, 27, 28, 29, 30, 31, 32, 33, 34, 35, 36] [37] [1, 2, 3, 4, 5, 6, 7, 8, 9, 10, 11, 12, 13, 14, 15, 16, 17, 18, 19, 20, 21, 22, 23, 24, 25, 26, 27, 28, 29, 30, 31, 32, 33, 34, 35, 36, 37, 0] rfl rfl (by decide) (by decide) (by decide) (by decide) (HW h a b na nf o X gP1 gT1 gA1 gF1 fo) rfl (Nat.le_of_ble_eq_true rfl) dL_ice_5 rfl ?_
  refine z_i2l C dL_ice_8 r.toInt64 rfl ?_
  refine z_last C 37 0 (HW h a b na nf o X gP1 gT1 gA1 gF1 (vp_updL fo 0 r.toInt64)) dL_ice_9 rfl (by decide) (by decide) (by decide) rfl ?_
  refine z_go C 25 dL_ice_10 (by decide) ?_
  refine z_ic C dL_ice_25 0 (by decide) ?_
  exact z_iret C hQ dL_ice_26 rfl rfl (by decide) (by decide)
set_option maxHeartbeats 4000000 in
set_option maxRecDepth 100000 in
theorem hL_ice_x1 (l : Launch) (X : zX) (h a b na nf : Nat → Nat) (o : Nat) (gP gT gA gF : zG) (fo : Nat → Int64) (v1 v2 : Int32) {fr lo : Nat} (hM : CXi l yX5_ice wsX5_ice fr lo 1 6 X (IW h a b na nf X gP gT gA gF) (.ref (h 0) :: [.int v1, .int v2]) xIOB) (hR : fr + 1 ≤ 9 ∧ 8 + (3 + 11) + lo ≤ 200) : CE l yL_ice wsL_ice 9 200 1 6 X (HW h a b na nf o X gP gT gA gF fo) [.ref (h 0), .int v1, .int v2, .ref o] 1 (HW h a b na nf o X gP gT gA gF fo) := by
  refine ce_intro (cc := cL_ice) (ret := some .int) (maxL := 5) (hh := [(0, 10, 13, 13), (0, 10, 17, 15), (0, 10, 21, 17)]) (by decide +kernel) rfl (Nat.le_of_ble_eq_true rfl) ?_
  intro p e s m args below meth c A Q C hxw hxs hT hQ
  show Z p l e { frames := 9, cells := 1, slots := 6, locals := 200 } s m args below meth c X A 5 Q 0 0 (HW h a b na nf o X gP gT gA gF fo) [(0, .ref (h 0)), (1, .int v1), (2, .int v2), (3, .ref o)] 0 []
  refine z_aln C dL_ice_0 3 rfl ?_
  refine z_ic C dL_ice_1 0 (by decide) ?_
  refine z_aln C dL_ice_2 0 rfl ?_
  refine z_iln C dL_ice_3 1 rfl ?_
  refine z_iln C dL_ice_4 2 rfl ?_
  refine z_xci (As := [.int v1, .int v2]) (rest := [.int 0, .ref o]) C hxw hxs hM gL_ice_X5_ice rfl ⟨rfl, by decide, by decide, (by decide : (parseMethodDescriptor yX5_ice.desc).map (fun d => d.parameters.length) = some 2)⟩ hR ⟨by decide, by decide⟩ 0 5 rfl rfl [0, 1, 2, 3, 4, 5, 6, 7, 8, 9, 10, 11, 12, 13, 14, 15, 16, 17, 18, 19, 20, 21, 22, 23, 24, 25, 26, 27, 28, 29, 30, 31, 32, 33, 34, 35, 36] [37] [1, 2, 3, 4, 5, 6, 7, 8, 9, 10, 11, 12, 13, 14, 15, 16, 17, 18, 19, 20, 21, 22, 23, 24, 25, 26, 27, 28, 29, 30, 31, 32, 33, 34, 35, 36, 37, 0] rfl rfl (by decide) (by decide) (by decide) (by decide) rfl (Nat.le_of_ble_eq_true rfl) dL_ice_5 rfl [] ⟨0, 10, 13, 13⟩ [⟨0, 10, 17, 15⟩, ⟨0, 10, 21, 17⟩] (hT.trans rfl) (fun z hz => absurd hz List.not_mem_nil) (by decide) (by decide) (by decide +kernel) (by decide) (fun q => ?_)
  refine z_as C [(4, .ref q), (0, .ref (h 0)), (1, .int v1), (2, .int v2), (3, .ref o)] dL_ice_13 (by decide) rfl ?_
  refine z_ic C dL_ice_15 1 (by decide) ?_
  exact z_iret C hQ dL_ice_16 rfl rfl (by decide) (by decide)
set_option maxHeartbeats 4000000 in
set_option maxRecDepth 100000 in
theorem hL_ice_x2 (l : Launch) (X : zX) (h a b na nf : Nat → Nat) (o : Nat) (gP gT gA gF : zG) (fo : Nat → Int64) (v1 v2 : Int32) {fr lo : Nat} (hM : CXi l yX5_ice wsX5_ice fr lo 1 6 X (IW h a b na nf X gP gT gA gF) (.ref (h 0) :: [.int v1, .int v2]) xIAE) (hR : fr + 1 ≤ 9 ∧ 8 + (3 + 11) + lo ≤ 200) : CE l yL_ice wsL_ice 9 200 1 6 X (HW h a b na nf o X gP gT gA gF fo) [.ref (h 0), .int v1, .int v2, .ref o] 2 (HW h a b na nf o X gP gT gA gF fo) := by
  refine ce_intro (cc := cL_ice) (ret := some .int) (maxL := 5) (hh := [(0, 10, 13, 13), (0, 10, 17, 15), (0, 10, 21, 17)]) (by decide +kernel) rfl (Nat.le_of_ble_eq_true rfl) ?_
  intro p e s m args below meth c A Q C hxw hxs hT hQ
  show Z p l e { frames := 9, cells := 1, slots := 6, locals := 200 } s m args below meth c X A 5 Q 0 0 (HW h a b na nf o X gP gT gA gF fo) [(0, .ref (h 0)), (1, .int v1), (2, .int v2), (3, .ref o)] 0 []
  refine z_aln C dL_ice_0 3 rfl ?_
  refine z_ic C dL_ice_1 0 (by decide) ?_
  refine z_aln C dL_ice_2 0 rfl ?_
  refine z_iln C dL_ice_3 1 rfl ?_
  refine z_iln C dL_ice_4 2 rfl ?_
  refine z_xci (As := [.int v1, .int v2]) (rest := [.int 0, .ref o]) C hxw hxs hM gL_ice_X5_ice rfl ⟨rfl, by decide, by decide, (by decide : (parseMethodDescriptor yX5_ice.desc).map (fun d => d.parameters.length) = some 2)⟩ hR ⟨by decide, by decide⟩ 0 5 rfl rfl [0, 1, 2, 3, 4, 5, 6, 7, 8, 9, 10, 11, 12, 13, 14, 15, 16, 17, 18, 19, 20, 21, 22, 23, 24, 25, 26, 27, 28, 29, 30, 31, 32, 33, 34, 35, 36] [37] [1, 2, 3, 4, 5, 6, 7, 8, 9, 10, 11, 12, 13, 14, 15, 16, 17, 18, 19, 20, 21, 22, 23, 24, 25, 26, 27, 28, 29, 30, 31, 32, 33, 34, 35, 36, 37, 0] rfl rfl (by decide) (by decide) (by decide) (by decide) rfl (Nat.le_of_ble_eq_true rfl) dL_ice_5 rfl [⟨0, 10, 13, 13⟩] ⟨0, 10, 17, 15⟩ [⟨0, 10, 21, 17⟩] (hT.trans rfl) (fun z hz => by
    simp only [List.mem_cons, List.not_mem_nil, or_false] at hz
    rcases hz with rfl
    · exact Or.inr ⟨by decide, xIOB, C.ts _ (by decide +kernel), hxw.2.2.1 (xIAE, xIOB) (by decide)⟩) (by decide) (by decide) (by decide +kernel) (by decide) (fun q => ?_)
  refine z_as C [(4, .ref q), (0, .ref (h 0)), (1, .int v1), (2, .int v2), (3, .ref o)] dL_ice_17 (by decide) rfl ?_
  refine z_ic C dL_ice_19 2 (by decide) ?_
  exact z_iret C hQ dL_ice_20 rfl rfl (by decide) (by decide)
set_option maxHeartbeats 4000000 in
set_option maxRecDepth 100000 in
theorem hL_ice_x3 (l : Launch) (X : zX) (h a b na nf : Nat → Nat) (o : Nat) (gP gT gA gF : zG) (fo : Nat → Int64) (v1 v2 : Int32) {fr lo : Nat} (hM : CXi l yX5_ice wsX5_ice fr lo 1 6 X (IW h a b na nf X gP gT gA gF) (.ref (h 0) :: [.int v1, .int v2]) xISE) (hR : fr + 1 ≤ 9 ∧ 8 + (3 + 11) + lo ≤ 200) : CE l yL_ice wsL_ice 9 200 1 6 X (HW h a b na nf o X gP gT gA gF fo) [.ref (h 0), .int v1, .int v2, .ref o] 3 (HW h a b na nf o X gP gT gA gF fo) := by
  refine ce_intro (cc := cL_ice) (ret := some .int) (maxL := 5) (hh := [(0, 10, 13, 13), (0, 10, 17, 15), (0, 10, 21, 17)]) (by decide +kernel) rfl (Nat.le_of_ble_eq_true rfl) ?_
  intro p e s m args below meth c A Q C hxw hxs hT hQ
  show Z p l e { frames := 9, cells := 1, slots := 6, locals := 200 } s m args below meth c X A 5 Q 0 0 (HW h a b na nf o X gP gT gA gF fo) [(0, .ref (h 0)), (1, .int v1), (2, .int v2), (3, .ref o)] 0 []
  refine z_aln C dL_ice_0 3 rfl ?_
  refine z_ic C dL_ice_1 0 (by decide) ?_
  refine z_aln C dL_ice_2 0 rfl ?_
  refine z_iln C dL_ice_3 1 rfl ?_
  refine z_iln C dL_ice_4 2 rfl ?_
  refine z_xci (As := [.int v1, .int v2]) (rest := [.int 0, .ref o]) C hxw hxs hM gL_ice_X5_ice rfl ⟨rfl, by decide, by decide, (by decide : (parseMethodDescriptor yX5_ice.desc).map (fun d => d.parameters.length) = some 2)⟩ hR ⟨by decide, by decide⟩ 0 5 rfl rfl [0, 1, 2, 3, 4, 5, 6, 7, 8, 9, 10, 11, 12, 13, 14, 15, 16, 17, 18, 19, 20, 21, 22, 23, 24, 25, 26, 27, 28, 29, 30, 31, 32, 33, 34, 35, 36] [37] [1, 2, 3, 4, 5, 6, 7, 8, 9, 10, 11, 12, 13, 14, 15, 16, 17, 18, 19, 20, 21, 22, 23, 24, 25, 26, 27, 28, 29, 30, 31, 32, 33, 34, 35, 36, 37, 0] rfl rfl (by decide) (by decide) (by decide) (by decide) rfl (Nat.le_of_ble_eq_true rfl) dL_ice_5 rfl [⟨0, 10, 13, 13⟩, ⟨0, 10, 17, 15⟩] ⟨0, 10, 21, 17⟩ [] (hT.trans rfl) (fun z hz => by
    simp only [List.mem_cons, List.not_mem_nil, or_false] at hz
    rcases hz with rfl | rfl
    · exact Or.inr ⟨by decide, xIOB, C.ts _ (by decide +kernel), hxw.2.2.1 (xISE, xIOB) (by decide)⟩
    · exact Or.inr ⟨by decide, xIAE, C.ts _ (by decide +kernel), hxw.2.2.1 (xISE, xIAE) (by decide)⟩) (by decide) (by decide) (by decide +kernel) (by decide) (fun q => ?_)
  refine z_as C [(4, .ref q), (0, .ref (h 0)), (1, .int v1), (2, .int v2), (3, .ref o)] dL_ice_21 (by decide) rfl ?_
  refine z_ic C dL_ice_23 3 (by decide) ?_
  exact z_iret C hQ dL_ice_24 rfl rfl (by decide) (by decide)
set_option maxHeartbeats 4000000 in
set_option maxRecDepth 100000 in
theorem hL_pass_ok (l : Launch) (X : zX) (h a b na nf : Nat → Nat) (o : Nat) (gP gT gA gF : zG) (fo : Nat → Int64) (v1 : Int32) (gP1 gT1 gA1 gF1 : zG) (r : Int32) {fr lo : Nat} (hM : CI l yX5_pass wsX5_pass fr lo 0 0 X (IW h a b na nf X gP gT gA gF) (.ref (h 0) :: [.int v1]) r (IW h a b na nf X gP1 gT1 gA1 gF1)) (hR : fr + 1 ≤ 9 ∧ 8 + (3 + 11) + lo ≤ 200) : CE l yL_pass wsL_pass 9 200 1 6 X (HW h a b na nf o X gP gT gA gF fo) [.ref (h 0), .int v1, .ref o] 0 (HW h a b na nf o X gP1 gT1 gA1 gF1 (vp_updL fo 0 r.toInt64)) := by
  refine ce_intro (cc := cL_pass) (ret := some .int) (maxL := 4) (hh := [(0, 9, 12, 15), (0, 9, 15, 17)]) (by decide +kernel) rfl (Nat.le_of_ble_eq_true rfl) ?_
  intro p e s m args below meth c A Q C hxw hxs hT hQ
  show Z p l e { frames := 9, cells := 1, slots := 6, locals := 200 } s m args below meth c X A 4 Q 0 0 (HW h a b na nf o X gP gT gA gF fo) [(0, .ref (h 0)), (1, .int v1), (2, .ref o)] 0 []
  refine z_aln C dL_pass_0 2 rfl ?_
  refine z_ic C dL_pass_1 0 (by decide) ?_
  refine z_aln C dL_pass_2 0 rfl ?_
  refine z_iln C dL_pass_3 1 rfl ?_
  refine z_cVi (As := [.int v1]) (rest := [.int 0, .ref o]) C hM gL_pass_X5_pass rfl ⟨rfl, by decide, by decide, (by decide : (parseMethodDescriptor yX5_pass.desc).map (fun d => d.parameters.length) = some 1)⟩ hR ⟨by decide, by decide⟩ 0 5 rfl rfl [0, 1, 2, 3, 4, 5, 6, 7, 8, 9, 10, 11, 12, 13, 14, 15, 16, 17, 18, 19, 20, 21, 22, 23, 24, 25, 26, 27, 28, 29, 30, 31, 32, 33, 34, 35, 36] [37] [1, 2, 3, 4, 5, 6, 7, 8, 9, 10, 11, 12, 13, 14, 15, 16, 17, 18, 19, 20, 21, 22, 23, 24, 25, 26, 27, 28, 29, 30, 31, 32, 33, 34, 35, 36, 37, 0] rfl rfl (by decide) (by decide) (by decide) (by decide) (HW h a b na nf o X gP1 gT1 gA1 gF1 fo) rfl (Nat.le_of_ble_eq_true rfl) dL_pass_4 rfl ?_
  refine z_i2l C dL_pass_7 r.toInt64 rfl ?_
  refine z_last C 37 0 (HW h a b na nf o X gP1 gT1 gA1 gF1 (vp_updL fo 0 r.toInt64)) dL_pass_8 rfl (by decide) (by decide) (by decide) rfl ?_
  refine z_go C 18 dL_pass_9 (by decide) ?_
  refine z_ic C dL_pass_18 0 (by decide) ?_
  exact z_iret C hQ dL_pass_19 rfl rfl (by decide) (by decide)
set_option maxHeartbeats 4000000 in
set_option maxRecDepth 100000 in
theorem hL_pass_x1 (l : Launch) (X : zX) (h a b na nf : Nat → Nat) (o : Nat) (gP gT gA gF : zG) (fo : Nat → Int64) (v1 : Int32) {fr lo : Nat} (hM : CXi l yX5_pass wsX5_pass fr lo 1 6 X (IW h a b na nf X gP gT gA gF) (.ref (h 0) :: [.int v1]) xIAE) (hR : fr + 1 ≤ 9 ∧ 8 + (3 + 11) + lo ≤ 200) : CE l yL_pass wsL_pass 9 200 1 6 X (HW h a b na nf o X gP gT gA gF fo) [.ref (h 0), .int v1, .ref o] 1 (HW h a b na nf o X gP gT gA gF fo) := by
  refine ce_intro (cc := cL_pass) (ret := some .int) (maxL := 4) (hh := [(0, 9, 12, 15), (0, 9, 15, 17)]) (by decide +kernel) rfl (Nat.le_of_ble_eq_true rfl) ?_
  intro p e s m args below meth c A Q C hxw hxs hT hQ
  show Z p l e { frames := 9, cells := 1, slots := 6, locals := 200 } s m args below meth c X A 4 Q 0 0 (HW h a b na nf o X gP gT gA gF fo) [(0, .ref (h 0)), (1, .int v1), (2, .ref o)] 0 []
  refine z_aln C dL_pass_0 2 rfl ?_
  refine z_ic C dL_pass_1 0 (by decide) ?_
  refine z_aln C dL_pass_2 0 rfl ?_
  refine z_iln C dL_pass_3 1 rfl ?_
  refine z_xci (As := [.int v1]) (rest := [.int 0, .ref o]) C hxw hxs hM gL_pass_X5_pass rfl ⟨rfl, by decide, by decide, (by decide : (parseMethodDescriptor yX5_pass.desc).map (fun d => d.parameters.length) = some 1)⟩ hR ⟨by decide, by decide⟩ 0 5 rfl rfl [0, 1, 2, 3, 4, 5, 6, 7, 8, 9, 10, 11, 12, 13, 14, 15, 16, 17, 18, 19, 20, 21, 22, 23, 24, 25, 26, 27, 28, 29, 30, 31, 32, 33, 34, 35, 36] [37] [1, 2, 3, 4, 5, 6, 7, 8, 9, 10, 11, 12, 13, 14, 15, 16, 17, 18, 19, 20, 21, 22, 23, 24, 25, 26, 27, 28, 29, 30, 31, 32, 33, 34, 35, 36, 37, 0] rfl rfl (by decide) (by decide) (by decide) (by decide) rfl (Nat.le_of_ble_eq_true rfl) dL_pass_4 rfl [] ⟨0, 9, 12, 15⟩ [⟨0, 9, 15, 17⟩] (hT.trans rfl) (fun z hz => absurd hz List.not_mem_nil) (by decide) (by decide) (by decide +kernel) (by decide) (fun q => ?_)
  refine z_asn C 3 [(3, .ref q), (0, .ref (h 0)), (1, .int v1), (2, .ref o)] dL_pass_12 rfl (by decide) rfl ?_
  refine z_ic C dL_pass_13 1 (by decide) ?_
  exact z_iret C hQ dL_pass_14 rfl rfl (by decide) (by decide)
set_option maxHeartbeats 4000000 in
set_option maxRecDepth 100000 in
theorem hL_pass_x2 (l : Launch) (X : zX) (h a b na nf : Nat → Nat) (o : Nat) (gP gT gA gF : zG) (fo : Nat → Int64) (v1 : Int32) {fr lo : Nat} (hM : CXi l yX5_pass wsX5_pass fr lo 1 6 X (IW h a b na nf X gP gT gA gF) (.ref (h 0) :: [.int v1]) xISE) (hR : fr + 1 ≤ 9 ∧ 8 + (3 + 11) + lo ≤ 200) : CE l yL_pass wsL_pass 9 200 1 6 X (HW h a b na nf o X gP gT gA gF fo) [.ref (h 0), .int v1, .ref o] 2 (HW h a b na nf o X gP gT gA gF fo) := by
  refine ce_intro (cc := cL_pass) (ret := some .int) (maxL := 4) (hh := [(0, 9, 12, 15), (0, 9, 15, 17)]) (by decide +kernel) rfl (Nat.le_of_ble_eq_true rfl) ?_
  intro p e s m args below meth c A Q C hxw hxs hT hQ
  show Z p l e { frames := 9, cells := 1, slots := 6, locals := 200 } s m args below meth c X A 4 Q 0 0 (HW h a b na nf o X gP gT gA gF fo) [(0, .ref (h 0)), (1, .int v1), (2, .ref o)] 0 []
  refine z_aln C dL_pass_0 2 rfl ?_
  refine z_ic C dL_pass_1 0 (by decide) ?_
  refine z_aln C dL_pass_2 0 rfl ?_
  refine z_iln C dL_pass_3 1 rfl ?_
  refine z_xci (As := [.int v1]) (rest := [.int 0, .ref o]) C hxw hxs hM gL_pass_X5_pass rfl ⟨rfl, by decide, by decide, (by decide : (parseMethodDescriptor yX5_pass.desc).map (fun d => d.parameters.length) = some 1)⟩ hR ⟨by decide, by decide⟩ 0 5 rfl rfl [0, 1, 2, 3, 4, 5, 6, 7, 8, 9, 10, 11, 12, 13, 14, 15, 16, 17, 18, 19, 20, 21, 22, 23, 24, 25, 26, 27, 28, 29, 30, 31, 32, 33, 34, 35, 36] [37] [1, 2, 3, 4, 5, 6, 7, 8, 9, 10, 11, 12, 13, 14, 15, 16, 17, 18, 19, 20, 21, 22, 23, 24, 25, 26, 27, 28, 29, 30, 31, 32, 33, 34, 35, 36, 37, 0] rfl rfl (by decide) (by decide) (by decide) (by decide) rfl (Nat.le_of_ble_eq_true rfl) dL_pass_4 rfl [⟨0, 9, 12, 15⟩] ⟨0, 9, 15, 17⟩ [] (hT.trans rfl) (fun z hz => by
    simp only [List.mem_cons, List.not_mem_nil, or_false] at hz
    rcases hz with rfl
    · exact Or.inr ⟨by decide, xIAE, C.ts _ (by decide +kernel), hxw.2.2.1 (xISE, xIAE) (by decide)⟩) (by decide) (by decide) (by decide +kernel) (by decide) (fun q => ?_)
  refine z_asn C 3 [(3, .ref q), (0, .ref (h 0)), (1, .int v1), (2, .ref o)] dL_pass_15 rfl (by decide) rfl ?_
  refine z_ic C dL_pass_16 2 (by decide) ?_
  exact z_iret C hQ dL_pass_17 rfl rfl (by decide) (by decide)
set_option maxHeartbeats 4000000 in
set_option maxRecDepth 100000 in
theorem hL_cellIs_ok (l : Launch) (X : zX) (h a b na nf : Nat → Nat) (o : Nat) (gP gT gA gF : zG) (fo : Nat → Int64) (v1 v2 : Int32) (gP1 gT1 gA1 gF1 : zG) (r : Int32) {fr lo : Nat} (hM : CI l yX5_cellIs wsX5_cellIs fr lo 0 0 X (IW h a b na nf X gP gT gA gF) (.ref (h 0) :: [.int v1, .int v2]) r (IW h a b na nf X gP1 gT1 gA1 gF1)) (hR : fr + 1 ≤ 9 ∧ 8 + (3 + 11) + lo ≤ 200) : CE l yL_cellIs wsL_cellIs 9 200 1 6 X (HW h a b na nf o X gP gT gA gF fo) [.ref (h 0), .int v1, .int v2, .ref o] 0 (HW h a b na nf o X gP1 gT1 gA1 gF1 (vp_updL fo 0 r.toInt64)) := by
  refine ce_intro (cc := cL_cellIs) (ret := some .int) (maxL := 5) (hh := [(0, 10, 13, 13), (0, 10, 17, 15)]) (by decide +kernel) rfl (Nat.le_of_ble_eq_true rfl) ?_
  intro p e s m args below meth c A Q C hxw hxs hT hQ
  show Z p l e { frames := 9, cells := 1, slots := 6, locals := 200 } s m args below meth c X A 5 Q 0 0 (HW h a b na nf o X gP gT gA gF fo) [(0, .ref (h 0)), (1, .int v1), (2, .int v2), (3, .ref o)] 0 []
  refine z_aln C dL_cellIs_0 3 rfl ?_
  refine z_ic C dL_cellIs_1 0 (by decide) ?_
  refine z_aln C dL_cellIs_2 0 rfl ?_
  refine z_iln C dL_cellIs_3 1 rfl ?_
  refine z_iln C dL_cellIs_4 2 rfl ?_
  refine z_cVi (As := [.int v1, .int v2]) (rest := [.int 0, .ref o]) C hM gL_cellIs_X5_cellIs rfl ⟨rfl, by decide, by decide, (by decide : (parseMethodDescriptor yX5_cellIs.desc).map (fun d => d.parameters.length) = some 2)⟩ hR ⟨by decide, by decide⟩ 0 5 rfl rfl [0, 1, 2, 3, 4, 5, 6, 7, 8, 9, 10, 11, 12, 13, 14, 15, 16, 17, 18, 19, 20, 21, 22, 23, 24, 25, 26, 27, 28, 29, 30, 31, 32, 33, 34, 35, 36] [37] [1, 2, 3, 4, 5, 6, 7, 8, 9, 10, 11, 12, 13, 14, 15, 16, 17, 18, 19, 20, 21, 22, 23, 24, 25, 26, 27, 28, 29, 30, 31, 32, 33, 34, 35, 36, 37, 0] rfl rfl (by decide) (by decide) (by decide) (by decide) (HW h a b na nf o X gP1 gT1 gA1 gF1 fo) rfl (Nat.le_of_ble_eq_true rfl) dL_cellIs_5 rfl ?_
  refine z_i2l C dL_cellIs_8 r.toInt64 rfl ?_
  refine z_last C 37 0 (HW h a b na nf o X gP1 gT1 gA1 gF1 (vp_updL fo 0 r.toInt64)) dL_cellIs_9 rfl (by decide) (by decide) (by decide) rfl ?_
  refine z_go C 21 dL_cellIs_10 (by decide) ?_
  refine z_ic C dL_cellIs_21 0 (by decide) ?_
  exact z_iret C hQ dL_cellIs_22 rfl rfl (by decide) (by decide)
set_option maxHeartbeats 4000000 in
set_option maxRecDepth 100000 in
theorem hL_cellIs_x1 (l : Launch) (X : zX) (h a b na nf : Nat → Nat) (o : Nat) (gP gT gA gF : zG) (fo : Nat → Int64) (v1 v2 : Int32) {fr lo : Nat} (hM : CXi l yX5_cellIs wsX5_cellIs fr lo 1 6 X (IW h a b na nf X gP gT gA gF) (.ref (h 0) :: [.int v1, .int v2]) xIOB) (hR : fr + 1 ≤ 9 ∧ 8 + (3 + 11) + lo ≤ 200) : CE l yL_cellIs wsL_cellIs 9 200 1 6 X (HW h a b na nf o X gP gT gA gF fo) [.ref (h 0), .int v1, .int v2, .ref o] 1 (HW h a b na nf o X gP gT gA gF fo) := by
  refine ce_intro (cc := cL_cellIs) (ret := some .int) (maxL := 5) (hh := [(0, 10, 13, 13), (0, 10, 17, 15)]) (by decide +kernel) rfl (Nat.le_of_ble_eq_true rfl) ?_
  intro p e s m args below meth c A Q C hxw hxs hT hQ
  show Z p l e { frames := 9, cells := 1, slots := 6, locals := 200 } s m args below meth c X A 5 Q 0 0 (HW h a b na nf o X gP gT gA gF fo) [(0, .ref (h 0)), (1, .int v1), (2, .int v2), (3, .ref o)] 0 []
  refine z_aln C dL_cellIs_0 3 rfl ?_
  refine z_ic C dL_cellIs_1 0 (by decide) ?_
  refine z_aln C dL_cellIs_2 0 rfl ?_
  refine z_iln C dL_cellIs_3 1 rfl ?_
  refine z_iln C dL_cellIs_4 2 rfl ?_
  refine z_xci (As := [.int v1, .int v2]) (rest := [.int 0, .ref o]) C hxw hxs hM gL_cellIs_X5_cellIs rfl ⟨rfl, by decide, by decide, (by decide : (parseMethodDescriptor yX5_cellIs.desc).map (fun d => d.parameters.length) = some 2)⟩ hR ⟨by decide, by decide⟩ 0 5 rfl rfl [0, 1, 2, 3, 4, 5, 6, 7, 8, 9, 10, 11, 12, 13, 14, 15, 16, 17, 18, 19, 20, 21, 22, 23, 24, 25, 26, 27, 28, 29, 30, 31, 32, 33, 34, 35, 36] [37] [1, 2, 3, 4, 5, 6, 7, 8, 9, 10, 11, 12, 13, 14, 15, 16, 17, 18, 19, 20, 21, 22, 23, 24, 25, 26, 27, 28, 29, 30, 31, 32, 33, 34, 35, 36, 37, 0] rfl rfl (by decide) (by decide) (by decide) (by decide) rfl (Nat.le_of_ble_eq_true rfl) dL_cellIs_5 rfl [] ⟨0, 10, 13, 13⟩ [⟨0, 10, 17, 15⟩] (hT.trans rfl) (fun z hz => absurd hz List.not_mem_nil) (by decide) (by decide) (by decide +kernel) (by decide) (fun q => ?_)
  refine z_as C [(4, .ref q), (0, .ref (h 0)), (1, .int v1), (2, .int v2), (3, .ref o)] dL_cellIs_13 (by decide) rfl ?_
  refine z_ic C dL_cellIs_15 1 (by decide) ?_
  exact z_iret C hQ dL_cellIs_16 rfl rfl (by decide) (by decide)
set_option maxHeartbeats 4000000 in
set_option maxRecDepth 100000 in
theorem hL_cellIs_x2 (l : Launch) (X : zX) (h a b na nf : Nat → Nat) (o : Nat) (gP gT gA gF : zG) (fo : Nat → Int64) (v1 v2 : Int32) {fr lo : Nat} (hM : CXi l yX5_cellIs wsX5_cellIs fr lo 1 6 X (IW h a b na nf X gP gT gA gF) (.ref (h 0) :: [.int v1, .int v2]) xIAE) (hR : fr + 1 ≤ 9 ∧ 8 + (3 + 11) + lo ≤ 200) : CE l yL_cellIs wsL_cellIs 9 200 1 6 X (HW h a b na nf o X gP gT gA gF fo) [.ref (h 0), .int v1, .int v2, .ref o] 2 (HW h a b na nf o X gP gT gA gF fo) := by
  refine ce_intro (cc := cL_cellIs) (ret := some .int) (maxL := 5) (hh := [(0, 10, 13, 13), (0, 10, 17, 15)]) (by decide +kernel) rfl (Nat.le_of_ble_eq_true rfl) ?_
  intro p e s m args below meth c A Q C hxw hxs hT hQ
  show Z p l e { frames := 9, cells := 1, slots := 6, locals := 200 } s m args below meth c X A 5 Q 0 0 (HW h a b na nf o X gP gT gA gF fo) [(0, .ref (h 0)), (1, .int v1), (2, .int v2), (3, .ref o)] 0 []
  refine z_aln C dL_cellIs_0 3 rfl ?_
  refine z_ic C dL_cellIs_1 0 (by decide) ?_
  refine z_aln C dL_cellIs_2 0 rfl ?_
  refine z_iln C dL_cellIs_3 1 rfl ?_
  refine z_iln C dL_cellIs_4 2 rfl ?_
  refine z_xci (As := [.int v1, .int v2]) (rest := [.int 0, .ref o]) C hxw hxs hM gL_cellIs_X5_cellIs rfl ⟨rfl, by decide, by decide, (by decide : (parseMethodDescriptor yX5_cellIs.desc).map (fun d => d.parameters.length) = some 2)⟩ hR ⟨by decide, by decide⟩ 0 5 rfl rfl [0, 1, 2, 3, 4, 5, 6, 7, 8, 9, 10, 11, 12, 13, 14, 15, 16, 17, 18, 19, 20, 21, 22, 23, 24, 25, 26, 27, 28, 29, 30, 31, 32, 33, 34, 35, 36] [37] [1, 2, 3, 4, 5, 6, 7, 8, 9, 10, 11, 12, 13, 14, 15, 16, 17, 18, 19, 20, 21, 22, 23, 24, 25, 26, 27, 28, 29, 30, 31, 32, 33, 34, 35, 36, 37, 0] rfl rfl (by decide) (by decide) (by decide) (by decide) rfl (Nat.le_of_ble_eq_true rfl) dL_cellIs_5 rfl [⟨0, 10, 13, 13⟩] ⟨0, 10, 17, 15⟩ [] (hT.trans rfl) (fun z hz => by
    simp only [List.mem_cons, List.not_mem_nil, or_false] at hz
    rcases hz with rfl
    · exact Or.inr ⟨by decide, xIOB, C.ts _ (by decide +kernel), hxw.2.2.1 (xIAE, xIOB) (by decide)⟩) (by decide) (by decide) (by decide +kernel) (by decide) (fun q => ?_)
  refine z_as C [(4, .ref q), (0, .ref (h 0)), (1, .int v1), (2, .int v2), (3, .ref o)] dL_cellIs_17 (by decide) rfl ?_
  refine z_ic C dL_cellIs_19 2 (by decide) ?_
  exact z_iret C hQ dL_cellIs_20 rfl rfl (by decide) (by decide)
set_option maxHeartbeats 4000000 in
set_option maxRecDepth 100000 in
theorem hL_layer_ok (l : Launch) (X : zX) (h a b na nf : Nat → Nat) (o : Nat) (gP gT gA gF : zG) (fo : Nat → Int64) (v1 v2 : Int32) (gP1 gT1 gA1 gF1 : zG) (r : Int32) {fr lo : Nat} (hM : CI l yX5_layer wsX5_layer fr lo 0 0 X (IW h a b na nf X gP gT gA gF) (.ref (h 0) :: [.int v1, .int v2]) r (IW h a b na nf X gP1 gT1 gA1 gF1)) (hR : fr + 1 ≤ 9 ∧ 8 + (3 + 11) + lo ≤ 200) : CE l yL_layer wsL_layer 9 200 1 6 X (HW h a b na nf o X gP gT gA gF fo) [.ref (h 0), .int v1, .int v2, .ref o] 0 (HW h a b na nf o X gP1 gT1 gA1 gF1 (vp_updL fo 0 r.toInt64)) := by
  refine ce_intro (cc := cL_layer) (ret := some .int) (maxL := 5) (hh := [(0, 10, 13, 13), (0, 10, 17, 15)]) (by decide +kernel) rfl (Nat.le_of_ble_eq_true rfl) ?_
  intro p e s m args below meth c A Q C hxw hxs hT hQ
  show Z p l e { frames := 9, cells := 1, slots := 6, locals := 200 } s m args below meth c X A 5 Q 0 0 (HW h a b na nf o X gP gT gA gF fo) [(0, .ref (h 0)), (1, .int v1), (2, .int v2), (3, .ref o)] 0 []
  refine z_aln C dL_layer_0 3 rfl ?_
  refine z_ic C dL_layer_1 0 (by decide) ?_
  refine z_aln C dL_layer_2 0 rfl ?_
  refine z_iln C dL_layer_3 1 rfl ?_
  refine z_iln C dL_layer_4 2 rfl ?_
  refine z_cVi (As := [.int v1, .int v2]) (rest := [.int 0, .ref o]) C hM gL_layer_X5_layer rfl ⟨rfl, by decide, by decide, (by decide : (parseMethodDescriptor yX5_layer.desc).map (fun d => d.parameters.length) = some 2)⟩ hR ⟨by decide, by decide⟩ 0 5 rfl rfl [0, 1, 2, 3, 4, 5, 6, 7, 8, 9, 10, 11, 12, 13, 14, 15, 16, 17, 18, 19, 20, 21, 22, 23, 24, 25, 26, 27, 28, 29, 30, 31, 32, 33, 34, 35, 36] [37] [1, 2, 3, 4, 5, 6, 7, 8, 9, 10, 11, 12, 13, 14, 15, 16, 17, 18, 19, 20, 21, 22, 23, 24, 25, 26, 27, 28, 29, 30, 31, 32, 33, 34, 35, 36, 37, 0] rfl rfl (by decide) (by decide) (by decide) (by decide) (HW h a b na nf o X gP1 gT1 gA1 gF1 fo) rfl (Nat.le_of_ble_eq_true rfl) dL_layer_5 rfl ?_
  refine z_i2l C dL_layer_8 r.toInt64 rfl ?_
  refine z_last C 37 0 (HW h a b na nf o X gP1 gT1 gA1 gF1 (vp_updL fo 0 r.toInt64)) dL_layer_9 rfl (by decide) (by decide) (by decide) rfl ?_
  refine z_go C 21 dL_layer_10 (by decide) ?_
  refine z_ic C dL_layer_21 0 (by decide) ?_
  exact z_iret C hQ dL_layer_22 rfl rfl (by decide) (by decide)
set_option maxHeartbeats 4000000 in
set_option maxRecDepth 100000 in
theorem hL_layer_x1 (l : Launch) (X : zX) (h a b na nf : Nat → Nat) (o : Nat) (gP gT gA gF : zG) (fo : Nat → Int64) (v1 v2 : Int32) {fr lo : Nat} (hM : CXi l yX5_layer wsX5_layer fr lo 1 6 X (IW h a b na nf X gP gT gA gF) (.ref (h 0) :: [.int v1, .int v2]) xIOB) (hR : fr + 1 ≤ 9 ∧ 8 + (3 + 11) + lo ≤ 200) : CE l yL_layer wsL_layer 9 200 1 6 X (HW h a b na nf o X gP gT gA gF fo) [.ref (h 0), .int v1, .int v2, .ref o] 1 (HW h a b na nf o X gP gT gA gF fo) := by
  refine ce_intro (cc := cL_layer) (ret := some .int) (maxL := 5) (hh := [(0, 10, 13, 13), (0, 10, 17, 15)]) (by decide +kernel) rfl (Nat.le_of_ble_eq_true rfl) ?_
  intro p e s m args below meth c A Q C hxw hxs hT hQ
  show Z p l e { frames := 9, cells := 1, slots := 6, locals := 200 } s m args below meth c X A 5 Q 0 0 (HW h a b na nf o X gP gT gA gF fo) [(0, .ref (h 0)), (1, .int v1), (2, .int v2), (3, .ref o)] 0 []
  refine z_aln C dL_layer_0 3 rfl ?_
  refine z_ic C dL_layer_1 0 (by decide) ?_
  refine z_aln C dL_layer_2 0 rfl ?_
  refine z_iln C dL_layer_3 1 rfl ?_
  refine z_iln C dL_layer_4 2 rfl ?_
  refine z_xci (As := [.int v1, .int v2]) (rest := [.int 0, .ref o]) C hxw hxs hM gL_layer_X5_layer rfl ⟨rfl, by decide, by decide, (by decide : (parseMethodDescriptor yX5_layer.desc).map (fun d => d.parameters.length) = some 2)⟩ hR ⟨by decide, by decide⟩ 0 5 rfl rfl [0, 1, 2, 3, 4, 5, 6, 7, 8, 9, 10, 11, 12, 13, 14, 15, 16, 17, 18, 19, 20, 21, 22, 23, 24, 25, 26, 27, 28, 29, 30, 31, 32, 33, 34, 35, 36] [37] [1, 2, 3, 4, 5, 6, 7, 8, 9, 10, 11, 12, 13, 14, 15, 16, 17, 18, 19, 20, 21, 22, 23, 24, 25, 26, 27, 28, 29, 30, 31, 32, 33, 34, 35, 36, 37, 0] rfl rfl (by decide) (by decide) (by decide) (by decide) rfl (Nat.le_of_ble_eq_true rfl) dL_layer_5 rfl [] ⟨0, 10, 13, 13⟩ [⟨0, 10, 17, 15⟩] (hT.trans rfl) (fun z hz => absurd hz List.not_mem_nil) (by decide) (by decide) (by decide +kernel) (by decide) (fun q => ?_)
  refine z_as C [(4, .ref q), (0, .ref (h 0)), (1, .int v1), (2, .int v2), (3, .ref o)] dL_layer_13 (by decide) rfl ?_
  refine z_ic C dL_layer_15 1 (by decide) ?_
  exact z_iret C hQ dL_layer_16 rfl rfl (by decide) (by decide)
set_option maxHeartbeats 4000000 in
set_option maxRecDepth 100000 in
theorem hL_layer_x2 (l : Launch) (X : zX) (h a b na nf : Nat → Nat) (o : Nat) (gP gT gA gF : zG) (fo : Nat → Int64) (v1 v2 : Int32) {fr lo : Nat} (hM : CXi l yX5_layer wsX5_layer fr lo 1 6 X (IW h a b na nf X gP gT gA gF) (.ref (h 0) :: [.int v1, .int v2]) xIAE) (hR : fr + 1 ≤ 9 ∧ 8 + (3 + 11) + lo ≤ 200) : CE l yL_layer wsL_layer 9 200 1 6 X (HW h a b na nf o X gP gT gA gF fo) [.ref (h 0), .int v1, .int v2, .ref o] 2 (HW h a b na nf o X gP gT gA gF fo) := by
  refine ce_intro (cc := cL_layer) (ret := some .int) (maxL := 5) (hh := [(0, 10, 13, 13), (0, 10, 17, 15)]) (by decide +kernel) rfl (Nat.le_of_ble_eq_true rfl) ?_
  intro p e s m args below meth c A Q C hxw hxs hT hQ
  show Z p l e { frames := 9, cells := 1, slots := 6, locals := 200 } s m args below meth c X A 5 Q 0 0 (HW h a b na nf o X gP gT gA gF fo) [(0, .ref (h 0)), (1, .int v1), (2, .int v2), (3, .ref o)] 0 []
  refine z_aln C dL_layer_0 3 rfl ?_
  refine z_ic C dL_layer_1 0 (by decide) ?_
  refine z_aln C dL_layer_2 0 rfl ?_
  refine z_iln C dL_layer_3 1 rfl ?_
  refine z_iln C dL_layer_4 2 rfl ?_
  refine z_xci (As := [.int v1, .int v2]) (rest := [.int 0, .ref o]) C hxw hxs hM gL_layer_X5_layer rfl ⟨rfl, by decide, by decide, (by decide : (parseMethodDescriptor yX5_layer.desc).map (fun d => d.parameters.length) = some 2)⟩ hR ⟨by decide, by decide⟩ 0 5 rfl rfl [0, 1, 2, 3, 4, 5, 6, 7, 8, 9, 10, 11, 12, 13, 14, 15, 16, 17, 18, 19, 20, 21, 22, 23, 24, 25, 26, 27, 28, 29, 30, 31, 32, 33, 34, 35, 36] [37] [1, 2, 3, 4, 5, 6, 7, 8, 9, 10, 11, 12, 13, 14, 15, 16, 17, 18, 19, 20, 21, 22, 23, 24, 25, 26, 27, 28, 29, 30, 31, 32, 33, 34, 35, 36, 37, 0] rfl rfl (by decide) (by decide) (by decide) (by decide) rfl (Nat.le_of_ble_eq_true rfl) dL_layer_5 rfl [⟨0, 10, 13, 13⟩] ⟨0, 10, 17, 15⟩ [] (hT.trans rfl) (fun z hz => by
    simp only [List.mem_cons, List.not_mem_nil, or_false] at hz
    rcases hz with rfl
    · exact Or.inr ⟨by decide, xIOB, C.ts _ (by decide +kernel), hxw.2.2.1 (xIAE, xIOB) (by decide)⟩) (by decide) (by decide) (by decide +kernel) (by decide) (fun q => ?_)
  refine z_as C [(4, .ref q), (0, .ref (h 0)), (1, .int v1), (2, .int v2), (3, .ref o)] dL_layer_17 (by decide) rfl ?_
  refine z_ic C dL_layer_19 2 (by decide) ?_
  exact z_iret C hQ dL_layer_20 rfl rfl (by decide) (by decide)
set_option maxHeartbeats 4000000 in
set_option maxRecDepth 100000 in
theorem hL_yearAt_ok (l : Launch) (X : zX) (h a b na nf : Nat → Nat) (o : Nat) (gP gT gA gF : zG) (fo : Nat → Int64) (v1 v2 : Int32) (gP1 gT1 gA1 gF1 : zG) (r : Int32) {fr lo : Nat} (hM : CI l yX5_yearAt wsX5_yearAt fr lo 0 0 X (IW h a b na nf X gP gT gA gF) (.ref (h 0) :: [.int v1, .int v2]) r (IW h a b na nf X gP1 gT1 gA1 gF1)) (hR : fr + 1 ≤ 9 ∧ 8 + (3 + 11) + lo ≤ 200) : CE l yL_yearAt wsL_yearAt 9 200 1 6 X (HW h a b na nf o X gP gT gA gF fo) [.ref (h 0), .int v1, .int v2, .ref o] 0 (HW h a b na nf o X gP1 gT1 gA1 gF1 (vp_updL fo 0 r.toInt64)) := by
  refine ce_intro (cc := cL_yearAt) (ret := some .int) (maxL := 5) (hh := [(0, 10, 13, 13), (0, 10, 17, 15)]) (by decide +kernel) rfl (Nat.le_of_ble_eq_true rfl) ?_
  intro p e s m args below meth c A Q C hxw hxs hT hQ
  show Z p l e { frames := 9, cells := 1, slots := 6, locals := 200 } s m args below meth c X A 5 Q 0 0 (HW h a b na nf o X gP gT gA gF fo) [(0, .ref (h 0)), (1, .int v1), (2, .int v2), (3, .ref o)] 0 []
  refine z_aln C dL_yearAt_0 3 rfl ?_
  refine z_ic C dL_yearAt_1 0 (by decide) ?_
  refine z_aln C dL_yearAt_2 0 rfl ?_
  refine z_iln C dL_yearAt_3 1 rfl ?_
  refine z_iln C dL_yearAt_4 2 rfl ?_
  refine z_cVi (As := [.int v1, .int v2]) (rest := [.int 0, .ref o]) C hM gL_yearAt_X5_yearAt rfl ⟨rfl, by decide, by decide, (by decide : (parseMethodDescriptor yX5_yearAt.desc).map (fun d => d.parameters.length) = some 2)⟩ hR ⟨by decide, by decide⟩ 0 5 rfl rfl [0, 1, 2, 3, 4, 5, 6, 7, 8, 9, 10, 11, 12, 13, 14, 15, 16, 17, 18, 19, 20, 21, 22, 23, 24, 25, 26, 27, 28, 29, 30, 31, 32, 33, 34, 35, 36] [37] [1, 2, 3, 4, 5, 6, 7, 8, 9, 10, 11, 12, 13, 14, 15, 16, 17, 18, 19, 20, 21, 22, 23, 24, 25, 26, 27, 28, 29, 30, 31, 32, 33, 34, 35, 36, 37, 0] rfl rfl (by decide) (by decide) (by decide) (by decide) (HW h a b na nf o X gP1 gT1 gA1 gF1 fo) rfl (Nat.le_of_ble_eq_true rfl) dL_yearAt_5 rfl ?_
  refine z_i2l C dL_yearAt_8 r.toInt64 rfl ?_
  refine z_last C 37 0 (HW h a b na nf o X gP1 gT1 gA1 gF1 (vp_updL fo 0 r.toInt64)) dL_yearAt_9 rfl (by decide) (by decide) (by decide) rfl ?_
  refine z_go C 21 dL_yearAt_10 (by decide) ?_
  refine z_ic C dL_yearAt_21 0 (by decide) ?_
  exact z_iret C hQ dL_yearAt_22 rfl rfl (by decide) (by decide)
set_option maxHeartbeats 4000000 in
set_option maxRecDepth 100000 in
theorem hL_yearAt_x1 (l : Launch) (X : zX) (h a b na nf : Nat → Nat) (o : Nat) (gP gT gA gF : zG) (fo : Nat → Int64) (v1 v2 : Int32) {fr lo : Nat} (hM : CXi l yX5_yearAt wsX5_yearAt fr lo 1 6 X (IW h a b na nf X gP gT gA gF) (.ref (h 0) :: [.int v1, .int v2]) xIOB) (hR : fr + 1 ≤ 9 ∧ 8 + (3 + 11) + lo ≤ 200) : CE l yL_yearAt wsL_yearAt 9 200 1 6 X (HW h a b na nf o X gP gT gA gF fo) [.ref (h 0), .int v1, .int v2, .ref o] 1 (HW h a b na nf o X gP gT gA gF fo) := by
  refine ce_intro (cc := cL_yearAt) (ret := some .int) (maxL := 5) (hh := [(0, 10, 13, 13), (0, 10, 17, 15)]) (by decide +kernel) rfl (Nat.le_of_ble_eq_true rfl) ?_
  intro p e s m args below meth c A Q C hxw hxs hT hQ
  show Z p l e { frames := 9, cells := 1, slots := 6, locals := 200 } s m args below meth c X A 5 Q 0 0 (HW h a b na nf o X gP gT gA gF fo) [(0, .ref (h 0)), (1, .int v1), (2, .int v2), (3, .ref o)] 0 []
  refine z_aln C dL_yearAt_0 3 rfl ?_
  refine z_ic C dL_yearAt_1 0 (by decide) ?_
  refine z_aln C dL_yearAt_2 0 rfl ?_
  refine z_iln C dL_yearAt_3 1 rfl ?_
  refine z_iln C dL_yearAt_4 2 rfl ?_
  refine z_xci (As := [.int v1, .int v2]) (rest := [.int 0, .ref o]) C hxw hxs hM gL_yearAt_X5_yearAt rfl ⟨rfl, by decide, by decide, (by decide : (parseMethodDescriptor yX5_yearAt.desc).map (fun d => d.parameters.length) = some 2)⟩ hR ⟨by decide, by decide⟩ 0 5 rfl rfl [0, 1, 2, 3, 4, 5, 6, 7, 8, 9, 10, 11, 12, 13, 14, 15, 16, 17, 18, 19, 20, 21, 22, 23, 24, 25, 26, 27, 28, 29, 30, 31, 32, 33, 34, 35, 36] [37] [1, 2, 3, 4, 5, 6, 7, 8, 9, 10, 11, 12, 13, 14, 15, 16, 17, 18, 19, 20, 21, 22, 23, 24, 25, 26, 27, 28, 29, 30, 31, 32, 33, 34, 35, 36, 37, 0] rfl rfl (by decide) (by decide) (by decide) (by decide) rfl (Nat.le_of_ble_eq_true rfl) dL_yearAt_5 rfl [] ⟨0, 10, 13, 13⟩ [⟨0, 10, 17, 15⟩] (hT.trans rfl) (fun z hz => absurd hz List.not_mem_nil) (by decide) (by decide) (by decide +kernel) (by decide) (fun q => ?_)
  refine z_as C [(4, .ref q), (0, .ref (h 0)), (1, .int v1), (2, .int v2), (3, .ref o)] dL_yearAt_13 (by decide) rfl ?_
  refine z_ic C dL_yearAt_15 1 (by decide) ?_
  exact z_iret C hQ dL_yearAt_16 rfl rfl (by decide) (by decide)
set_option maxHeartbeats 4000000 in
set_option maxRecDepth 100000 in
theorem hL_yearAt_x2 (l : Launch) (X : zX) (h a b na nf : Nat → Nat) (o : Nat) (gP gT gA gF : zG) (fo : Nat → Int64) (v1 v2 : Int32) {fr lo : Nat} (hM : CXi l yX5_yearAt wsX5_yearAt fr lo 1 6 X (IW h a b na nf X gP gT gA gF) (.ref (h 0) :: [.int v1, .int v2]) xIAE) (hR : fr + 1 ≤ 9 ∧ 8 + (3 + 11) + lo ≤ 200) : CE l yL_yearAt wsL_yearAt 9 200 1 6 X (HW h a b na nf o X gP gT gA gF fo) [.ref (h 0), .int v1, .int v2, .ref o] 2 (HW h a b na nf o X gP gT gA gF fo) := by
  refine ce_intro (cc := cL_yearAt) (ret := some .int) (maxL := 5) (hh := [(0, 10, 13, 13), (0, 10, 17, 15)]) (by decide +kernel) rfl (Nat.le_of_ble_eq_true rfl) ?_
  intro p e s m args below meth c A Q C hxw hxs hT hQ
  show Z p l e { frames := 9, cells := 1, slots := 6, locals := 200 } s m args below meth c X A 5 Q 0 0 (HW h a b na nf o X gP gT gA gF fo) [(0, .ref (h 0)), (1, .int v1), (2, .int v2), (3, .ref o)] 0 []
  refine z_aln C dL_yearAt_0 3 rfl ?_
  refine z_ic C dL_yearAt_1 0 (by decide) ?_
  refine z_aln C dL_yearAt_2 0 rfl ?_
  refine z_iln C dL_yearAt_3 1 rfl ?_
  refine z_iln C dL_yearAt_4 2 rfl ?_
  refine z_xci (As := [.int v1, .int v2]) (rest := [.int 0, .ref o]) C hxw hxs hM gL_yearAt_X5_yearAt rfl ⟨rfl, by decide, by decide, (by decide : (parseMethodDescriptor yX5_yearAt.desc).map (fun d => d.parameters.length) = some 2)⟩ hR ⟨by decide, by decide⟩ 0 5 rfl rfl [0, 1, 2, 3, 4, 5, 6, 7, 8, 9, 10, 11, 12, 13, 14, 15, 16, 17, 18, 19, 20, 21, 22, 23, 24, 25, 26, 27, 28, 29, 30, 31, 32, 33, 34, 35, 36] [37] [1, 2, 3, 4, 5, 6, 7, 8, 9, 10, 11, 12, 13, 14, 15, 16, 17, 18, 19, 20, 21, 22, 23, 24, 25, 26, 27, 28, 29, 30, 31, 32, 33, 34, 35, 36, 37, 0] rfl rfl (by decide) (by decide) (by decide) (by decide) rfl (Nat.le_of_ble_eq_true rfl) dL_yearAt_5 rfl [⟨0, 10, 13, 13⟩] ⟨0, 10, 17, 15⟩ [] (hT.trans rfl) (fun z hz => by
    simp only [List.mem_cons, List.not_mem_nil, or_false] at hz
    rcases hz with rfl
    · exact Or.inr ⟨by decide, xIOB, C.ts _ (by decide +kernel), hxw.2.2.1 (xIAE, xIOB) (by decide)⟩) (by decide) (by decide) (by decide +kernel) (by decide) (fun q => ?_)
  refine z_as C [(4, .ref q), (0, .ref (h 0)), (1, .int v1), (2, .int v2), (3, .ref o)] dL_yearAt_17 (by decide) rfl ?_
  refine z_ic C dL_yearAt_19 2 (by decide) ?_
  exact z_iret C hQ dL_yearAt_20 rfl rfl (by decide) (by decide)
set_option maxHeartbeats 4000000 in
set_option maxRecDepth 100000 in
theorem hL_common_ok (l : Launch) (X : zX) (h a b na nf : Nat → Nat) (o : Nat) (gP gT gA gF : zG) (fo : Nat → Int64) (v1 v2 : Int32) (gP1 gT1 gA1 gF1 : zG) (r : Int32) {fr lo : Nat} (hM : CI l yX5_common wsX5_common fr lo 0 0 X (IW h a b na nf X gP gT gA gF) (.ref (h 0) :: [.int v1, .int v2]) r (IW h a b na nf X gP1 gT1 gA1 gF1)) (hR : fr + 1 ≤ 9 ∧ 8 + (5 + 11) + lo ≤ 200) : CE l yL_common wsL_common 9 200 1 6 X (HW h a b na nf o X gP gT gA gF fo) [.ref (h 0), .int v1, .int v2, .ref o] 0 (HW h a b na nf o X gP1 gT1 gA1 gF1 (vp_updL fo 0 r.toInt64)) := by
  refine ce_intro (cc := cL_common) (ret := some .int) (maxL := 5) (hh := [(0, 10, 13, 13)]) (by decide +kernel) rfl (Nat.le_of_ble_eq_true rfl) ?_
  intro p e s m args below meth c A Q C hxw hxs hT hQ
  show Z p l e { frames := 9, cells := 1, slots := 6, locals := 200 } s m args below meth c X A 5 Q 0 0 (HW h a b na nf o X gP gT gA gF fo) [(0, .ref (h 0)), (1, .int v1), (2, .int v2), (3, .ref o)] 0 []
  refine z_aln C dL_common_0 3 rfl ?_
  refine z_ic C dL_common_1 0 (by decide) ?_
  refine z_aln C dL_common_2 0 rfl ?_
  refine z_iln C dL_common_3 1 rfl ?_
  refine z_iln C dL_common_4 2 rfl ?_
  refine z_cVi (As := [.int v1, .int v2]) (rest := [.int 0, .ref o]) C hM gL_common_X5_common rfl ⟨rfl, by decide, by decide, (by decide : (parseMethodDescriptor yX5_common.desc).map (fun d => d.parameters.length) = some 2)⟩ hR ⟨by decide, by decide⟩ 0 5 rfl rfl [0, 1, 2, 3, 4, 5, 6, 7, 8, 9, 10, 11, 12, 13, 14, 15, 16, 17, 18, 19, 20, 21, 22, 23, 24, 25, 26, 27, 28, 29, 30, 31, 32, 33, 34, 35, 36] [37] [1, 2, 3, 4, 5, 6, 7, 8, 9, 10, 11, 12, 13, 14, 15, 16, 17, 18, 19, 20, 21, 22, 23, 24, 25, 26, 27, 28, 29, 30, 31, 32, 33, 34, 35, 36, 37, 0] rfl rfl (by decide) (by decide) (by decide) (by decide) (HW h a b na nf o X gP1 gT1 gA1 gF1 fo) rfl (Nat.le_of_ble_eq_true rfl) dL_common_5 rfl ?_
  refine z_i2l C dL_common_8 r.toInt64 rfl ?_
  refine z_last C 37 0 (HW h a b na nf o X gP1 gT1 gA1 gF1 (vp_updL fo 0 r.toInt64)) dL_common_9 rfl (by decide) (by decide) (by decide) rfl ?_
  refine z_go C 17 dL_common_10 (by decide) ?_
  refine z_ic C dL_common_17 0 (by decide) ?_
  exact z_iret C hQ dL_common_18 rfl rfl (by decide) (by decide)
set_option maxHeartbeats 4000000 in
set_option maxRecDepth 100000 in
theorem hL_common_x1 (l : Launch) (X : zX) (h a b na nf : Nat → Nat) (o : Nat) (gP gT gA gF : zG) (fo : Nat → Int64) (v1 v2 : Int32) {fr lo : Nat} (hM : CXi l yX5_common wsX5_common fr lo 1 6 X (IW h a b na nf X gP gT gA gF) (.ref (h 0) :: [.int v1, .int v2]) xIOB) (hR : fr + 1 ≤ 9 ∧ 8 + (5 + 11) + lo ≤ 200) : CE l yL_common wsL_common 9 200 1 6 X (HW h a b na nf o X gP gT gA gF fo) [.ref (h 0), .int v1, .int v2, .ref o] 1 (HW h a b na nf o X gP gT gA gF fo) := by
  refine ce_intro (cc := cL_common) (ret := some .int) (maxL := 5) (hh := [(0, 10, 13, 13)]) (by decide +kernel) rfl (Nat.le_of_ble_eq_true rfl) ?_
  intro p e s m args below meth c A Q C hxw hxs hT hQ
  show Z p l e { frames := 9, cells := 1, slots := 6, locals := 200 } s m args below meth c X A 5 Q 0 0 (HW h a b na nf o X gP gT gA gF fo) [(0, .ref (h 0)), (1, .int v1), (2, .int v2), (3, .ref o)] 0 []
  refine z_aln C dL_common_0 3 rfl ?_
  refine z_ic C dL_common_1 0 (by decide) ?_
  refine z_aln C dL_common_2 0 rfl ?_
  refine z_iln C dL_common_3 1 rfl ?_
  refine z_iln C dL_common_4 2 rfl ?_
  refine z_xci (As := [.int v1, .int v2]) (rest := [.int 0, .ref o]) C hxw hxs hM gL_common_X5_common rfl ⟨rfl, by decide, by decide, (by decide : (parseMethodDescriptor yX5_common.desc).map (fun d => d.parameters.length) = some 2)⟩ hR ⟨by decide, by decide⟩ 0 5 rfl rfl [0, 1, 2, 3, 4, 5, 6, 7, 8, 9, 10, 11, 12, 13, 14, 15, 16, 17, 18, 19, 20, 21, 22, 23, 24, 25, 26, 27, 28, 29, 30, 31, 32, 33, 34, 35, 36] [37] [1, 2, 3, 4, 5, 6, 7, 8, 9, 10, 11, 12, 13, 14, 15, 16, 17, 18, 19, 20, 21, 22, 23, 24, 25, 26, 27, 28, 29, 30, 31, 32, 33, 34, 35, 36, 37, 0] rfl rfl (by decide) (by decide) (by decide) (by decide) rfl (Nat.le_of_ble_eq_true rfl) dL_common_5 rfl [] ⟨0, 10, 13, 13⟩ [] (hT.trans rfl) (fun z hz => absurd hz List.not_mem_nil) (by decide) (by decide) (by decide +kernel) (by decide) (fun q => ?_)
  refine z_as C [(4, .ref q), (0, .ref (h 0)), (1, .int v1), (2, .int v2), (3, .ref o)] dL_common_13 (by decide) rfl ?_
  refine z_ic C dL_common_15 1 (by decide) ?_
  exact z_iret C hQ dL_common_16 rfl rfl (by decide) (by decide)
set_option maxHeartbeats 4000000 in
set_option maxRecDepth 100000 in
theorem hL_flood_ok (l : Launch) (X : zX) (h a b na nf : Nat → Nat) (o : Nat) (gP gT gA gF : zG) (fo : Nat → Int64) (v1 v2 : Int32) (gP1 gT1 gA1 gF1 : zG) (r : Int32) {fr lo : Nat} (hM : CI l yX5_flood wsX5_flood fr lo 0 0 X (IW h a b na nf X gP gT gA gF) (.ref (h 0) :: [.int v1, .int v2]) r (IW h a b na nf X gP1 gT1 gA1 gF1)) (hR : fr + 1 ≤ 9 ∧ 8 + (3 + 11) + lo ≤ 200) : CE l yL_flood wsL_flood 9 200 1 6 X (HW h a b na nf o X gP gT gA gF fo) [.ref (h 0), .int v1, .int v2, .ref o] 0 (HW h a b na nf o X gP1 gT1 gA1 gF1 (vp_updL fo 0 r.toInt64)) := by
  refine ce_intro (cc := cL_flood) (ret := some .int) (maxL := 5) (hh := [(0, 10, 13, 13), (0, 10, 17, 15)]) (by decide +kernel) rfl (Nat.le_of_ble_eq_true rfl) ?_
  intro p e s m args below meth c A Q C hxw hxs hT hQ
  show Z p l e { frames := 9, cells := 1, slots := 6, locals := 200 } s m args below meth c X A 5 Q 0 0 (HW h a b na nf o X gP gT gA gF fo) [(0, .ref (h 0)), (1, .int v1), (2, .int v2), (3, .ref o)] 0 []
  refine z_aln C dL_flood_0 3 rfl ?_
  refine z_ic C dL_flood_1 0 (by decide) ?_
  refine z_aln C dL_flood_2 0 rfl ?_
  refine z_iln C dL_flood_3 1 rfl ?_
  refine z_iln C dL_flood_4 2 rfl ?_
  refine z_cVi (As := [.int v1, .int v2]) (rest := [.int 0, .ref o]) C hM gL_flood_X5_flood rfl ⟨rfl, by decide, by decide, (by decide : (parseMethodDescriptor yX5_flood.desc).map (fun d => d.parameters.length) = some 2)⟩ hR ⟨by decide, by decide⟩ 0 5 rfl rfl [0, 1, 2, 3, 4, 5, 6, 7, 8, 9, 10, 11, 12, 13, 14, 15, 16, 17, 18, 19, 20, 21, 22, 23, 24, 25, 26, 27, 28, 29, 30, 31, 32, 33, 34, 35, 36] [37] [1, 2, 3, 4, 5, 6, 7, 8, 9, 10, 11, 12, 13, 14, 15, 16, 17, 18, 19, 20, 21, 22, 23, 24, 25, 26, 27, 28, 29, 30, 31, 32, 33, 34, 35, 36, 37, 0] rfl rfl (by decide) (by decide) (by decide) (by decide) (HW h a b na nf o X gP1 gT1 gA1 gF1 fo) rfl (Nat.le_of_ble_eq_true rfl) dL_flood_5 rfl ?_
  refine z_i2l C dL_flood_8 r.toInt64 rfl ?_
  refine z_last C 37 0 (HW h a b na nf o X gP1 gT1 gA1 gF1 (vp_updL fo 0 r.toInt64)) dL_flood_9 rfl (by decide) (by decide) (by decide) rfl ?_
  refine z_go C 21 dL_flood_10 (by decide) ?_
  refine z_ic C dL_flood_21 0 (by decide) ?_
  exact z_iret C hQ dL_flood_22 rfl rfl (by decide) (by decide)
set_option maxHeartbeats 4000000 in
set_option maxRecDepth 100000 in
theorem hL_flood_x1 (l : Launch) (X : zX) (h a b na nf : Nat → Nat) (o : Nat) (gP gT gA gF : zG) (fo : Nat → Int64) (v1 v2 : Int32) {fr lo : Nat} (hM : CXi l yX5_flood wsX5_flood fr lo 1 6 X (IW h a b na nf X gP gT gA gF) (.ref (h 0) :: [.int v1, .int v2]) xIOB) (hR : fr + 1 ≤ 9 ∧ 8 + (3 + 11) + lo ≤ 200) : CE l yL_flood wsL_flood 9 200 1 6 X (HW h a b na nf o X gP gT gA gF fo) [.ref (h 0), .int v1, .int v2, .ref o] 1 (HW h a b na nf o X gP gT gA gF fo) := by
  refine ce_intro (cc := cL_flood) (ret := some .int) (maxL := 5) (hh := [(0, 10, 13, 13), (0, 10, 17, 15)]) (by decide +kernel) rfl (Nat.le_of_ble_eq_true rfl) ?_
  intro p e s m args below meth c A Q C hxw hxs hT hQ
  show Z p l e { frames := 9, cells := 1, slots := 6, locals := 200 } s m args below meth c X A 5 Q 0 0 (HW h a b na nf o X gP gT gA gF fo) [(0, .ref (h 0)), (1, .int v1), (2, .int v2), (3, .ref o)] 0 []
  refine z_aln C dL_flood_0 3 rfl ?_
  refine z_ic C dL_flood_1 0 (by decide) ?_
  refine z_aln C dL_flood_2 0 rfl ?_
  refine z_iln C dL_flood_3 1 rfl ?_
  refine z_iln C dL_flood_4 2 rfl ?_
  refine z_xci (As := [.int v1, .int v2]) (rest := [.int 0, .ref o]) C hxw hxs hM gL_flood_X5_flood rfl ⟨rfl, by decide, by decide, (by decide : (parseMethodDescriptor yX5_flood.desc).map (fun d => d.parameters.length) = some 2)⟩ hR ⟨by decide, by decide⟩ 0 5 rfl rfl [0, 1, 2, 3, 4, 5, 6, 7, 8, 9, 10, 11, 12, 13, 14, 15, 16, 17, 18, 19, 20, 21, 22, 23, 24, 25, 26, 27, 28, 29, 30, 31, 32, 33, 34, 35, 36] [37] [1, 2, 3, 4, 5, 6, 7, 8, 9, 10, 11, 12, 13, 14, 15, 16, 17, 18, 19, 20, 21, 22, 23, 24, 25, 26, 27, 28, 29, 30, 31, 32, 33, 34, 35, 36, 37, 0] rfl rfl (by decide) (by decide) (by decide) (by decide) rfl (Nat.le_of_ble_eq_true rfl) dL_flood_5 rfl [] ⟨0, 10, 13, 13⟩ [⟨0, 10, 17, 15⟩] (hT.trans rfl) (fun z hz => absurd hz List.not_mem_nil) (by decide) (by decide) (by decide +kernel) (by decide) (fun q => ?_)
  refine z_as C [(4, .ref q), (0, .ref (h 0)), (1, .int v1), (2, .int v2), (3, .ref o)] dL_flood_13 (by decide) rfl ?_
  refine z_ic C dL_flood_15 1 (by decide) ?_
  exact z_iret C hQ dL_flood_16 rfl rfl (by decide) (by decide)
set_option maxHeartbeats 4000000 in
set_option maxRecDepth 100000 in
theorem hL_flood_x2 (l : Launch) (X : zX) (h a b na nf : Nat → Nat) (o : Nat) (gP gT gA gF : zG) (fo : Nat → Int64) (v1 v2 : Int32) {fr lo : Nat} (hM : CXi l yX5_flood wsX5_flood fr lo 1 6 X (IW h a b na nf X gP gT gA gF) (.ref (h 0) :: [.int v1, .int v2]) xIAE) (hR : fr + 1 ≤ 9 ∧ 8 + (3 + 11) + lo ≤ 200) : CE l yL_flood wsL_flood 9 200 1 6 X (HW h a b na nf o X gP gT gA gF fo) [.ref (h 0), .int v1, .int v2, .ref o] 2 (HW h a b na nf o X gP gT gA gF fo) := by
  refine ce_intro (cc := cL_flood) (ret := some .int) (maxL := 5) (hh := [(0, 10, 13, 13), (0, 10, 17, 15)]) (by decide +kernel) rfl (Nat.le_of_ble_eq_true rfl) ?_
  intro p e s m args below meth c A Q C hxw hxs hT hQ
  show Z p l e { frames := 9, cells := 1, slots := 6, locals := 200 } s m args below meth c X A 5 Q 0 0 (HW h a b na nf o X gP gT gA gF fo) [(0, .ref (h 0)), (1, .int v1), (2, .int v2), (3, .ref o)] 0 []
  refine z_aln C dL_flood_0 3 rfl ?_
  refine z_ic C dL_flood_1 0 (by decide) ?_
  refine z_aln C dL_flood_2 0 rfl ?_
  refine z_iln C dL_flood_3 1 rfl ?_
  refine z_iln C dL_flood_4 2 rfl ?_
  refine z_xci (As := [.int v1, .int v2]) (rest := [.int 0, .ref o]) C hxw hxs hM gL_flood_X5_flood rfl ⟨rfl, by decide, by decide, (by decide : (parseMethodDescriptor yX5_flood.desc).map (fun d => d.parameters.length) = some 2)⟩ hR ⟨by decide, by decide⟩ 0 5 rfl rfl [0, 1, 2, 3, 4, 5, 6, 7, 8, 9, 10, 11, 12, 13, 14, 15, 16, 17, 18, 19, 20, 21, 22, 23, 24, 25, 26, 27, 28, 29, 30, 31, 32, 33, 34, 35, 36] [37] [1, 2, 3, 4, 5, 6, 7, 8, 9, 10, 11, 12, 13, 14, 15, 16, 17, 18, 19, 20, 21, 22, 23, 24, 25, 26, 27, 28, 29, 30, 31, 32, 33, 34, 35, 36, 37, 0] rfl rfl (by decide) (by decide) (by decide) (by decide) rfl (Nat.le_of_ble_eq_true rfl) dL_flood_5 rfl [⟨0, 10, 13, 13⟩] ⟨0, 10, 17, 15⟩ [] (hT.trans rfl) (fun z hz => by
    simp only [List.mem_cons, List.not_mem_nil, or_false] at hz
    rcases hz with rfl
    · exact Or.inr ⟨by decide, xIOB, C.ts _ (by decide +kernel), hxw.2.2.1 (xIAE, xIOB) (by decide)⟩) (by decide) (by decide) (by decide +kernel) (by decide) (fun q => ?_)
  refine z_as C [(4, .ref q), (0, .ref (h 0)), (1, .int v1), (2, .int v2), (3, .ref o)] dL_flood_17 (by decide) rfl ?_
  refine z_ic C dL_flood_19 2 (by decide) ?_
  exact z_iret C hQ dL_flood_20 rfl rfl (by decide) (by decide)
set_option maxHeartbeats 4000000 in
set_option maxRecDepth 100000 in
theorem hL_front_ok (l : Launch) (X : zX) (h a b na nf : Nat → Nat) (o : Nat) (gP gT gA gF : zG) (fo : Nat → Int64) (v1 : Int32) (gP1 gT1 gA1 gF1 : zG) (r : Int32) {fr lo : Nat} (hM : CI l yX5_front wsX5_front fr lo 0 0 X (IW h a b na nf X gP gT gA gF) (.ref (h 0) :: [.int v1]) r (IW h a b na nf X gP1 gT1 gA1 gF1)) (hR : fr + 1 ≤ 9 ∧ 8 + (2 + 11) + lo ≤ 200) : CE l yL_front wsL_front 9 200 1 6 X (HW h a b na nf o X gP gT gA gF fo) [.ref (h 0), .int v1, .ref o] 0 (HW h a b na nf o X gP1 gT1 gA1 gF1 (vp_updL fo 0 r.toInt64)) := by
  refine ce_intro (cc := cL_front) (ret := some .int) (maxL := 4) (hh := [(0, 9, 12, 15)]) (by decide +kernel) rfl (Nat.le_of_ble_eq_true rfl) ?_
  intro p e s m args below meth c A Q C hxw hxs hT hQ
  show Z p l e { frames := 9, cells := 1, slots := 6, locals := 200 } s m args below meth c X A 4 Q 0 0 (HW h a b na nf o X gP gT gA gF fo) [(0, .ref (h 0)), (1, .int v1), (2, .ref o)] 0 []
  refine z_aln C dL_front_0 2 rfl ?_
  refine z_ic C dL_front_1 0 (by decide) ?_
  refine z_aln C dL_front_2 0 rfl ?_
  refine z_iln C dL_front_3 1 rfl ?_
  refine z_cVi (As := [.int v1]) (rest := [.int 0, .ref o]) C hM gL_front_X5_front rfl ⟨rfl, by decide, by decide, (by decide : (parseMethodDescriptor yX5_front.desc).map (fun d => d.parameters.length) = some 1)⟩ hR ⟨by decide, by decide⟩ 0 5 rfl rfl [0, 1, 2, 3, 4, 5, 6, 7, 8, 9, 10, 11, 12, 13, 14, 15, 16, 17, 18, 19, 20, 21, 22, 23, 24, 25, 26, 27, 28, 29, 30, 31, 32, 33, 34, 35, 36] [37] [1, 2, 3, 4, 5, 6, 7, 8, 9, 10, 11, 12, 13, 14, 15, 16, 17, 18, 19, 20, 21, 22, 23, 24, 25, 26, 27, 28, 29, 30, 31, 32, 33, 34, 35, 36, 37, 0] rfl rfl (by decide) (by decide) (by decide) (by decide) (HW h a b na nf o X gP1 gT1 gA1 gF1 fo) rfl (Nat.le_of_ble_eq_true rfl) dL_front_4 rfl ?_
  refine z_i2l C dL_front_7 r.toInt64 rfl ?_
  refine z_last C 37 0 (HW h a b na nf o X gP1 gT1 gA1 gF1 (vp_updL fo 0 r.toInt64)) dL_front_8 rfl (by decide) (by decide) (by decide) rfl ?_
  refine z_go C 15 dL_front_9 (by decide) ?_
  refine z_ic C dL_front_15 0 (by decide) ?_
  exact z_iret C hQ dL_front_16 rfl rfl (by decide) (by decide)
set_option maxHeartbeats 4000000 in
set_option maxRecDepth 100000 in
theorem hL_front_x1 (l : Launch) (X : zX) (h a b na nf : Nat → Nat) (o : Nat) (gP gT gA gF : zG) (fo : Nat → Int64) (v1 : Int32) {fr lo : Nat} (hM : CXi l yX5_front wsX5_front fr lo 1 6 X (IW h a b na nf X gP gT gA gF) (.ref (h 0) :: [.int v1]) xIAE) (hR : fr + 1 ≤ 9 ∧ 8 + (2 + 11) + lo ≤ 200) : CE l yL_front wsL_front 9 200 1 6 X (HW h a b na nf o X gP gT gA gF fo) [.ref (h 0), .int v1, .ref o] 1 (HW h a b na nf o X gP gT gA gF fo) := by
  refine ce_intro (cc := cL_front) (ret := some .int) (maxL := 4) (hh := [(0, 9, 12, 15)]) (by decide +kernel) rfl (Nat.le_of_ble_eq_true rfl) ?_
  intro p e s m args below meth c A Q C hxw hxs hT hQ
  show Z p l e { frames := 9, cells := 1, slots := 6, locals := 200 } s m args below meth c X A 4 Q 0 0 (HW h a b na nf o X gP gT gA gF fo) [(0, .ref (h 0)), (1, .int v1), (2, .ref o)] 0 []
  refine z_aln C dL_front_0 2 rfl ?_
  refine z_ic C dL_front_1 0 (by decide) ?_
  refine z_aln C dL_front_2 0 rfl ?_
  refine z_iln C dL_front_3 1 rfl ?_
  refine z_xci (As := [.int v1]) (rest := [.int 0, .ref o]) C hxw hxs hM gL_front_X5_front rfl ⟨rfl, by decide, by decide, (by decide : (parseMethodDescriptor yX5_front.desc).map (fun d => d.parameters.length) = some 1)⟩ hR ⟨by decide, by decide⟩ 0 5 rfl rfl [0, 1, 2, 3, 4, 5, 6, 7, 8, 9, 10, 11, 12, 13, 14, 15, 16, 17, 18, 19, 20, 21, 22, 23, 24, 25, 26, 27, 28, 29, 30, 31, 32, 33, 34, 35, 36] [37] [1, 2, 3, 4, 5, 6, 7, 8, 9, 10, 11, 12, 13, 14, 15, 16, 17, 18, 19, 20, 21, 22, 23, 24, 25, 26, 27, 28, 29, 30, 31, 32, 33, 34, 35, 36, 37, 0] rfl rfl (by decide) (by decide) (by decide) (by decide) rfl (Nat.le_of_ble_eq_true rfl) dL_front_4 rfl [] ⟨0, 9, 12, 15⟩ [] (hT.trans rfl) (fun z hz => absurd hz List.not_mem_nil) (by decide) (by decide) (by decide +kernel) (by decide) (fun q => ?_)
  refine z_asn C 3 [(3, .ref q), (0, .ref (h 0)), (1, .int v1), (2, .ref o)] dL_front_12 rfl (by decide) rfl ?_
  refine z_ic C dL_front_13 1 (by decide) ?_
  exact z_iret C hQ dL_front_14 rfl rfl (by decide) (by decide)
set_option maxHeartbeats 4000000 in
set_option maxRecDepth 100000 in
theorem hL_total_ok (l : Launch) (X : zX) (h a b na nf : Nat → Nat) (o : Nat) (gP gT gA gF : zG) (fo : Nat → Int64) (v1 : Int32) (gP1 gT1 gA1 gF1 : zG) (r : Int32) {fr lo : Nat} (hM : CI l yX5_total wsX5_total fr lo 0 0 X (IW h a b na nf X gP gT gA gF) (.ref (h 0) :: [.int v1]) r (IW h a b na nf X gP1 gT1 gA1 gF1)) (hR : fr + 1 ≤ 9 ∧ 8 + (2 + 11) + lo ≤ 200) : CE l yL_total wsL_total 9 200 1 6 X (HW h a b na nf o X gP gT gA gF fo) [.ref (h 0), .int v1, .ref o] 0 (HW h a b na nf o X gP1 gT1 gA1 gF1 (vp_updL fo 0 r.toInt64)) := by
  refine ce_intro (cc := cL_total) (ret := some .int) (maxL := 4) (hh := [(0, 9, 12, 15)]) (by decide +kernel) rfl (Nat.le_of_ble_eq_true rfl) ?_
  intro p e s m args below meth c A Q C hxw hxs hT hQ
  show Z p l e { frames := 9, cells := 1, slots := 6, locals := 200 } s m args below meth c X A 4 Q 0 0 (HW h a b na nf o X gP gT gA gF fo) [(0, .ref (h 0)), (1, .int v1), (2, .ref o)] 0 []
  refine z_aln C dL_total_0 2 rfl ?_
  refine z_ic C dL_total_1 0 (by decide) ?_
  refine z_aln C dL_total_2 0 rfl ?_
  refine z_iln C dL_total_3 1 rfl ?_
  refine z_cVi (As := [.int v1]) (rest := [.int 0, .ref o]) C hM gL_total_X5_total rfl ⟨rfl, by decide, by decide, (by decide : (parseMethodDescriptor yX5_total.desc).map (fun d => d.parameters.length) = some 1)⟩ hR ⟨by decide, by decide⟩ 0 5 rfl rfl [0, 1, 2, 3, 4, 5, 6, 7, 8, 9, 10, 11, 12, 13, 14, 15, 16, 17, 18, 19, 20, 21, 22, 23, 24, 25, 26, 27, 28, 29, 30, 31, 32, 33, 34, 35, 36] [37] [1, 2, 3, 4, 5, 6, 7, 8, 9, 10, 11, 12, 13, 14, 15, 16, 17, 18, 19, 20, 21, 22, 23, 24, 25, 26, 27, 28, 29, 30, 31, 32, 33, 34, 35, 36, 37, 0] rfl rfl (by decide) (by decide) (by decide) (by decide) (HW h a b na nf o X gP1 gT1 gA1 gF1 fo) rfl (Nat.le_of_ble_eq_true rfl) dL_total_4 rfl ?_
  refine z_i2l C dL_total_7 r.toInt64 rfl ?_
  refine z_last C 37 0 (HW h a b na nf o X gP1 gT1 gA1 gF1 (vp_updL fo 0 r.toInt64)) dL_total_8 rfl (by decide) (by decide) (by decide) rfl ?_
  refine z_go C 15 dL_total_9 (by decide) ?_
  refine z_ic C dL_total_15 0 (by decide) ?_
  exact z_iret C hQ dL_total_16 rfl rfl (by decide) (by decide)
set_option maxHeartbeats 4000000 in
set_option maxRecDepth 100000 in
theorem hL_total_x1 (l : Launch) (X : zX) (h a b na nf : Nat → Nat) (o : Nat) (gP gT gA gF : zG) (fo : Nat → Int64) (v1 : Int32) {fr lo : Nat} (hM : CXi l yX5_total wsX5_total fr lo 1 6 X (IW h a b na nf X gP gT gA gF) (.ref (h 0) :: [.int v1]) xIAE) (hR : fr + 1 ≤ 9 ∧ 8 + (2 + 11) + lo ≤ 200) : CE l yL_total wsL_total 9 200 1 6 X (HW h a b na nf o X gP gT gA gF fo) [.ref (h 0), .int v1, .ref o] 1 (HW h a b na nf o X gP gT gA gF fo) := by
  refine ce_intro (cc := cL_total) (ret := some .int) (maxL := 4) (hh := [(0, 9, 12, 15)]) (by decide +kernel) rfl (Nat.le_of_ble_eq_true rfl) ?_
  intro p e s m args below meth c A Q C hxw hxs hT hQ
  show Z p l e { frames := 9, cells := 1, slots := 6, locals := 200 } s m args below meth c X A 4 Q 0 0 (HW h a b na nf o X gP gT gA gF fo) [(0, .ref (h 0)), (1, .int v1), (2, .ref o)] 0 []
  refine z_aln C dL_total_0 2 rfl ?_
  refine z_ic C dL_total_1 0 (by decide) ?_
  refine z_aln C dL_total_2 0 rfl ?_
  refine z_iln C dL_total_3 1 rfl ?_
  refine z_xci (As := [.int v1]) (rest := [.int 0, .ref o]) C hxw hxs hM gL_total_X5_total rfl ⟨rfl, by decide, by decide, (by decide : (parseMethodDescriptor yX5_total.desc).map (fun d => d.parameters.length) = some 1)⟩ hR ⟨by decide, by decide⟩ 0 5 rfl rfl [0, 1, 2, 3, 4, 5, 6, 7, 8, 9, 10, 11, 12, 13, 14, 15, 16, 17, 18, 19, 20, 21, 22, 23, 24, 25, 26, 27, 28, 29, 30, 31, 32, 33, 34, 35, 36] [37] [1, 2, 3, 4, 5, 6, 7, 8, 9, 10, 11, 12, 13, 14, 15, 16, 17, 18, 19, 20, 21, 22, 23, 24, 25, 26, 27, 28, 29, 30, 31, 32, 33, 34, 35, 36, 37, 0] rfl rfl (by decide) (by decide) (by decide) (by decide) rfl (Nat.le_of_ble_eq_true rfl) dL_total_4 rfl [] ⟨0, 9, 12, 15⟩ [] (hT.trans rfl) (fun z hz => absurd hz List.not_mem_nil) (by decide) (by decide) (by decide +kernel) (by decide) (fun q => ?_)
  refine z_asn C 3 [(3, .ref q), (0, .ref (h 0)), (1, .int v1), (2, .ref o)] dL_total_12 rfl (by decide) rfl ?_
  refine z_ic C dL_total_13 1 (by decide) ?_
  exact z_iret C hQ dL_total_14 rfl rfl (by decide) (by decide)
set_option maxHeartbeats 4000000 in
set_option maxRecDepth 100000 in
theorem hL_would_ok (l : Launch) (X : zX) (h a b na nf : Nat → Nat) (o : Nat) (gP gT gA gF : zG) (fo : Nat → Int64) (v1 v2 v3 : Int32) (gP1 gT1 gA1 gF1 : zG) (r : Int32) {fr lo : Nat} (hM : CI l yX5_would wsX5_would fr lo 0 0 X (IW h a b na nf X gP gT gA gF) (.ref (h 0) :: [.int v1, .int v2, .int v3]) r (IW h a b na nf X gP1 gT1 gA1 gF1)) (hR : fr + 1 ≤ 9 ∧ 8 + (4 + 11) + lo ≤ 200) : CE l yL_would wsL_would 9 200 1 6 X (HW h a b na nf o X gP gT gA gF fo) [.ref (h 0), .int v1, .int v2, .int v3, .ref o] 0 (HW h a b na nf o X gP1 gT1 gA1 gF1 (vp_updL fo 0 r.toInt64)) := by
  refine ce_intro (cc := cL_would) (ret := some .int) (maxL := 6) (hh := [(0, 12, 15, 13), (0, 12, 19, 15), (0, 12, 23, 17)]) (by decide +kernel) rfl (Nat.le_of_ble_eq_true rfl) ?_
  intro p e s m args below meth c A Q C hxw hxs hT hQ
  show Z p l e { frames := 9, cells := 1, slots := 6, locals := 200 } s m args below meth c X A 6 Q 0 0 (HW h a b na nf o X gP gT gA gF fo) [(0, .ref (h 0)), (1, .int v1), (2, .int v2), (3, .int v3), (4, .ref o)] 0 []
  refine z_al C dL_would_0 4 rfl ?_
  refine z_ic C dL_would_2 0 (by decide) ?_
  refine z_aln C dL_would_3 0 rfl ?_
  refine z_iln C dL_would_4 1 rfl ?_
  refine z_iln C dL_would_5 2 rfl ?_
  refine z_iln C dL_would_6 3 rfl ?_
  refine z_cVi (As := [.int v1, .int v2, .int v3]) (rest := [.int 0, .ref o]) C hM gL_would_X5_would rfl ⟨rfl, by decide, by decide, (by decide : (parseMethodDescriptor yX5_would.desc).map (fun d => d.parameters.length) = some 3)⟩ hR ⟨by decide, by decide⟩ 0 5 rfl rfl [0, 1, 2, 3, 4, 5, 6, 7, 8, 9, 10, 11, 12, 13, 14, 15, 16, 17, 18, 19, 20, 21, 22, 23, 24, 25, 26, 27, 28, 29, 30, 31, 32, 33, 34, 35, 36] [37] [1, 2, 3, 4, 5, 6, 7, 8, 9, 10, 11, 12, 13, 14, 15, 16, 17, 18, 19, 20, 21, 22, 23, 24, 25, 26, 27, 28, 29, 30, 31, 32, 33, 34, 35, 36, 37, 0] rfl rfl (by decide) (by decide) (by decide) (by decide) (HW h a b na nf o X gP1 gT1 gA1 gF1 fo) rfl (Nat.le_of_ble_eq_true rfl) dL_would_7 rfl ?_
  refine z_i2l C dL_would_10 r.toInt64 rfl ?_
  refine z_last C 37 0 (HW h a b na nf o X gP1 gT1 gA1 gF1 (vp_updL fo 0 r.toInt64)) dL_would_11 rfl (by decide) (by decide) (by decide) rfl ?_
  refine z_go C 27 dL_would_12 (by decide) ?_
  refine z_ic C dL_would_27 0 (by decide) ?_
  exact z_iret C hQ dL_would_28 rfl rfl (by decide) (by decide)
set_option maxHeartbeats 4000000 in
set_option maxRecDepth 100000 in
theorem hL_would_x1 (l : Launch) (X : zX) (h a b na nf : Nat → Nat) (o : Nat) (gP gT gA gF : zG) (fo : Nat → Int64) (v1 v2 v3 : Int32) {fr lo : Nat} (hM : CXi l yX5_would wsX5_would fr lo 1 6 X (IW h a b na nf X gP gT gA gF) (.ref (h 0) :: [.int v1, .int v2, .int v3]) xIOB) (hR : fr + 1 ≤ 9 ∧ 8 + (4 + 11) + lo ≤ 200) : CE l yL_would wsL_would 9 200 1 6 X (HW h a b na nf o X gP gT gA gF fo) [.ref (h 0), .int v1, .int v2, .int v3, .ref o] 1 (HW h a b na nf o X gP gT gA gF fo) := by
  refine ce_intro (cc := cL_would) (ret := some .int) (maxL := 6) (hh := [(0, 12, 15, 13), (0, 12, 19, 15), (0, 12, 23, 17)]) (by decide +kernel) rfl (Nat.le_of_ble_eq_true rfl) ?_
  intro p e s m args below meth c A Q C hxw hxs hT hQ
  show Z p l e { frames := 9, cells := 1, slots := 6, locals := 200 } s m args below meth c X A 6 Q 0 0 (HW h a b na nf o X gP gT gA gF fo) [(0, .ref (h 0)), (1, .int v1), (2, .int v2), (3, .int v3), (4, .ref o)] 0 []
  refine z_al C dL_would_0 4 rfl ?_
  refine z_ic C dL_would_2 0 (by decide) ?_
  refine z_aln C dL_would_3 0 rfl ?_
  refine z_iln C dL_would_4 1 rfl ?_
  refine z_iln C dL_would_5 2 rfl ?_
  refine z_iln C dL_would_6 3 rfl ?_
  refine z_xci (As := [.int v1, .int v2, .int v3]) (rest := [.int 0, .ref o]) C hxw hxs hM gL_would_X5_would rfl ⟨rfl, by decide, by decide, (by decide : (parseMethodDescriptor yX5_would.desc).map (fun d => d.parameters.length) = some 3)⟩ hR ⟨by decide, by decide⟩ 0 5 rfl rfl [0, 1, 2, 3, 4, 5, 6, 7, 8, 9, 10, 11, 12, 13, 14, 15, 16, 17, 18, 19, 20, 21, 22, 23, 24, 25, 26, 27, 28, 29, 30, 31, 32, 33, 34, 35, 36] [37] [1, 2, 3, 4, 5, 6, 7, 8, 9, 10, 11, 12, 13, 14, 15, 16, 17, 18, 19, 20, 21, 22, 23, 24, 25, 26, 27, 28, 29, 30, 31, 32, 33, 34, 35, 36, 37, 0] rfl rfl (by decide) (by decide) (by decide) (by decide) rfl (Nat.le_of_ble_eq_true rfl) dL_would_7 rfl [] ⟨0, 12, 15, 13⟩ [⟨0, 12, 19, 15⟩, ⟨0, 12, 23, 17⟩] (hT.trans rfl) (fun z hz => absurd hz List.not_mem_nil) (by decide) (by decide) (by decide +kernel) (by decide) (fun q => ?_)
  refine z_as C [(5, .ref q), (0, .ref (h 0)), (1, .int v1), (2, .int v2), (3, .int v3), (4, .ref o)] dL_would_15 (by decide) rfl ?_
  refine z_ic C dL_would_17 1 (by decide) ?_
  exact z_iret C hQ dL_would_18 rfl rfl (by decide) (by decide)
set_option maxHeartbeats 4000000 in
set_option maxRecDepth 100000 in
theorem hL_would_x2 (l : Launch) (X : zX) (h a b na nf : Nat → Nat) (o : Nat) (gP gT gA gF : zG) (fo : Nat → Int64) (v1 v2 v3 : Int32) {fr lo : Nat} (hM : CXi l yX5_would wsX5_would fr lo 1 6 X (IW h a b na nf X gP gT gA gF) (.ref (h 0) :: [.int v1, .int v2, .int v3]) xIAE) (hR : fr + 1 ≤ 9 ∧ 8 + (4 + 11) + lo ≤ 200) : CE l yL_would wsL_would 9 200 1 6 X (HW h a b na nf o X gP gT gA gF fo) [.ref (h 0), .int v1, .int v2, .int v3, .ref o] 2 (HW h a b na nf o X gP gT gA gF fo) := by
  refine ce_intro (cc := cL_would) (ret := some .int) (maxL := 6) (hh := [(0, 12, 15, 13), (0, 12, 19, 15), (0, 12, 23, 17)]) (by decide +kernel) rfl (Nat.le_of_ble_eq_true rfl) ?_
  intro p e s m args below meth c A Q C hxw hxs hT hQ
  show Z p l e { frames := 9, cells := 1, slots := 6, locals := 200 } s m args below meth c X A 6 Q 0 0 (HW h a b na nf o X gP gT gA gF fo) [(0, .ref (h 0)), (1, .int v1), (2, .int v2), (3, .int v3), (4, .ref o)] 0 []
  refine z_al C dL_would_0 4 rfl ?_
  refine z_ic C dL_would_2 0 (by decide) ?_
  refine z_aln C dL_would_3 0 rfl ?_
  refine z_iln C dL_would_4 1 rfl ?_
  refine z_iln C dL_would_5 2 rfl ?_
  refine z_iln C dL_would_6 3 rfl ?_
  refine z_xci (As := [.int v1, .int v2, .int v3]) (rest := [.int 0, .ref o]) C hxw hxs hM gL_would_X5_would rfl ⟨rfl, by decide, by decide, (by decide : (parseMethodDescriptor yX5_would.desc).map (fun d => d.parameters.length) = some 3)⟩ hR ⟨by decide, by decide⟩ 0 5 rfl rfl [0, 1, 2, 3, 4, 5, 6, 7, 8, 9, 10, 11, 12, 13, 14, 15, 16, 17, 18, 19, 20, 21, 22, 23, 24, 25, 26, 27, 28, 29, 30, 31, 32, 33, 34, 35, 36] [37] [1, 2, 3, 4, 5, 6, 7, 8, 9, 10, 11, 12, 13, 14, 15, 16, 17, 18, 19, 20, 21, 22, 23, 24, 25, 26, 27, 28, 29, 30, 31, 32, 33, 34, 35, 36, 37, 0] rfl rfl (by decide) (by decide) (by decide) (by decide) rfl (Nat.le_of_ble_eq_true rfl) dL_would_7 rfl [⟨0, 12, 15, 13⟩] ⟨0, 12, 19, 15⟩ [⟨0, 12, 23, 17⟩] (hT.trans rfl) (fun z hz => by
    simp only [List.mem_cons, List.not_mem_nil, or_false] at hz
    rcases hz with rfl
    · exact Or.inr ⟨by decide, xIOB, C.ts _ (by decide +kernel), hxw.2.2.1 (xIAE, xIOB) (by decide)⟩) (by decide) (by decide) (by decide +kernel) (by decide) (fun q => ?_)
  refine z_as C [(5, .ref q), (0, .ref (h 0)), (1, .int v1), (2, .int v2), (3, .int v3), (4, .ref o)] dL_would_19 (by decide) rfl ?_
  refine z_ic C dL_would_21 2 (by decide) ?_
  exact z_iret C hQ dL_would_22 rfl rfl (by decide) (by decide)
set_option maxHeartbeats 4000000 in
set_option maxRecDepth 100000 in
theorem hL_would_x3 (l : Launch) (X : zX) (h a b na nf : Nat → Nat) (o : Nat) (gP gT gA gF : zG) (fo : Nat → Int64) (v1 v2 v3 : Int32) {fr lo : Nat} (hM : CXi l yX5_would wsX5_would fr lo 1 6 X (IW h a b na nf X gP gT gA gF) (.ref (h 0) :: [.int v1, .int v2, .int v3]) xISE) (hR : fr + 1 ≤ 9 ∧ 8 + (4 + 11) + lo ≤ 200) : CE l yL_would wsL_would 9 200 1 6 X (HW h a b na nf o X gP gT gA gF fo) [.ref (h 0), .int v1, .int v2, .int v3, .ref o] 3 (HW h a b na nf o X gP gT gA gF fo) := by
  refine ce_intro (cc := cL_would) (ret := some .int) (maxL := 6) (hh := [(0, 12, 15, 13), (0, 12, 19, 15), (0, 12, 23, 17)]) (by decide +kernel) rfl (Nat.le_of_ble_eq_true rfl) ?_
  intro p e s m args below meth c A Q C hxw hxs hT hQ
  show Z p l e { frames := 9, cells := 1, slots := 6, locals := 200 } s m args below meth c X A 6 Q 0 0 (HW h a b na nf o X gP gT gA gF fo) [(0, .ref (h 0)), (1, .int v1), (2, .int v2), (3, .int v3), (4, .ref o)] 0 []
  refine z_al C dL_would_0 4 rfl ?_
  refine z_ic C dL_would_2 0 (by decide) ?_
  refine z_aln C dL_would_3 0 rfl ?_
  refine z_iln C dL_would_4 1 rfl ?_
  refine z_iln C dL_would_5 2 rfl ?_
  refine z_iln C dL_would_6 3 rfl ?_
  refine z_xci (As := [.int v1, .int v2, .int v3]) (rest := [.int 0, .ref o]) C hxw hxs hM gL_would_X5_would rfl ⟨rfl, by decide, by decide, (by decide : (parseMethodDescriptor yX5_would.desc).map (fun d => d.parameters.length) = some 3)⟩ hR ⟨by decide, by decide⟩ 0 5 rfl rfl [0, 1, 2, 3, 4, 5, 6, 7, 8, 9, 10, 11, 12, 13, 14, 15, 16, 17, 18, 19, 20, 21, 22, 23, 24, 25, 26, 27, 28, 29, 30, 31, 32, 33, 34, 35, 36] [37] [1, 2, 3, 4, 5, 6, 7, 8, 9, 10, 11, 12, 13, 14, 15, 16, 17, 18, 19, 20, 21, 22, 23, 24, 25, 26, 27, 28, 29, 30, 31, 32, 33, 34, 35, 36, 37, 0] rfl rfl (by decide) (by decide) (by decide) (by decide) rfl (Nat.le_of_ble_eq_true rfl) dL_would_7 rfl [⟨0, 12, 15, 13⟩, ⟨0, 12, 19, 15⟩] ⟨0, 12, 23, 17⟩ [] (hT.trans rfl) (fun z hz => by
    simp only [List.mem_cons, List.not_mem_nil, or_false] at hz
    rcases hz with rfl | rfl
    · exact Or.inr ⟨by decide, xIOB, C.ts _ (by decide +kernel), hxw.2.2.1 (xISE, xIOB) (by decide)⟩
    · exact Or.inr ⟨by decide, xIAE, C.ts _ (by decide +kernel), hxw.2.2.1 (xISE, xIAE) (by decide)⟩) (by decide) (by decide) (by decide +kernel) (by decide) (fun q => ?_)
  refine z_as C [(5, .ref q), (0, .ref (h 0)), (1, .int v1), (2, .int v2), (3, .int v3), (4, .ref o)] dL_would_23 (by decide) rfl ?_
  refine z_ic C dL_would_25 3 (by decide) ?_
  exact z_iret C hQ dL_would_26 rfl rfl (by decide) (by decide)
set_option maxHeartbeats 4000000 in
set_option maxRecDepth 100000 in
theorem hL_forecast_ok (l : Launch) (X : zX) (h a b na nf : Nat → Nat) (o : Nat) (gP gT gA gF : zG) (fo : Nat → Int64) (v1 : Int32) (gP1 gT1 gA1 gF1 : zG) (r : Int32) {fr lo : Nat} (hM : CI l yX5_forecast wsX5_forecast fr lo 0 0 X (IW h a b na nf X gP gT gA gF) (.ref (h 0) :: [.int v1]) r (IW h a b na nf X gP1 gT1 gA1 gF1)) (hR : fr + 1 ≤ 9 ∧ 8 + (3 + 11) + lo ≤ 200) : CE l yL_forecast wsL_forecast 9 200 1 6 X (HW h a b na nf o X gP gT gA gF fo) [.ref (h 0), .int v1, .ref o] 0 (HW h a b na nf o X gP1 gT1 gA1 gF1 (vp_updL fo 0 r.toInt64)) := by
  refine ce_intro (cc := cL_forecast) (ret := some .int) (maxL := 4) (hh := [(0, 9, 12, 15), (0, 9, 15, 17)]) (by decide +kernel) rfl (Nat.le_of_ble_eq_true rfl) ?_
  intro p e s m args below meth c A Q C hxw hxs hT hQ
  show Z p l e { frames := 9, cells := 1, slots := 6, locals := 200 } s m args below meth c X A 4 Q 0 0 (HW h a b na nf o X gP gT gA gF fo) [(0, .ref (h 0)), (1, .int v1), (2, .ref o)] 0 []
  refine z_aln C dL_forecast_0 2 rfl ?_
  refine z_ic C dL_forecast_1 0 (by decide) ?_
  refine z_aln C dL_forecast_2 0 rfl ?_
  refine z_iln C dL_forecast_3 1 rfl ?_
  refine z_cVi (As := [.int v1]) (rest := [.int 0, .ref o]) C hM gL_forecast_X5_forecast rfl ⟨rfl, by decide, by decide, (by decide : (parseMethodDescriptor yX5_forecast.desc).map (fun d => d.parameters.length) = some 1)⟩ hR ⟨by decide, by decide⟩ 0 5 rfl rfl [0, 1, 2, 3, 4, 5, 6, 7, 8, 9, 10, 11, 12, 13, 14, 15, 16, 17, 18, 19, 20, 21, 22, 23, 24, 25, 26, 27, 28, 29, 30, 31, 32, 33, 34, 35, 36] [37] [1, 2, 3, 4, 5, 6, 7, 8, 9, 10, 11, 12, 13, 14, 15, 16, 17, 18, 19, 20, 21, 22, 23, 24, 25, 26, 27, 28, 29, 30, 31, 32, 33, 34, 35, 36, 37, 0] rfl rfl (by decide) (by decide) (by decide) (by decide) (HW h a b na nf o X gP1 gT1 gA1 gF1 fo) rfl (Nat.le_of_ble_eq_true rfl) dL_forecast_4 rfl ?_
  refine z_i2l C dL_forecast_7 r.toInt64 rfl ?_
  refine z_last C 37 0 (HW h a b na nf o X gP1 gT1 gA1 gF1 (vp_updL fo 0 r.toInt64)) dL_forecast_8 rfl (by decide) (by decide) (by decide) rfl ?_
  refine z_go C 18 dL_forecast_9 (by decide) ?_
  refine z_ic C dL_forecast_18 0 (by decide) ?_
  exact z_iret C hQ dL_forecast_19 rfl rfl (by decide) (by decide)
set_option maxHeartbeats 4000000 in
set_option maxRecDepth 100000 in
theorem hL_forecast_x1 (l : Launch) (X : zX) (h a b na nf : Nat → Nat) (o : Nat) (gP gT gA gF : zG) (fo : Nat → Int64) (v1 : Int32) {fr lo : Nat} (hM : CXi l yX5_forecast wsX5_forecast fr lo 1 6 X (IW h a b na nf X gP gT gA gF) (.ref (h 0) :: [.int v1]) xIAE) (hR : fr + 1 ≤ 9 ∧ 8 + (3 + 11) + lo ≤ 200) : CE l yL_forecast wsL_forecast 9 200 1 6 X (HW h a b na nf o X gP gT gA gF fo) [.ref (h 0), .int v1, .ref o] 1 (HW h a b na nf o X gP gT gA gF fo) := by
  refine ce_intro (cc := cL_forecast) (ret := some .int) (maxL := 4) (hh := [(0, 9, 12, 15), (0, 9, 15, 17)]) (by decide +kernel) rfl (Nat.le_of_ble_eq_true rfl) ?_
  intro p e s m args below meth c A Q C hxw hxs hT hQ
  show Z p l e { frames := 9, cells := 1, slots := 6, locals := 200 } s m args below meth c X A 4 Q 0 0 (HW h a b na nf o X gP gT gA gF fo) [(0, .ref (h 0)), (1, .int v1), (2, .ref o)] 0 []
  refine z_aln C dL_forecast_0 2 rfl ?_
  refine z_ic C dL_forecast_1 0 (by decide) ?_
  refine z_aln C dL_forecast_2 0 rfl ?_
  refine z_iln C dL_forecast_3 1 rfl ?_
  refine z_xci (As := [.int v1]) (rest := [.int 0, .ref o]) C hxw hxs hM gL_forecast_X5_forecast rfl ⟨rfl, by decide, by decide, (by decide : (parseMethodDescriptor yX5_forecast.desc).map (fun d => d.parameters.length) = some 1)⟩ hR ⟨by decide, by decide⟩ 0 5 rfl rfl [0, 1, 2, 3, 4, 5, 6, 7, 8, 9, 10, 11, 12, 13, 14, 15, 16, 17, 18, 19, 20, 21, 22, 23, 24, 25, 26, 27, 28, 29, 30, 31, 32, 33, 34, 35, 36] [37] [1, 2, 3, 4, 5, 6, 7, 8, 9, 10, 11, 12, 13, 14, 15, 16, 17, 18, 19, 20, 21, 22, 23, 24, 25, 26, 27, 28, 29, 30, 31, 32, 33, 34, 35, 36, 37, 0] rfl rfl (by decide) (by decide) (by decide) (by decide) rfl (Nat.le_of_ble_eq_true rfl) dL_forecast_4 rfl [] ⟨0, 9, 12, 15⟩ [⟨0, 9, 15, 17⟩] (hT.trans rfl) (fun z hz => absurd hz List.not_mem_nil) (by decide) (by decide) (by decide +kernel) (by decide) (fun q => ?_)
  refine z_asn C 3 [(3, .ref q), (0, .ref (h 0)), (1, .int v1), (2, .ref o)] dL_forecast_12 rfl (by decide) rfl ?_
  refine z_ic C dL_forecast_13 1 (by decide) ?_
  exact z_iret C hQ dL_forecast_14 rfl rfl (by decide) (by decide)
set_option maxHeartbeats 4000000 in
set_option maxRecDepth 100000 in
theorem hL_forecast_x2 (l : Launch) (X : zX) (h a b na nf : Nat → Nat) (o : Nat) (gP gT gA gF : zG) (fo : Nat → Int64) (v1 : Int32) {fr lo : Nat} (hM : CXi l yX5_forecast wsX5_forecast fr lo 1 6 X (IW h a b na nf X gP gT gA gF) (.ref (h 0) :: [.int v1]) xISE) (hR : fr + 1 ≤ 9 ∧ 8 + (3 + 11) + lo ≤ 200) : CE l yL_forecast wsL_forecast 9 200 1 6 X (HW h a b na nf o X gP gT gA gF fo) [.ref (h 0), .int v1, .ref o] 2 (HW h a b na nf o X gP gT gA gF fo) := by
  refine ce_intro (cc := cL_forecast) (ret := some .int) (maxL := 4) (hh := [(0, 9, 12, 15), (0, 9, 15, 17)]) (by decide +kernel) rfl (Nat.le_of_ble_eq_true rfl) ?_
  intro p e s m args below meth c A Q C hxw hxs hT hQ
  show Z p l e { frames := 9, cells := 1, slots := 6, locals := 200 } s m args below meth c X A 4 Q 0 0 (HW h a b na nf o X gP gT gA gF fo) [(0, .ref (h 0)), (1, .int v1), (2, .ref o)] 0 []
  refine z_aln C dL_forecast_0 2 rfl ?_
  refine z_ic C dL_forecast_1 0 (by decide) ?_
  refine z_aln C dL_forecast_2 0 rfl ?_
  refine z_iln C dL_forecast_3 1 rfl ?_
  refine z_xci (As := [.int v1]) (rest := [.int 0, .ref o]) C hxw hxs hM gL_forecast_X5_forecast rfl ⟨rfl, by decide, by decide, (by decide : (parseMethodDescriptor yX5_forecast.desc).map (fun d => d.parameters.length) = some 1)⟩ hR ⟨by decide, by decide⟩ 0 5 rfl rfl [0, 1, 2, 3, 4, 5, 6, 7, 8, 9, 10, 11, 12, 13, 14, 15, 16, 17, 18, 19, 20, 21, 22, 23, 24, 25, 26, 27, 28, 29, 30, 31, 32, 33, 34, 35, 36] [37] [1, 2, 3, 4, 5, 6, 7, 8, 9, 10, 11, 12, 13, 14, 15, 16, 17, 18, 19, 20, 21, 22, 23, 24, 25, 26, 27, 28, 29, 30, 31, 32, 33, 34, 35, 36, 37, 0] rfl rfl (by decide) (by decide) (by decide) (by decide) rfl (Nat.le_of_ble_eq_true rfl) dL_forecast_4 rfl [⟨0, 9, 12, 15⟩] ⟨0, 9, 15, 17⟩ [] (hT.trans rfl) (fun z hz => by
    simp only [List.mem_cons, List.not_mem_nil, or_false] at hz
    rcases hz with rfl
    · exact Or.inr ⟨by decide, xIAE, C.ts _ (by decide +kernel), hxw.2.2.1 (xISE, xIAE) (by decide)⟩) (by decide) (by decide) (by decide +kernel) (by decide) (fun q => ?_)
  refine z_asn C 3 [(3, .ref q), (0, .ref (h 0)), (1, .int v1), (2, .ref o)] dL_forecast_15 rfl (by decide) rfl ?_
  refine z_ic C dL_forecast_16 2 (by decide) ?_
  exact z_iret C hQ dL_forecast_17 rfl rfl (by decide) (by decide)
set_option maxHeartbeats 4000000 in
set_option maxRecDepth 100000 in
theorem hL_miss_ok (l : Launch) (X : zX) (h a b na nf : Nat → Nat) (o : Nat) (gP gT gA gF : zG) (fo : Nat → Int64) (v1 : Int32) (gP1 gT1 gA1 gF1 : zG) (r : Int32) {fr lo : Nat} (hM : CI l yX5_miss wsX5_miss fr lo 0 0 X (IW h a b na nf X gP gT gA gF) (.ref (h 0) :: [.int v1]) r (IW h a b na nf X gP1 gT1 gA1 gF1)) (hR : fr + 1 ≤ 9 ∧ 8 + (3 + 11) + lo ≤ 200) : CE l yL_miss wsL_miss 9 200 1 6 X (HW h a b na nf o X gP gT gA gF fo) [.ref (h 0), .int v1, .ref o] 0 (HW h a b na nf o X gP1 gT1 gA1 gF1 (vp_updL fo 0 r.toInt64)) := by
  refine ce_intro (cc := cL_miss) (ret := some .int) (maxL := 4) (hh := [(0, 9, 12, 13)]) (by decide +kernel) rfl (Nat.le_of_ble_eq_true rfl) ?_
  intro p e s m args below meth c A Q C hxw hxs hT hQ
  show Z p l e { frames := 9, cells := 1, slots := 6, locals := 200 } s m args below meth c X A 4 Q 0 0 (HW h a b na nf o X gP gT gA gF fo) [(0, .ref (h 0)), (1, .int v1), (2, .ref o)] 0 []
  refine z_aln C dL_miss_0 2 rfl ?_
  refine z_ic C dL_miss_1 0 (by decide) ?_
  refine z_aln C dL_miss_2 0 rfl ?_
  refine z_iln C dL_miss_3 1 rfl ?_
  refine z_cVi (As := [.int v1]) (rest := [.int 0, .ref o]) C hM gL_miss_X5_miss rfl ⟨rfl, by decide, by decide, (by decide : (parseMethodDescriptor yX5_miss.desc).map (fun d => d.parameters.length) = some 1)⟩ hR ⟨by decide, by decide⟩ 0 5 rfl rfl [0, 1, 2, 3, 4, 5, 6, 7, 8, 9, 10, 11, 12, 13, 14, 15, 16, 17, 18, 19, 20, 21, 22, 23, 24, 25, 26, 27, 28, 29, 30, 31, 32, 33, 34, 35, 36] [37] [1, 2, 3, 4, 5, 6, 7, 8, 9, 10, 11, 12, 13, 14, 15, 16, 17, 18, 19, 20, 21, 22, 23, 24, 25, 26, 27, 28, 29, 30, 31, 32, 33, 34, 35, 36, 37, 0] rfl rfl (by decide) (by decide) (by decide) (by decide) (HW h a b na nf o X gP1 gT1 gA1 gF1 fo) rfl (Nat.le_of_ble_eq_true rfl) dL_miss_4 rfl ?_
  refine z_i2l C dL_miss_7 r.toInt64 rfl ?_
  refine z_last C 37 0 (HW h a b na nf o X gP1 gT1 gA1 gF1 (vp_updL fo 0 r.toInt64)) dL_miss_8 rfl (by decide) (by decide) (by decide) rfl ?_
  refine z_go C 15 dL_miss_9 (by decide) ?_
  refine z_ic C dL_miss_15 0 (by decide) ?_
  exact z_iret C hQ dL_miss_16 rfl rfl (by decide) (by decide)
set_option maxHeartbeats 4000000 in
set_option maxRecDepth 100000 in
theorem hL_miss_x1 (l : Launch) (X : zX) (h a b na nf : Nat → Nat) (o : Nat) (gP gT gA gF : zG) (fo : Nat → Int64) (v1 : Int32) {fr lo : Nat} (hM : CXi l yX5_miss wsX5_miss fr lo 1 6 X (IW h a b na nf X gP gT gA gF) (.ref (h 0) :: [.int v1]) xIOB) (hR : fr + 1 ≤ 9 ∧ 8 + (3 + 11) + lo ≤ 200) : CE l yL_miss wsL_miss 9 200 1 6 X (HW h a b na nf o X gP gT gA gF fo) [.ref (h 0), .int v1, .ref o] 1 (HW h a b na nf o X gP gT gA gF fo) := by
  refine ce_intro (cc := cL_miss) (ret := some .int) (maxL := 4) (hh := [(0, 9, 12, 13)]) (by decide +kernel) rfl (Nat.le_of_ble_eq_true rfl) ?_
  intro p e s m args below meth c A Q C hxw hxs hT hQ
  show Z p l e { frames := 9, cells := 1, slots := 6, locals := 200 } s m args below meth c X A 4 Q 0 0 (HW h a b na nf o X gP gT gA gF fo) [(0, .ref (h 0)), (1, .int v1), (2, .ref o)] 0 []
  refine z_aln C dL_miss_0 2 rfl ?_
  refine z_ic C dL_miss_1 0 (by decide) ?_
  refine z_aln C dL_miss_2 0 rfl ?_
  refine z_iln C dL_miss_3 1 rfl ?_
  refine z_xci (As := [.int v1]) (rest := [.int 0, .ref o]) C hxw hxs hM gL_miss_X5_miss rfl ⟨rfl, by decide, by decide, (by decide : (parseMethodDescriptor yX5_miss.desc).map (fun d => d.parameters.length) = some 1)⟩ hR ⟨by decide, by decide⟩ 0 5 rfl rfl [0, 1, 2, 3, 4, 5, 6, 7, 8, 9, 10, 11, 12, 13, 14, 15, 16, 17, 18, 19, 20, 21, 22, 23, 24, 25, 26, 27, 28, 29, 30, 31, 32, 33, 34, 35, 36] [37] [1, 2, 3, 4, 5, 6, 7, 8, 9, 10, 11, 12, 13, 14, 15, 16, 17, 18, 19, 20, 21, 22, 23, 24, 25, 26, 27, 28, 29, 30, 31, 32, 33, 34, 35, 36, 37, 0] rfl rfl (by decide) (by decide) (by decide) (by decide) rfl (Nat.le_of_ble_eq_true rfl) dL_miss_4 rfl [] ⟨0, 9, 12, 13⟩ [] (hT.trans rfl) (fun z hz => absurd hz List.not_mem_nil) (by decide) (by decide) (by decide +kernel) (by decide) (fun q => ?_)
  refine z_asn C 3 [(3, .ref q), (0, .ref (h 0)), (1, .int v1), (2, .ref o)] dL_miss_12 rfl (by decide) rfl ?_
  refine z_ic C dL_miss_13 1 (by decide) ?_
  exact z_iret C hQ dL_miss_14 rfl rfl (by decide) (by decide)
