set_option maxHeartbeats 4000000 in
set_option maxRecDepth 100000 in
theorem hD_land (l : Launch) (X : zX) (h a b na nf : Nat → Nat) (gP gT gA gF : zG) (v1 v2 : Int32) {gP1 gT1 gA1 gF1 : zG} {r : Int32} {fr lo : Nat} (hM : CI l yX5_land wsX5_land fr lo 0 0 X (IW h a b na nf X gP gT gA gF) (.ref (h 0) :: [.int v1, .int v2]) r (IW h a b na nf X gP1 gT1 gA1 gF1)) (hR : fr + 1 ≤ 9 ∧ 8 + (4 + 11) + lo ≤ 200) : CE l yL_does wsL_does 9 200 0 0 X (IW h a b na nf X gP gT gA gF) [.ref (h 0), .int 0, .int v1, .int v2] r (IW h a b na nf X gP1 gT1 gA1 gF1) := by
  refine ce_intro (cc := cL_does) (ret := some .int) (maxL := 5) (hh := [(0, 173, 174, 51), (0, 173, 179, 54), (0, 173, 184, 57)]) (by decide +kernel) rfl (Nat.le_of_ble_eq_true rfl) ?_
  intro p e s m args below meth c A Q C hxw hxs hT hQ
  show Z p l e { frames := 9, cells := 0, slots := 0, locals := 200 } s m args below meth c X A 5 Q 0 0 (IW h a b na nf X gP gT gA gF) [(0, .ref (h 0)), (1, .int 0), (2, .int v1), (3, .int v2)] 0 []
  refine z_iln C dL_does_0 1 rfl ?_
  refine z_if_ne C 13 dL_does_1 (by decide) (fun q => absurd rfl q) (fun _ => ?_)
  refine z_aln C dL_does_4 0 rfl ?_
  refine z_iln C dL_does_5 2 rfl ?_
  refine z_iln C dL_does_6 3 rfl ?_
  refine z_cVi0 (As := [.int v1, .int v2]) (rest := []) C hM gL_does_X5_land rfl ⟨rfl, by decide, by decide, (by decide : (parseMethodDescriptor yX5_land.desc).map (fun d => d.parameters.length) = some 2)⟩ hR ⟨by decide, by decide⟩ 0 5 rfl rfl (Nat.le_of_ble_eq_true rfl) dL_does_7 rfl ?_
  refine z_go C 173 dL_does_10 (by decide) ?_
  exact z_iret C hQ dL_does_173 rfl rfl (by decide) (by decide)
set_option maxHeartbeats 4000000 in
set_option maxRecDepth 100000 in
theorem hD_sea (l : Launch) (X : zX) (h a b na nf : Nat → Nat) (gP gT gA gF : zG) (v1 v2 : Int32) {gP1 gT1 gA1 gF1 : zG} {r : Int32} {fr lo : Nat} (hM : CI l yX5_sea wsX5_sea fr lo 0 0 X (IW h a b na nf X gP gT gA gF) (.ref (h 0) :: [.int v1]) r (IW h a b na nf X gP1 gT1 gA1 gF1)) (hR : fr + 1 ≤ 9 ∧ 8 + (3 + 11) + lo ≤ 200) : CE l yL_does wsL_does 9 200 0 0 X (IW h a b na nf X gP gT gA gF) [.ref (h 0), .int 1, .int v1, .int v2] r (IW h a b na nf X gP1 gT1 gA1 gF1) := by
  refine ce_intro (cc := cL_does) (ret := some .int) (maxL := 5) (hh := [(0, 173, 174, 51), (0, 173, 179, 54), (0, 173, 184, 57)]) (by decide +kernel) rfl (Nat.le_of_ble_eq_true rfl) ?_
  intro p e s m args below meth c A Q C hxw hxs hT hQ
  show Z p l e { frames := 9, cells := 0, slots := 0, locals := 200 } s m args below meth c X A 5 Q 0 0 (IW h a b na nf X gP gT gA gF) [(0, .ref (h 0)), (1, .int 1), (2, .int v1), (3, .int v2)] 0 []
  refine z_iln C dL_does_0 1 rfl ?_
  refine z_if_ne C 13 dL_does_1 (by decide) (fun _ => ?_) (fun q => absurd q (by decide))
  refine z_iln C dL_does_13 1 rfl ?_
  refine z_ic C dL_does_14 1 (by decide) ?_
  refine z_ic_ne C 26 dL_does_15 (by decide) (fun q => absurd rfl q) (fun _ => ?_)
  refine z_aln C dL_does_18 0 rfl ?_
  refine z_iln C dL_does_19 2 rfl ?_
  refine z_cVi0 (As := [.int v1]) (rest := []) C hM gL_does_X5_sea rfl ⟨rfl, by decide, by decide, (by decide : (parseMethodDescriptor yX5_sea.desc).map (fun d => d.parameters.length) = some 1)⟩ hR ⟨by decide, by decide⟩ 0 5 rfl rfl (Nat.le_of_ble_eq_true rfl) dL_does_20 rfl ?_
  refine z_go C 173 dL_does_23 (by decide) ?_
  exact z_iret C hQ dL_does_173 rfl rfl (by decide) (by decide)
set_option maxHeartbeats 4000000 in
set_option maxRecDepth 100000 in
theorem hD_ice (l : Launch) (X : zX) (h a b na nf : Nat → Nat) (gP gT gA gF : zG) (v1 v2 : Int32) {gP1 gT1 gA1 gF1 : zG} {r : Int32} {fr lo : Nat} (hM : CI l yX5_ice wsX5_ice fr lo 0 0 X (IW h a b na nf X gP gT gA gF) (.ref (h 0) :: [.int v1, .int v2]) r (IW h a b na nf X gP1 gT1 gA1 gF1)) (hR : fr + 1 ≤ 9 ∧ 8 + (3 + 11) + lo ≤ 200) : CE l yL_does wsL_does 9 200 0 0 X (IW h a b na nf X gP gT gA gF) [.ref (h 0), .int 2, .int v1, .int v2] r (IW h a b na nf X gP1 gT1 gA1 gF1) := by
  refine ce_intro (cc := cL_does) (ret := some .int) (maxL := 5) (hh := [(0, 173, 174, 51), (0, 173, 179, 54), (0, 173, 184, 57)]) (by decide +kernel) rfl (Nat.le_of_ble_eq_true rfl) ?_
  intro p e s m args below meth c A Q C hxw hxs hT hQ
  show Z p l e { frames := 9, cells := 0, slots := 0, locals := 200 } s m args below meth c X A 5 Q 0 0 (IW h a b na nf X gP gT gA gF) [(0, .ref (h 0)), (1, .int 2), (2, .int v1), (3, .int v2)] 0 []
  refine z_iln C dL_does_0 1 rfl ?_
  refine z_if_ne C 13 dL_does_1 (by decide) (fun _ => ?_) (fun q => absurd q (by decide))
  refine z_iln C dL_does_13 1 rfl ?_
  refine z_ic C dL_does_14 1 (by decide) ?_
  refine z_ic_ne C 26 dL_does_15 (by decide) (fun _ => ?_) (fun q => absurd q (by decide))
  refine z_iln C dL_does_26 1 rfl ?_
  refine z_ic C dL_does_27 2 (by decide) ?_
  refine z_ic_ne C 40 dL_does_28 (by decide) (fun q => absurd rfl q) (fun _ => ?_)
  refine z_aln C dL_does_31 0 rfl ?_
  refine z_iln C dL_does_32 2 rfl ?_
  refine z_iln C dL_does_33 3 rfl ?_
  refine z_cVi0 (As := [.int v1, .int v2]) (rest := []) C hM gL_does_X5_ice rfl ⟨rfl, by decide, by decide, (by decide : (parseMethodDescriptor yX5_ice.desc).map (fun d => d.parameters.length) = some 2)⟩ hR ⟨by decide, by decide⟩ 0 5 rfl rfl (Nat.le_of_ble_eq_true rfl) dL_does_34 rfl ?_
  refine z_go C 173 dL_does_37 (by decide) ?_
  exact z_iret C hQ dL_does_173 rfl rfl (by decide) (by decide)
set_option maxHeartbeats 4000000 in
set_option maxRecDepth 100000 in
theorem hD_pass (l : Launch) (X : zX) (h a b na nf : Nat → Nat) (gP gT gA gF : zG) (v1 v2 : Int32) {gP1 gT1 gA1 gF1 : zG} {r : Int32} {fr lo : Nat} (hM : CI l yX5_pass wsX5_pass fr lo 0 0 X (IW h a b na nf X gP gT gA gF) (.ref (h 0) :: [.int v1]) r (IW h a b na nf X gP1 gT1 gA1 gF1)) (hR : fr + 1 ≤ 9 ∧ 8 + (3 + 11) + lo ≤ 200) : CE l yL_does wsL_does 9 200 0 0 X (IW h a b na nf X gP gT gA gF) [.ref (h 0), .int 3, .int v1, .int v2] r (IW h a b na nf X gP1 gT1 gA1 gF1) := by
  refine ce_intro (cc := cL_does) (ret := some .int) (maxL := 5) (hh := [(0, 173, 174, 51), (0, 173, 179, 54), (0, 173, 184, 57)]) (by decide +kernel) rfl (Nat.le_of_ble_eq_true rfl) ?_
  intro p e s m args below meth c A Q C hxw hxs hT hQ
  show Z p l e { frames := 9, cells := 0, slots := 0, locals := 200 } s m args below meth c X A 5 Q 0 0 (IW h a b na nf X gP gT gA gF) [(0, .ref (h 0)), (1, .int 3), (2, .int v1), (3, .int v2)] 0 []
  refine z_iln C dL_does_0 1 rfl ?_
  refine z_if_ne C 13 dL_does_1 (by decide) (fun _ => ?_) (fun q => absurd q (by decide))
  refine z_iln C dL_does_13 1 rfl ?_
  refine z_ic C dL_does_14 1 (by decide) ?_
  refine z_ic_ne C 26 dL_does_15 (by decide) (fun _ => ?_) (fun q => absurd q (by decide))
  refine z_iln C dL_does_26 1 rfl ?_
  refine z_ic C dL_does_27 2 (by decide) ?_
  refine z_ic_ne C 40 dL_does_28 (by decide) (fun _ => ?_) (fun q => absurd q (by decide))
  refine z_iln C dL_does_40 1 rfl ?_
  refine z_ic C dL_does_41 3 (by decide) ?_
  refine z_ic_ne C 53 dL_does_42 (by decide) (fun q => absurd rfl q) (fun _ => ?_)
  refine z_aln C dL_does_45 0 rfl ?_
  refine z_iln C dL_does_46 2 rfl ?_
  refine z_cVi0 (As := [.int v1]) (rest := []) C hM gL_does_X5_pass rfl ⟨rfl, by decide, by decide, (by decide : (parseMethodDescriptor yX5_pass.desc).map (fun d => d.parameters.length) = some 1)⟩ hR ⟨by decide, by decide⟩ 0 5 rfl rfl (Nat.le_of_ble_eq_true rfl) dL_does_47 rfl ?_
  refine z_go C 173 dL_does_50 (by decide) ?_
  exact z_iret C hQ dL_does_173 rfl rfl (by decide) (by decide)
set_option maxHeartbeats 4000000 in
set_option maxRecDepth 100000 in
theorem hD_cellIs (l : Launch) (X : zX) (h a b na nf : Nat → Nat) (gP gT gA gF : zG) (v1 v2 : Int32) {gP1 gT1 gA1 gF1 : zG} {r : Int32} {fr lo : Nat} (hM : CI l yX5_cellIs wsX5_cellIs fr lo 0 0 X (IW h a b na nf X gP gT gA gF) (.ref (h 0) :: [.int v1, .int v2]) r (IW h a b na nf X gP1 gT1 gA1 gF1)) (hR : fr + 1 ≤ 9 ∧ 8 + (3 + 11) + lo ≤ 200) : CE l yL_does wsL_does 9 200 0 0 X (IW h a b na nf X gP gT gA gF) [.ref (h 0), .int 4, .int v1, .int v2] r (IW h a b na nf X gP1 gT1 gA1 gF1) := by
  refine ce_intro (cc := cL_does) (ret := some .int) (maxL := 5) (hh := [(0, 173, 174, 51), (0, 173, 179, 54), (0, 173, 184, 57)]) (by decide +kernel) rfl (Nat.le_of_ble_eq_true rfl) ?_
  intro p e s m args below meth c A Q C hxw hxs hT hQ
  show Z p l e { frames := 9, cells := 0, slots := 0, locals := 200 } s m args below meth c X A 5 Q 0 0 (IW h a b na nf X gP gT gA gF) [(0, .ref (h 0)), (1, .int 4), (2, .int v1), (3, .int v2)] 0 []
  refine z_iln C dL_does_0 1 rfl ?_
  refine z_if_ne C 13 dL_does_1 (by decide) (fun _ => ?_) (fun q => absurd q (by decide))
  refine z_iln C dL_does_13 1 rfl ?_
  refine z_ic C dL_does_14 1 (by decide) ?_
  refine z_ic_ne C 26 dL_does_15 (by decide) (fun _ => ?_) (fun q => absurd q (by decide))
  refine z_iln C dL_does_26 1 rfl ?_
  refine z_ic C dL_does_27 2 (by decide) ?_
  refine z_ic_ne C 40 dL_does_28 (by decide) (fun _ => ?_) (fun q => absurd q (by decide))
  refine z_iln C dL_does_40 1 rfl ?_
  refine z_ic C dL_does_41 3 (by decide) ?_
  refine z_ic_ne C 53 dL_does_42 (by decide) (fun _ => ?_) (fun q => absurd q (by decide))
  refine z_iln C dL_does_53 1 rfl ?_
  refine z_ic C dL_does_54 4 (by decide) ?_
  refine z_ic_ne C 67 dL_does_55 (by decide) (fun q => absurd rfl q) (fun _ => ?_)
  refine z_aln C dL_does_58 0 rfl ?_
  refine z_iln C dL_does_59 2 rfl ?_
  refine z_iln C dL_does_60 3 rfl ?_
  refine z_cVi0 (As := [.int v1, .int v2]) (rest := []) C hM gL_does_X5_cellIs rfl ⟨rfl, by decide, by decide, (by decide : (parseMethodDescriptor yX5_cellIs.desc).map (fun d => d.parameters.length) = some 2)⟩ hR ⟨by decide, by decide⟩ 0 5 rfl rfl (Nat.le_of_ble_eq_true rfl) dL_does_61 rfl ?_
  refine z_go C 173 dL_does_64 (by decide) ?_
  exact z_iret C hQ dL_does_173 rfl rfl (by decide) (by decide)
set_option maxHeartbeats 4000000 in
set_option maxRecDepth 100000 in
theorem hD_layer (l : Launch) (X : zX) (h a b na nf : Nat → Nat) (gP gT gA gF : zG) (v1 v2 : Int32) {gP1 gT1 gA1 gF1 : zG} {r : Int32} {fr lo : Nat} (hM : CI l yX5_layer wsX5_layer fr lo 0 0 X (IW h a b na nf X gP gT gA gF) (.ref (h 0) :: [.int v1, .int v2]) r (IW h a b na nf X gP1 gT1 gA1 gF1)) (hR : fr + 1 ≤ 9 ∧ 8 + (3 + 11) + lo ≤ 200) : CE l yL_does wsL_does 9 200 0 0 X (IW h a b na nf X gP gT gA gF) [.ref (h 0), .int 5, .int v1, .int v2] r (IW h a b na nf X gP1 gT1 gA1 gF1) := by
  refine ce_intro (cc := cL_does) (ret := some .int) (maxL := 5) (hh := [(0, 173, 174, 51), (0, 173, 179, 54), (0, 173, 184, 57)]) (by decide +kernel) rfl (Nat.le_of_ble_eq_true rfl) ?_
  intro p e s m args below meth c A Q C hxw hxs hT hQ
  show Z p l e { frames := 9, cells := 0, slots := 0, locals := 200 } s m args below meth c X A 5 Q 0 0 (IW h a b na nf X gP gT gA gF) [(0, .ref (h 0)), (1, .int 5), (2, .int v1), (3, .int v2)] 0 []
  refine z_iln C dL_does_0 1 rfl ?_
  refine z_if_ne C 13 dL_does_1 (by decide) (fun _ => ?_) (fun q => absurd q (by decide))
  refine z_iln C dL_does_13 1 rfl ?_
  refine z_ic C dL_does_14 1 (by decide) ?_
  refine z_ic_ne C 26 dL_does_15 (by decide) (fun _ => ?_) (fun q => absurd q (by decide))
  refine z_iln C dL_does_26 1 rfl ?_
  refine z_ic C dL_does_27 2 (by decide) ?_
  refine z_ic_ne C 40 dL_does_28 (by decide) (fun _ => ?_) (fun q => absurd q (by decide))
  refine z_iln C dL_does_40 1 rfl ?_
  refine z_ic C dL_does_41 3 (by decide) ?_
  refine z_ic_ne C 53 dL_does_42 (by decide) (fun _ => ?_) (fun q => absurd q (by decide))
  refine z_iln C dL_does_53 1 rfl ?_
  refine z_ic C dL_does_54 4 (by decide) ?_
  refine z_ic_ne C 67 dL_does_55 (by decide) (fun _ => ?_) (fun q => absurd q (by decide))
  refine z_iln C dL_does_67 1 rfl ?_
  refine z_ic C dL_does_68 5 (by decide) ?_
  refine z_ic_ne C 81 dL_does_69 (by decide) (fun q => absurd rfl q) (fun _ => ?_)
  refine z_aln C dL_does_72 0 rfl ?_
  refine z_iln C dL_does_73 2 rfl ?_
  refine z_iln C dL_does_74 3 rfl ?_
  refine z_cVi0 (As := [.int v1, .int v2]) (rest := []) C hM gL_does_X5_layer rfl ⟨rfl, by decide, by decide, (by decide : (parseMethodDescriptor yX5_layer.desc).map (fun d => d.parameters.length) = some 2)⟩ hR ⟨by decide, by decide⟩ 0 5 rfl rfl (Nat.le_of_ble_eq_true rfl) dL_does_75 rfl ?_
  refine z_go C 173 dL_does_78 (by decide) ?_
  exact z_iret C hQ dL_does_173 rfl rfl (by decide) (by decide)
set_option maxHeartbeats 4000000 in
set_option maxRecDepth 100000 in
theorem hD_common (l : Launch) (X : zX) (h a b na nf : Nat → Nat) (gP gT gA gF : zG) (v1 v2 : Int32) {gP1 gT1 gA1 gF1 : zG} {r : Int32} {fr lo : Nat} (hM : CI l yX5_common wsX5_common fr lo 0 0 X (IW h a b na nf X gP gT gA gF) (.ref (h 0) :: [.int v1, .int v2]) r (IW h a b na nf X gP1 gT1 gA1 gF1)) (hR : fr + 1 ≤ 9 ∧ 8 + (5 + 11) + lo ≤ 200) : CE l yL_does wsL_does 9 200 0 0 X (IW h a b na nf X gP gT gA gF) [.ref (h 0), .int 7, .int v1, .int v2] r (IW h a b na nf X gP1 gT1 gA1 gF1) := by
  refine ce_intro (cc := cL_does) (ret := some .int) (maxL := 5) (hh := [(0, 173, 174, 51), (0, 173, 179, 54), (0, 173, 184, 57)]) (by decide +kernel) rfl (Nat.le_of_ble_eq_true rfl) ?_
  intro p e s m args below meth c A Q C hxw hxs hT hQ
  show Z p l e { frames := 9, cells := 0, slots := 0, locals := 200 } s m args below meth c X A 5 Q 0 0 (IW h a b na nf X gP gT gA gF) [(0, .ref (h 0)), (1, .int 7), (2, .int v1), (3, .int v2)] 0 []
  refine z_iln C dL_does_0 1 rfl ?_
  refine z_if_ne C 13 dL_does_1 (by decide) (fun _ => ?_) (fun q => absurd q (by decide))
  refine z_iln C dL_does_13 1 rfl ?_
  refine z_ic C dL_does_14 1 (by decide) ?_
  refine z_ic_ne C 26 dL_does_15 (by decide) (fun _ => ?_) (fun q => absurd q (by decide))
  refine z_iln C dL_does_26 1 rfl ?_
  refine z_ic C dL_does_27 2 (by decide) ?_
  refine z_ic_ne C 40 dL_does_28 (by decide) (fun _ => ?_) (fun q => absurd q (by decide))
  refine z_iln C dL_does_40 1 rfl ?_
  refine z_ic C dL_does_41 3 (by decide) ?_
  refine z_ic_ne C 53 dL_does_42 (by decide) (fun _ => ?_) (fun q => absurd q (by decide))
  refine z_iln C dL_does_53 1 rfl ?_
  refine z_ic C dL_does_54 4 (by decide) ?_
  refine z_ic_ne C 67 dL_does_55 (by decide) (fun _ => ?_) (fun q => absurd q (by decide))
  refine z_iln C dL_does_67 1 rfl ?_
  refine z_ic C dL_does_68 5 (by decide) ?_
  refine z_ic_ne C 81 dL_does_69 (by decide) (fun _ => ?_) (fun q => absurd q (by decide))
  refine z_iln C dL_does_81 1 rfl ?_
  refine z_bp C dL_does_82 6 (by decide) ?_
  refine z_ic_ne C 96 dL_does_84 (by decide) (fun _ => ?_) (fun q => absurd q (by decide))
  refine z_iln C dL_does_96 1 rfl ?_
  refine z_bp C dL_does_97 7 (by decide) ?_
  refine z_ic_ne C 111 dL_does_99 (by decide) (fun q => absurd rfl q) (fun _ => ?_)
  refine z_aln C dL_does_102 0 rfl ?_
  refine z_iln C dL_does_103 2 rfl ?_
  refine z_iln C dL_does_104 3 rfl ?_
  refine z_cVi0 (As := [.int v1, .int v2]) (rest := []) C hM gL_does_X5_common rfl ⟨rfl, by decide, by decide, (by decide : (parseMethodDescriptor yX5_common.desc).map (fun d => d.parameters.length) = some 2)⟩ hR ⟨by decide, by decide⟩ 0 5 rfl rfl (Nat.le_of_ble_eq_true rfl) dL_does_105 rfl ?_
  refine z_go C 173 dL_does_108 (by decide) ?_
  exact z_iret C hQ dL_does_173 rfl rfl (by decide) (by decide)
set_option maxHeartbeats 4000000 in
set_option maxRecDepth 100000 in
theorem hD_flood (l : Launch) (X : zX) (h a b na nf : Nat → Nat) (gP gT gA gF : zG) (v1 v2 : Int32) {gP1 gT1 gA1 gF1 : zG} {r : Int32} {fr lo : Nat} (hM : CI l yX5_flood wsX5_flood fr lo 0 0 X (IW h a b na nf X gP gT gA gF) (.ref (h 0) :: [.int v1, .int v2]) r (IW h a b na nf X gP1 gT1 gA1 gF1)) (hR : fr + 1 ≤ 9 ∧ 8 + (3 + 11) + lo ≤ 200) : CE l yL_does wsL_does 9 200 0 0 X (IW h a b na nf X gP gT gA gF) [.ref (h 0), .int 8, .int v1, .int v2] r (IW h a b na nf X gP1 gT1 gA1 gF1) := by
  refine ce_intro (cc := cL_does) (ret := some .int) (maxL := 5) (hh := [(0, 173, 174, 51), (0, 173, 179, 54), (0, 173, 184, 57)]) (by decide +kernel) rfl (Nat.le_of_ble_eq_true rfl) ?_
  intro p e s m args below meth c A Q C hxw hxs hT hQ
  show Z p l e { frames := 9, cells := 0, slots := 0, locals := 200 } s m args below meth c X A 5 Q 0 0 (IW h a b na nf X gP gT gA gF) [(0, .ref (h 0)), (1, .int 8), (2, .int v1), (3, .int v2)] 0 []
  refine z_iln C dL_does_0 1 rfl ?_
  refine z_if_ne C 13 dL_does_1 (by decide) (fun _ => ?_) (fun q => absurd q (by decide))
  refine z_iln C dL_does_13 1 rfl ?_
  refine z_ic C dL_does_14 1 (by decide) ?_
  refine z_ic_ne C 26 dL_does_15 (by decide) (fun _ => ?_) (fun q => absurd q (by decide))
  refine z_iln C dL_does_26 1 rfl ?_
  refine z_ic C dL_does_27 2 (by decide) ?_
  refine z_ic_ne C 40 dL_does_28 (by decide) (fun _ => ?_) (fun q => absurd q (by decide))
  refine z_iln C dL_does_40 1 rfl ?_
  refine z_ic C dL_does_41 3 (by decide) ?_
  refine z_ic_ne C 53 dL_does_42 (by decide) (fun _ => ?_) (fun q => absurd q (by decide))
  refine z_iln C dL_does_53 1 rfl ?_
  refine z_ic C dL_does_54 4 (by decide) ?_
  refine z_ic_ne C 67 dL_does_55 (by decide) (fun _ => ?_) (fun q => absurd q (by decide))
  refine z_iln C dL_does_67 1 rfl ?_
  refine z_ic C dL_does_68 5 (by decide) ?_
  refine z_ic_ne C 81 dL_does_69 (by decide) (fun _ => ?_) (fun q => absurd q (by decide))
  refine z_iln C dL_does_81 1 rfl ?_
  refine z_bp C dL_does_82 6 (by decide) ?_
  refine z_ic_ne C 96 dL_does_84 (by decide) (fun _ => ?_) (fun q => absurd q (by decide))
  refine z_iln C dL_does_96 1 rfl ?_
  refine z_bp C dL_does_97 7 (by decide) ?_
  refine z_ic_ne C 111 dL_does_99 (by decide) (fun _ => ?_) (fun q => absurd q (by decide))
  refine z_iln C dL_does_111 1 rfl ?_
  refine z_bp C dL_does_112 8 (by decide) ?_
  refine z_ic_ne C 126 dL_does_114 (by decide) (fun q => absurd rfl q) (fun _ => ?_)
  refine z_aln C dL_does_117 0 rfl ?_
  refine z_iln C dL_does_118 2 rfl ?_
  refine z_iln C dL_does_119 3 rfl ?_
  refine z_cVi0 (As := [.int v1, .int v2]) (rest := []) C hM gL_does_X5_flood rfl ⟨rfl, by decide, by decide, (by decide : (parseMethodDescriptor yX5_flood.desc).map (fun d => d.parameters.length) = some 2)⟩ hR ⟨by decide, by decide⟩ 0 5 rfl rfl (Nat.le_of_ble_eq_true rfl) dL_does_120 rfl ?_
  refine z_go C 173 dL_does_123 (by decide) ?_
  exact z_iret C hQ dL_does_173 rfl rfl (by decide) (by decide)
set_option maxHeartbeats 4000000 in
set_option maxRecDepth 100000 in
theorem hD_front (l : Launch) (X : zX) (h a b na nf : Nat → Nat) (gP gT gA gF : zG) (v1 v2 : Int32) {gP1 gT1 gA1 gF1 : zG} {r : Int32} {fr lo : Nat} (hM : CI l yX5_front wsX5_front fr lo 0 0 X (IW h a b na nf X gP gT gA gF) (.ref (h 0) :: [.int v1]) r (IW h a b na nf X gP1 gT1 gA1 gF1)) (hR : fr + 1 ≤ 9 ∧ 8 + (2 + 11) + lo ≤ 200) : CE l yL_does wsL_does 9 200 0 0 X (IW h a b na nf X gP gT gA gF) [.ref (h 0), .int 9, .int v1, .int v2] r (IW h a b na nf X gP1 gT1 gA1 gF1) := by
  refine ce_intro (cc := cL_does) (ret := some .int) (maxL := 5) (hh := [(0, 173, 174, 51), (0, 173, 179, 54), (0, 173, 184, 57)]) (by decide +kernel) rfl (Nat.le_of_ble_eq_true rfl) ?_
  intro p e s m args below meth c A Q C hxw hxs hT hQ
  show Z p l e { frames := 9, cells := 0, slots := 0, locals := 200 } s m args below meth c X A 5 Q 0 0 (IW h a b na nf X gP gT gA gF) [(0, .ref (h 0)), (1, .int 9), (2, .int v1), (3, .int v2)] 0 []
  refine z_iln C dL_does_0 1 rfl ?_
  refine z_if_ne C 13 dL_does_1 (by decide) (fun _ => ?_) (fun q => absurd q (by decide))
  refine z_iln C dL_does_13 1 rfl ?_
  refine z_ic C dL_does_14 1 (by decide) ?_
  refine z_ic_ne C 26 dL_does_15 (by decide) (fun _ => ?_) (fun q => absurd q (by decide))
  refine z_iln C dL_does_26 1 rfl ?_
  refine z_ic C dL_does_27 2 (by decide) ?_
  refine z_ic_ne C 40 dL_does_28 (by decide) (fun _ => ?_) (fun q => absurd q (by decide))
  refine z_iln C dL_does_40 1 rfl ?_
  refine z_ic C dL_does_41 3 (by decide) ?_
  refine z_ic_ne C 53 dL_does_42 (by decide) (fun _ => ?_) (fun q => absurd q (by decide))
  refine z_iln C dL_does_53 1 rfl ?_
  refine z_ic C dL_does_54 4 (by decide) ?_
  refine z_ic_ne C 67 dL_does_55 (by decide) (fun _ => ?_) (fun q => absurd q (by decide))
  refine z_iln C dL_does_67 1 rfl ?_
  refine z_ic C dL_does_68 5 (by decide) ?_
  refine z_ic_ne C 81 dL_does_69 (by decide) (fun _ => ?_) (fun q => absurd q (by decide))
  refine z_iln C dL_does_81 1 rfl ?_
  refine z_bp C dL_does_82 6 (by decide) ?_
  refine z_ic_ne C 96 dL_does_84 (by decide) (fun _ => ?_) (fun q => absurd q (by decide))
  refine z_iln C dL_does_96 1 rfl ?_
  refine z_bp C dL_does_97 7 (by decide) ?_
  refine z_ic_ne C 111 dL_does_99 (by decide) (fun _ => ?_) (fun q => absurd q (by decide))
  refine z_iln C dL_does_111 1 rfl ?_
  refine z_bp C dL_does_112 8 (by decide) ?_
  refine z_ic_ne C 126 dL_does_114 (by decide) (fun _ => ?_) (fun q => absurd q (by decide))
  refine z_iln C dL_does_126 1 rfl ?_
  refine z_bp C dL_does_127 9 (by decide) ?_
  refine z_ic_ne C 140 dL_does_129 (by decide) (fun q => absurd rfl q) (fun _ => ?_)
  refine z_aln C dL_does_132 0 rfl ?_
  refine z_iln C dL_does_133 2 rfl ?_
  refine z_cVi0 (As := [.int v1]) (rest := []) C hM gL_does_X5_front rfl ⟨rfl, by decide, by decide, (by decide : (parseMethodDescriptor yX5_front.desc).map (fun d => d.parameters.length) = some 1)⟩ hR ⟨by decide, by decide⟩ 0 5 rfl rfl (Nat.le_of_ble_eq_true rfl) dL_does_134 rfl ?_
  refine z_go C 173 dL_does_137 (by decide) ?_
  exact z_iret C hQ dL_does_173 rfl rfl (by decide) (by decide)
set_option maxHeartbeats 4000000 in
set_option maxRecDepth 100000 in
theorem hD_total (l : Launch) (X : zX) (h a b na nf : Nat → Nat) (gP gT gA gF : zG) (v1 v2 : Int32) {gP1 gT1 gA1 gF1 : zG} {r : Int32} {fr lo : Nat} (hM : CI l yX5_total wsX5_total fr lo 0 0 X (IW h a b na nf X gP gT gA gF) (.ref (h 0) :: [.int v1]) r (IW h a b na nf X gP1 gT1 gA1 gF1)) (hR : fr + 1 ≤ 9 ∧ 8 + (2 + 11) + lo ≤ 200) : CE l yL_does wsL_does 9 200 0 0 X (IW h a b na nf X gP gT gA gF) [.ref (h 0), .int 10, .int v1, .int v2] r (IW h a b na nf X gP1 gT1 gA1 gF1) := by
  refine ce_intro (cc := cL_does) (ret := some .int) (maxL := 5) (hh := [(0, 173, 174, 51), (0, 173, 179, 54), (0, 173, 184, 57)]) (by decide +kernel) rfl (Nat.le_of_ble_eq_true rfl) ?_
  intro p e s m args below meth c A Q C hxw hxs hT hQ
  show Z p l e { frames := 9, cells := 0, slots := 0, locals := 200 } s m args below meth c X A 5 Q 0 0 (IW h a b na nf X gP gT gA gF) [(0, .ref (h 0)), (1, .int 10), (2, .int v1), (3, .int v2)] 0 []
  refine z_iln C dL_does_0 1 rfl ?_
  refine z_if_ne C 13 dL_does_1 (by decide) (fun _ => ?_) (fun q => absurd q (by decide))
  refine z_iln C dL_does_13 1 rfl ?_
  refine z_ic C dL_does_14 1 (by decide) ?_
  refine z_ic_ne C 26 dL_does_15 (by decide) (fun _ => ?_) (fun q => absurd q (by decide))
  refine z_iln C dL_does_26 1 rfl ?_
  refine z_ic C dL_does_27 2 (by decide) ?_
  refine z_ic_ne C 40 dL_does_28 (by decide) (fun _ => ?_) (fun q => absurd q (by decide))
  refine z_iln C dL_does_40 1 rfl ?_
  refine z_ic C dL_does_41 3 (by decide) ?_
  refine z_ic_ne C 53 dL_does_42 (by decide) (fun _ => ?_) (fun q => absurd q (by decide))
  refine z_iln C dL_does_53 1 rfl ?_
  refine z_ic C dL_does_54 4 (by decide) ?_
  refine z_ic_ne C 67 dL_does_55 (by decide) (fun _ => ?_) (fun q => absurd q (by decide))
  refine z_iln C dL_does_67 1 rfl ?_
  refine z_ic C dL_does_68 5 (by decide) ?_
  refine z_ic_ne C 81 dL_does_69 (by decide) (fun _ => ?_) (fun q => absurd q (by decide))
  refine z_iln C dL_does_81 1 rfl ?_
  refine z_bp C dL_does_82 6 (by decide) ?_
  refine z_ic_ne C 96 dL_does_84 (by decide) (fun _ => ?_) (fun q => absurd q (by decide))
  refine z_iln C dL_does_96 1 rfl ?_
  refine z_bp C dL_does_97 7 (by decide) ?_
  refine z_ic_ne C 111 dL_does_99 (by decide) (fun _ => ?_) (fun q => absurd q (by decide))
  refine z_iln C dL_does_111 1 rfl ?_
  refine z_bp C dL_does_112 8 (by decide) ?_
  refine z_ic_ne C 126 dL_does_114 (by decide) (fun _ => ?_) (fun q => absurd q (by decide))
  refine z_iln C dL_does_126 1 rfl ?_
  refine z_bp C dL_does_127 9 (by decide) ?_
  refine z_ic_ne C 140 dL_does_129 (by decide) (fun _ => ?_) (fun q => absurd q (by decide))
  refine z_iln C dL_does_140 1 rfl ?_
  refine z_bp C dL_does_141 10 (by decide) ?_
  refine z_ic_ne C 154 dL_does_143 (by decide) (fun q => absurd rfl q) (fun _ => ?_)
  refine z_aln C dL_does_146 0 rfl ?_
  refine z_iln C dL_does_147 2 rfl ?_
  refine z_cVi0 (As := [.int v1]) (rest := []) C hM gL_does_X5_total rfl ⟨rfl, by decide, by decide, (by decide : (parseMethodDescriptor yX5_total.desc).map (fun d => d.parameters.length) = some 1)⟩ hR ⟨by decide, by decide⟩ 0 5 rfl rfl (Nat.le_of_ble_eq_true rfl) dL_does_148 rfl ?_
  refine z_go C 173 dL_does_151 (by decide) ?_
  exact z_iret C hQ dL_does_173 rfl rfl (by decide) (by decide)
set_option maxHeartbeats 4000000 in
set_option maxRecDepth 100000 in
theorem hD_forecast (l : Launch) (X : zX) (h a b na nf : Nat → Nat) (gP gT gA gF : zG) (v1 v2 : Int32) {gP1 gT1 gA1 gF1 : zG} {r : Int32} {fr lo : Nat} (hM : CI l yX5_forecast wsX5_forecast fr lo 0 0 X (IW h a b na nf X gP gT gA gF) (.ref (h 0) :: [.int v1]) r (IW h a b na nf X gP1 gT1 gA1 gF1)) (hR : fr + 1 ≤ 9 ∧ 8 + (3 + 11) + lo ≤ 200) : CE l yL_does wsL_does 9 200 0 0 X (IW h a b na nf X gP gT gA gF) [.ref (h 0), .int 11, .int v1, .int v2] r (IW h a b na nf X gP1 gT1 gA1 gF1) := by
  refine ce_intro (cc := cL_does) (ret := some .int) (maxL := 5) (hh := [(0, 173, 174, 51), (0, 173, 179, 54), (0, 173, 184, 57)]) (by decide +kernel) rfl (Nat.le_of_ble_eq_true rfl) ?_
  intro p e s m args below meth c A Q C hxw hxs hT hQ
  show Z p l e { frames := 9, cells := 0, slots := 0, locals := 200 } s m args below meth c X A 5 Q 0 0 (IW h a b na nf X gP gT gA gF) [(0, .ref (h 0)), (1, .int 11), (2, .int v1), (3, .int v2)] 0 []
  refine z_iln C dL_does_0 1 rfl ?_
  refine z_if_ne C 13 dL_does_1 (by decide) (fun _ => ?_) (fun q => absurd q (by decide))
  refine z_iln C dL_does_13 1 rfl ?_
  refine z_ic C dL_does_14 1 (by decide) ?_
  refine z_ic_ne C 26 dL_does_15 (by decide) (fun _ => ?_) (fun q => absurd q (by decide))
  refine z_iln C dL_does_26 1 rfl ?_
  refine z_ic C dL_does_27 2 (by decide) ?_
  refine z_ic_ne C 40 dL_does_28 (by decide) (fun _ => ?_) (fun q => absurd q (by decide))
  refine z_iln C dL_does_40 1 rfl ?_
  refine z_ic C dL_does_41 3 (by decide) ?_
  refine z_ic_ne C 53 dL_does_42 (by decide) (fun _ => ?_) (fun q => absurd q (by decide))
  refine z_iln C dL_does_53 1 rfl ?_
  refine z_ic C dL_does_54 4 (by decide) ?_
  refine z_ic_ne C 67 dL_does_55 (by decide) (fun _ => ?_) (fun q => absurd q (by decide))
  refine z_iln C dL_does_67 1 rfl ?_
  refine z_ic C dL_does_68 5 (by decide) ?_
  refine z_ic_ne C 81 dL_does_69 (by decide) (fun _ => ?_) (fun q => absurd q (by decide))
  refine z_iln C dL_does_81 1 rfl ?_
  refine z_bp C dL_does_82 6 (by decide) ?_
  refine z_ic_ne C 96 dL_does_84 (by decide) (fun _ => ?_) (fun q => absurd q (by decide))
  refine z_iln C dL_does_96 1 rfl ?_
  refine z_bp C dL_does_97 7 (by decide) ?_
  refine z_ic_ne C 111 dL_does_99 (by decide) (fun _ => ?_) (fun q => absurd q (by decide))
  refine z_iln C dL_does_111 1 rfl ?_
  refine z_bp C dL_does_112 8 (by decide) ?_
  refine z_ic_ne C 126 dL_does_114 (by decide) (fun _ => ?_) (fun q => absurd q (by decide))
  refine z_iln C dL_does_126 1 rfl ?_
  refine z_bp C dL_does_127 9 (by decide) ?_
  refine z_ic_ne C 140 dL_does_129 (by decide) (fun _ => ?_) (fun q => absurd q (by decide))
  refine z_iln C dL_does_140 1 rfl ?_
  refine z_bp C dL_does_141 10 (by decide) ?_
  refine z_ic_ne C 154 dL_does_143 (by decide) (fun _ => ?_) (fun q => absurd q (by decide))
  refine z_iln C dL_does_154 1 rfl ?_
  refine z_bp C dL_does_155 11 (by decide) ?_
  refine z_ic_ne C 168 dL_does_157 (by decide) (fun q => absurd rfl q) (fun _ => ?_)
  refine z_aln C dL_does_160 0 rfl ?_
  refine z_iln C dL_does_161 2 rfl ?_
  refine z_cVi0 (As := [.int v1]) (rest := []) C hM gL_does_X5_forecast rfl ⟨rfl, by decide, by decide, (by decide : (parseMethodDescriptor yX5_forecast.desc).map (fun d => d.parameters.length) = some 1)⟩ hR ⟨by decide, by decide⟩ 0 5 rfl rfl (Nat.le_of_ble_eq_true rfl) dL_does_162 rfl ?_
  refine z_go C 173 dL_does_165 (by decide) ?_
  exact z_iret C hQ dL_does_173 rfl rfl (by decide) (by decide)
set_option maxHeartbeats 4000000 in
set_option maxRecDepth 100000 in
theorem hD_miss (l : Launch) (X : zX) (h a b na nf : Nat → Nat) (gP gT gA gF : zG) (v1 v2 : Int32) {gP1 gT1 gA1 gF1 : zG} {r : Int32} {fr lo : Nat} (hM : CI l yX5_miss wsX5_miss fr lo 0 0 X (IW h a b na nf X gP gT gA gF) (.ref (h 0) :: [.int v1]) r (IW h a b na nf X gP1 gT1 gA1 gF1)) (hR : fr + 1 ≤ 9 ∧ 8 + (3 + 11) + lo ≤ 200) : CE l yL_does wsL_does 9 200 0 0 X (IW h a b na nf X gP gT gA gF) [.ref (h 0), .int 12, .int v1, .int v2] r (IW h a b na nf X gP1 gT1 gA1 gF1) := by
  refine ce_intro (cc := cL_does) (ret := some .int) (maxL := 5) (hh := [(0, 173, 174, 51), (0, 173, 179, 54), (0, 173, 184, 57)]) (by decide +kernel) rfl (Nat.le_of_ble_eq_true rfl) ?_
  intro p e s m args below meth c A Q C hxw hxs hT hQ
  show Z p l e { frames := 9, cells := 0, slots := 0, locals := 200 } s m args below meth c X A 5 Q 0 0 (IW h a b na nf X gP gT gA gF) [(0, .ref (h 0)), (1, .int 12), (2, .int v1), (3, .int v2)] 0 []
  refine z_iln C dL_does_0 1 rfl ?_
  refine z_if_ne C 13 dL_does_1 (by decide) (fun _ => ?_) (fun q => absurd q (by decide))
  refine z_iln C dL_does_13 1 rfl ?_
  refine z_ic C dL_does_14 1 (by decide) ?_
  refine z_ic_ne C 26 dL_does_15 (by decide) (fun _ => ?_) (fun q => absurd q (by decide))
  refine z_iln C dL_does_26 1 rfl ?_
  refine z_ic C dL_does_27 2 (by decide) ?_
  refine z_ic_ne C 40 dL_does_28 (by decide) (fun _ => ?_) (fun q => absurd q (by decide))
  refine z_iln C dL_does_40 1 rfl ?_
  refine z_ic C dL_does_41 3 (by decide) ?_
  refine z_ic_ne C 53 dL_does_42 (by decide) (fun _ => ?_) (fun q => absurd q (by decide))
  refine z_iln C dL_does_53 1 rfl ?_
  refine z_ic C dL_does_54 4 (by decide) ?_
  refine z_ic_ne C 67 dL_does_55 (by decide) (fun _ => ?_) (fun q => absurd q (by decide))
  refine z_iln C dL_does_67 1 rfl ?_
  refine z_ic C dL_does_68 5 (by decide) ?_
  refine z_ic_ne C 81 dL_does_69 (by decide) (fun _ => ?_) (fun q => absurd q (by decide))
  refine z_iln C dL_does_81 1 rfl ?_
  refine z_bp C dL_does_82 6 (by decide) ?_
  refine z_ic_ne C 96 dL_does_84 (by decide) (fun _ => ?_) (fun q => absurd q (by decide))
  refine z_iln C dL_does_96 1 rfl ?_
  refine z_bp C dL_does_97 7 (by decide) ?_
  refine z_ic_ne C 111 dL_does_99 (by decide) (fun _ => ?_) (fun q => absurd q (by decide))
  refine z_iln C dL_does_111 1 rfl ?_
  refine z_bp C dL_does_112 8 (by decide) ?_
  refine z_ic_ne C 126 dL_does_114 (by decide) (fun _ => ?_) (fun q => absurd q (by decide))
  refine z_iln C dL_does_126 1 rfl ?_
  refine z_bp C dL_does_127 9 (by decide) ?_
  refine z_ic_ne C 140 dL_does_129 (by decide) (fun _ => ?_) (fun q => absurd q (by decide))
  refine z_iln C dL_does_140 1 rfl ?_
  refine z_bp C dL_does_141 10 (by decide) ?_
  refine z_ic_ne C 154 dL_does_143 (by decide) (fun _ => ?_) (fun q => absurd q (by decide))
  refine z_iln C dL_does_154 1 rfl ?_
  refine z_bp C dL_does_155 11 (by decide) ?_
  refine z_ic_ne C 168 dL_does_157 (by decide) (fun _ => ?_) (fun q => absurd q (by decide))
  refine z_aln C dL_does_168 0 rfl ?_
  refine z_iln C dL_does_169 2 rfl ?_
  refine z_cVi0 (As := [.int v1]) (rest := []) C hM gL_does_X5_miss rfl ⟨rfl, by decide, by decide, (by decide : (parseMethodDescriptor yX5_miss.desc).map (fun d => d.parameters.length) = some 1)⟩ hR ⟨by decide, by decide⟩ 0 5 rfl rfl (Nat.le_of_ble_eq_true rfl) dL_does_170 rfl ?_
  exact z_iret C hQ dL_does_173 rfl rfl (by decide) (by decide)
set_option maxHeartbeats 4000000 in
set_option maxRecDepth 100000 in
theorem hD_ice_x3 (l : Launch) (X : zX) (h a b na nf : Nat → Nat) (gP gT gA gF : zG) (v1 v2 : Int32) {fr lo : Nat} (hM : CXi l yX5_ice wsX5_ice fr lo 1 6 X (IW h a b na nf X gP gT gA gF) (.ref (h 0) :: [.int v1, .int v2]) xISE) (hR : fr + 1 ≤ 9 ∧ 8 + (3 + 11) + lo ≤ 200) : CE l yL_does wsL_does 9 200 1 6 X (IW h a b na nf X gP gT gA gF) [.ref (h 0), .int 2, .int v1, .int v2] (-9000003) (IW h a b na nf X gP gT gA gF) := by
  refine ce_intro (cc := cL_does) (ret := some .int) (maxL := 5) (hh := [(0, 173, 174, 51), (0, 173, 179, 54), (0, 173, 184, 57)]) (by decide +kernel) rfl (Nat.le_of_ble_eq_true rfl) ?_
  intro p e s m args below meth c A Q C hxw hxs hT hQ
  show Z p l e { frames := 9, cells := 1, slots := 6, locals := 200 } s m args below meth c X A 5 Q 0 0 (IW h a b na nf X gP gT gA gF) [(0, .ref (h 0)), (1, .int 2), (2, .int v1), (3, .int v2)] 0 []
  refine z_iln C dL_does_0 1 rfl ?_
  refine z_if_ne C 13 dL_does_1 (by decide) (fun _ => ?_) (fun q => absurd q (by decide))
  refine z_iln C dL_does_13 1 rfl ?_
  refine z_ic C dL_does_14 1 (by decide) ?_
  refine z_ic_ne C 26 dL_does_15 (by decide) (fun _ => ?_) (fun q => absurd q (by decide))
  refine z_iln C dL_does_26 1 rfl ?_
  refine z_ic C dL_does_27 2 (by decide) ?_
  refine z_ic_ne C 40 dL_does_28 (by decide) (fun q => absurd rfl q) (fun _ => ?_)
  refine z_aln C dL_does_31 0 rfl ?_
  refine z_iln C dL_does_32 2 rfl ?_
  refine z_iln C dL_does_33 3 rfl ?_
  refine z_xci (As := [.int v1, .int v2]) (rest := []) C hxw hxs hM gL_does_X5_ice rfl ⟨rfl, by decide, by decide, (by decide : (parseMethodDescriptor yX5_ice.desc).map (fun d => d.parameters.length) = some 2)⟩ hR ⟨by decide, by decide⟩ 0 5 rfl rfl [0, 1, 2, 3, 4, 5, 6, 7, 8, 9, 10, 11, 12, 13, 14, 15, 16, 17, 18, 19, 20, 21, 22, 23, 24, 25, 26, 27, 28, 29, 30, 31, 32, 33, 34, 35, 36] [] [0, 1, 2, 3, 4, 5, 6, 7, 8, 9, 10, 11, 12, 13, 14, 15, 16, 17, 18, 19, 20, 21, 22, 23, 24, 25, 26, 27, 28, 29, 30, 31, 32, 33, 34, 35, 36] rfl rfl (by decide) (by decide) (by decide) (by decide) rfl (Nat.le_of_ble_eq_true rfl) dL_does_34 rfl [⟨0, 173, 174, 51⟩, ⟨0, 173, 179, 54⟩] ⟨0, 173, 184, 57⟩ [] (hT.trans rfl) (fun z hz => by
    simp only [List.mem_cons, List.not_mem_nil, or_false] at hz
    rcases hz with rfl | rfl
    · exact Or.inr ⟨by decide, xIOB, C.ts _ (by decide +kernel), hxw.2.2.1 (xISE, xIOB) (by decide)⟩
    · exact Or.inr ⟨by decide, xIAE, C.ts _ (by decide +kernel), hxw.2.2.1 (xISE, xIAE) (by decide)⟩) (by decide) (by decide) (by decide +kernel) (by decide) (fun q => ?_)
  refine z_as C [(4, .ref q), (0, .ref (h 0)), (1, .int 2), (2, .int v1), (3, .int v2)] dL_does_184 (by decide) rfl ?_
  refine z_ldc C (v := (-9000003)) dL_does_186 (by decide +kernel) ?_
  exact z_iret C hQ dL_does_188 rfl rfl (by decide) (by decide)
set_option maxHeartbeats 4000000 in
set_option maxRecDepth 100000 in
theorem hW_would (l : Launch) (X : zX) (h a b na nf : Nat → Nat) (gP gT gA gF : zG) (v1 v2 v3 : Int32) {gP1 gT1 gA1 gF1 : zG} {r : Int32} {fr lo : Nat} (hM : CI l yX5_would wsX5_would fr lo 0 0 X (IW h a b na nf X gP gT gA gF) (.ref (h 0) :: [.int v1, .int v2, .int v3]) r (IW h a b na nf X gP1 gT1 gA1 gF1)) (hR : fr + 1 ≤ 9 ∧ 8 + (4 + 11) + lo ≤ 200) : CE l yL_would wsL_would 9 200 0 0 X (IW h a b na nf X gP gT gA gF) [.ref (h 0), .int v1, .int v2, .int v3] r (IW h a b na nf X gP1 gT1 gA1 gF1) := by
  refine ce_intro (cc := cL_would) (ret := some .int) (maxL := 5) (hh := [(0, 7, 8, 51), (0, 7, 13, 54), (0, 7, 18, 57)]) (by decide +kernel) rfl (Nat.le_of_ble_eq_true rfl) ?_
  intro p e s m args below meth c A Q C hxw hxs hT hQ
  show Z p l e { frames := 9, cells := 0, slots := 0, locals := 200 } s m args below meth c X A 5 Q 0 0 (IW h a b na nf X gP gT gA gF) [(0, .ref (h 0)), (1, .int v1), (2, .int v2), (3, .int v3)] 0 []
  refine z_aln C dL_would_0 0 rfl ?_
  refine z_iln C dL_would_1 1 rfl ?_
  refine z_iln C dL_would_2 2 rfl ?_
  refine z_iln C dL_would_3 3 rfl ?_
  refine z_cVi0 (As := [.int v1, .int v2, .int v3]) (rest := []) C hM gL_would_X5_would rfl ⟨rfl, by decide, by decide, (by decide : (parseMethodDescriptor yX5_would.desc).map (fun d => d.parameters.length) = some 3)⟩ hR ⟨by decide, by decide⟩ 0 5 rfl rfl (Nat.le_of_ble_eq_true rfl) dL_would_4 rfl ?_
  exact z_iret C hQ dL_would_7 rfl rfl (by decide) (by decide)
set_option maxHeartbeats 4000000 in
set_option maxRecDepth 100000 in
theorem hW_climate (l : Launch) (X : zX) (h a b na nf : Nat → Nat) (gP gT gA gF : zG) (v1 v2 v3 : Int32) {gP1 gT1 gA1 gF1 : zG} {fr lo : Nat} (hM : CV l yX5_climate wsX5_climate fr lo 0 0 X (IW h a b na nf X gP gT gA gF) (.ref (h 0) :: [.int v1, .int v2, .int v3]) (IW h a b na nf X gP1 gT1 gA1 gF1)) (hR : fr + 1 ≤ 9 ∧ 8 + (4 + 11) + lo ≤ 200) : CE l yL_climate wsL_climate 9 200 0 0 X (IW h a b na nf X gP gT gA gF) [.ref (h 0), .int v1, .int v2, .int v3] 1 (IW h a b na nf X gP1 gT1 gA1 gF1) := by
  refine ce_intro (cc := cL_climate) (ret := some .boolean) (maxL := 5) (hh := [(0, 7, 10, 54)]) (by decide +kernel) rfl (Nat.le_of_ble_eq_true rfl) ?_
  intro p e s m args below meth c A Q C hxw hxs hT hQ
  show Z p l e { frames := 9, cells := 0, slots := 0, locals := 200 } s m args below meth c X A 5 Q 0 0 (IW h a b na nf X gP gT gA gF) [(0, .ref (h 0)), (1, .int v1), (2, .int v2), (3, .int v3)] 0 []
  refine z_aln C dL_climate_0 0 rfl ?_
  refine z_iln C dL_climate_1 1 rfl ?_
  refine z_iln C dL_climate_2 2 rfl ?_
  refine z_iln C dL_climate_3 3 rfl ?_
  refine z_cVv0 (As := [.int v1, .int v2, .int v3]) (rest := []) C hM gL_climate_X5_climate rfl ⟨rfl, by decide, by decide, (by decide : (parseMethodDescriptor yX5_climate.desc).map (fun d => d.parameters.length) = some 3)⟩ hR ⟨by decide, by decide⟩ 0 5 rfl rfl (Nat.le_of_ble_eq_true rfl) dL_climate_4 rfl ?_
  refine z_go C 14 dL_climate_7 (by decide) ?_
  refine z_ic C dL_climate_14 1 (by decide) ?_
  exact z_zret C hQ dL_climate_15 (Or.inr rfl) rfl rfl (by decide) (by decide)
theorem z_irem {p : Program} {l : Launch} {e : Env} {R : Room} {s : State} {m : MethodId} {args : Array Value} {below : List Frame} {meth : Method} {c : Code} {cells slots : Nat} {Q : State → Prop} {X : zX} {A : Nat → Prop} {nL pc : Nat} {cc : ByteArray} {own : String} {Ts : List Cond} {ret : Option FieldType} {ws : va_W} {lv : List (Nat × Value)} {st : List Value} (C : ZC p s m args meth c X A nL cc own Ts ret) {x y : Int32} (d : decode cc pc = .ok (.irem, 1)) (hne : ¬ y = 0) (v : Int32) (hv : x - x / y * y = v) (k : Z p l e R s m args below meth c X A nL Q cells slots ws lv (pc + 1) (.int v :: st)) : Z p l e R s m args below meth c X A nL Q cells slots ws lv pc (.int y :: .int x :: st) := by subst hv; exact fun H locs ls hP hD hS hl => lv_irem C.ex C.cb d hne (k H locs ls hP hD hS hl)
section LW1
variable {p : Program} {l : Launch} {e : Env} {s : State} {m : MethodId} {args : Array Value} {below : List Frame} {meth : Method} {c : Code} {cells slots : Nat} {Q : State → Prop} {X : zX} {A : Nat → Prop} {nL pc : Nat} {cc : ByteArray} {own : String} {Ts : List Cond} {ret : Option FieldType} {ws : va_W} {lv : List (Nat × Value)} {st : List Value} {R : Room}
theorem z_sld (C : ZC p s m args meth c X A nL cc own Ts ret) {b0 L : Nat} {sc : Nat → Int32} (hX : va_X b0 L sc s s.heap) (hbl : b0 < s.heap.size) (hbA : ¬ A b0) {x : Int32} (j : Nat) (d : decode cc pc = .ok (.iaload, 1)) (hx : x = nI j) (hj : j < L) (hL : L ≤ 2048) (k : Z p l e R s m args below meth c X A nL Q cells slots ws lv (pc + 1) (.int (sc j) :: st)) : Z p l e R s m args below meth c X A nL Q cells slots ws lv pc (.int x :: .ref b0 :: st) := by
  subst hx
  intro H locs ls hP hD hS hl
  refine va_sld C.ex C.cb hX hbl hbA hS (vp_in_nI hj (by omega)) d ?_
  rw [nI_clamp (by omega)]
  exact k H locs ls hP hD hS hl
theorem z_slen (C : ZC p s m args meth c X A nL cc own Ts ret) {b0 L : Nat} {sc : Nat → Int32} (hX : va_X b0 L sc s s.heap) (hbl : b0 < s.heap.size) (hbA : ¬ A b0) (d : decode cc pc = .ok (.arraylength, 1)) (k : Z p l e R s m args below meth c X A nL Q cells slots ws lv (pc + 1) (.int (nI L) :: st)) : Z p l e R s m args below meth c X A nL Q cells slots ws lv pc (.ref b0 :: st) :=
  fun H locs ls hP hD hS hl => va_slen C.ex C.cb hX hbl hbA hS d (k H locs ls hP hD hS hl)
/-- what drawn asks: the script of L ints sc at b0 -/
def dPre (X : zX) (b0 L : Nat) (sc : Nat → Int32) (sz : Nat) : State → Prop := fun U => U.heap.size = sz ∧ va_K X.1 vwCl (zT X) U ∧ va_X b0 L sc U U.heap ∧ b0 < U.heap.size
theorem dPre_blind (X : zX) (b0 L : Nat) (sc : Nat → Int32) (sz : Nat) (av : List Value) : FrameBlind (va_Pc av (dPre X b0 L sc sz)) := fun a U g mk q => by
  obtain ⟨q0, q1, qK, qX, qb⟩ := q
  exact ⟨q0, q1, va_K.moved (u := U) (U := U.calling g mk a) (Vm.Alike.refl U.vm) qK, va_X.moved (u := U) (U := U.calling g mk a) (Vm.Alike.refl U.vm) qX, qb⟩
def CD (l : Launch) (X : zX) (b0 L : Nat) (sc : Nat → Int32) (k : Nat) (r : Int32) : Prop := ∀ sz : Nat, Met l yL_drawn wsL_drawn { frames := 0, cells := 0, slots := 0, locals := 0 } (va_Pc [.ref b0, .int (nI k)] (dPre X b0 L sc sz)) (va_Qi (fun x (_ : Unit) => x = r) (zB X (va_A [] sz) (fun _ => [])) (va_A [] sz)) 0 0 (va_A [] sz)
end LW1
set_option maxRecDepth 100000 in
theorem m_drawn (l : Launch) (X : zX) (b0 L : Nat) (sc : Nat → Int32) (k : Nat) (hL : L ≤ 2048) (hk : k < 64) : ∃ j : Nat, j < 2 ^ 30 ∧ CD l X b0 L sc k (nI j) := by
  obtain ⟨r0, hr0⟩ : ∃ r0, r0 = (if k < L then sc k else nI (12919 * k + 10193)) := ⟨_, rfl⟩
  obtain ⟨j, hj, hx⟩ := pk_andE r0 (m := 1073741823) 30 (by decide)
  refine ⟨j, hj, fun sz => ?_⟩
  refine met_ofF (cc := cL_drawn) (maxL := 3) (ret := some .int) (by decide +kernel) rfl ?_
  intro p e s m args below meth c s₁ B hml hv
  obtain ⟨rfl, hsz, hK, hX, hb⟩ := hv
  subst hsz
  have hA9 : ∀ q, va_A [] s.heap.size q → s.heap.size ≤ q := fun q h => by
    rcases h with ⟨k9, e9, h⟩ | h
    · simp at h
    · exact h
  have hbA : ¬ va_A [] s.heap.size b0 := fun h => absurd (hA9 _ h) (Nat.not_le.mpr hb)
  have C : ZC p s m ([.ref b0, .int (nI k)] : List Value).toArray meth c X (va_A [] s.heap.size) 3 cL_drawn yL_drawn.cls wsL_drawn (some .int) := ⟨B.exec, B.bytes, hml, findClass_of_methodNamed B.named, atoms_spec (ws := wsL_drawn) B.pre, hK, fun q h => Or.inr h, B.notSynchronized, B.returns⟩
  have hl := lv_entry ([.ref b0, .int (nI k)] : List Value) (n := 3) (Nat.le_of_ble_eq_true rfl)
  rw [lg_entry_eq]
  have hQ : MQ below (va_Qi (fun x (_ : Unit) => x = nI j) (zB X (va_A [] s.heap.size) (fun _ => [])) (va_A [] s.heap.size)) ([.ref b0, .int (nI k)] : List Value).toArray s 0 0 (va_A [] s.heap.size) = MQ below (va_Qi (fun x (_ : Unit) => x = nI j) (zB X (va_A [] s.heap.size) (fun _ => [])) (va_A [] s.heap.size)) ([.ref b0, .int (nI k)] : List Value).toArray s 0 0 (va_A [] s.heap.size) := rfl
  have Fin : Z p l e { frames := 0, cells := 0, slots := 0, locals := 0 } s m ([.ref b0, .int (nI k)] : List Value).toArray below meth c X (va_A [] s.heap.size) 3 (MQ below (va_Qi (fun x (_ : Unit) => x = nI j) (zB X (va_A [] s.heap.size) (fun _ => [])) (va_A [] s.heap.size)) ([.ref b0, .int (nI k)] : List Value).toArray s 0 0 (va_A [] s.heap.size)) 0 0 [] [(0, .ref b0), (1, .int (nI k))] 21 [.int r0] := by
    refine z_isn C 2 [(2, .int r0), (0, .ref b0), (1, .int (nI k))] dL_drawn_21 rfl (by decide) rfl ?_
    refine z_iln C dL_drawn_22 0 rfl ?_
    refine z_ldc C (v := 1073741823) dL_drawn_23 (by decide +kernel) ?_
    refine z_iand C dL_drawn_25 (nI j) hx ?_
    exact z_iret C hQ dL_drawn_26 rfl rfl (by decide) (by decide)
  have Body : Z p l e { frames := 0, cells := 0, slots := 0, locals := 0 } s m ([.ref b0, .int (nI k)] : List Value).toArray below meth c X (va_A [] s.heap.size) 3 (MQ below (va_Qi (fun x (_ : Unit) => x = nI j) (zB X (va_A [] s.heap.size) (fun _ => [])) (va_A [] s.heap.size)) ([.ref b0, .int (nI k)] : List Value).toArray s 0 0 (va_A [] s.heap.size)) 0 0 [] [(0, .ref b0), (1, .int (nI k))] 0 [] := by
    refine z_iln C dL_drawn_0 1 rfl ?_
    refine z_aln C dL_drawn_1 0 rfl ?_
    refine z_slen C hX hb hbA dL_drawn_2 ?_
    refine z_ic_geN C k L 12 dL_drawn_3 (by decide) rfl rfl (by omega) (by omega) (fun c1 => ?_) (fun c1 => ?_)
    · rw [if_neg (by omega)] at hr0
      subst hr0
      refine z_sp C dL_drawn_12 12919 (by decide) ?_
      refine z_iln C dL_drawn_15 1 rfl ?_
      refine z_imul C dL_drawn_16 (nI (12919 * k)) (pk_mul 12919 k) ?_
      refine z_sp C dL_drawn_17 10193 (by decide) ?_
      refine z_iadd C dL_drawn_20 (nI (12919 * k + 10193)) (nI_add (12919 * k) 10193) ?_
      exact Fin
    · rw [if_pos (by omega)] at hr0
      subst hr0
      refine z_aln C dL_drawn_6 0 rfl ?_
      refine z_iln C dL_drawn_7 1 rfl ?_
      refine z_sld C hX hb hbA k dL_drawn_8 rfl (by omega) hL ?_
      refine z_go C 21 dL_drawn_9 (by decide) ?_
      exact Fin
  exact Body s.heap [] _ (fun k q h => by simp at h) ⟨fun i j p q h => by simp at h, fun k q h => by simp at h⟩ va_S.rf hl
section DR
variable {p : Program} {l : Launch} {e : Env} {R : Room} {s : State} {m : MethodId} {args : Array Value} {below : List Frame} {meth : Method} {c : Code} {cells slots : Nat} {Q : State → Prop} {X : zX} {A : Nat → Prop} {nL pc : Nat} {cc : ByteArray} {own : String} {Ts : List Cond} {ret : Option FieldType} {ws : va_W} {lv : List (Nat × Value)} {st : List Value}
theorem z_cD (C : ZC p s m args meth c X A nL cc own Ts ret) {b0 L : Nat} {sc : Nat → Int32} (hX : va_X b0 L sc s s.heap) (hbl : b0 < s.heap.size) (hbA : ¬ A b0) {index k : Nat} {rest : List Value} {r : Int32} (hM : CD l X b0 L sc k r) (g : GoodIn Ts (va_wsS own index yL_drawn wsL_drawn)) (hR : 1 ≤ R.frames ∧ 22 ≤ R.locals) (hf : cells ≤ R.cells ∧ slots ≤ R.slots) (hst : (rest.map fun v => v.category).sum ≤ 8) (d : decode cc pc = .ok (.invokestatic index, 3)) (hs : st = .int (nI k) :: .ref b0 :: rest) (kk : Z p l e R s m args below meth c X A nL Q cells slots ws lv (pc + 3) (.int r :: rest)) : Z p l e R s m args below meth c X A nL Q cells slots ws lv pc st := by
  intro H locs ls hP hD hS hl
  subst hs
  have hA9 : ∀ q, va_A [] H.size q → H.size ≤ q := fun q h => by
    rcases h with ⟨k9, e9, h⟩ | h
    · simp at h
    · exact h
  have hFc : ∀ q, va_A [] H.size q → A q := fun q h => C.hA q (Nat.le_trans hS.1 (hA9 q h))
  have hXH : va_X b0 L sc s H := hX.kept (hS.2.1 b0 hbl hbA)
  refine va_calli (va_runS (As := [.ref b0, .int (nI k)]) (rest := rest) ⟨C.ex, C.cb, C.ml, C.ow, C.ts⟩ (hM H.size) (va_cwS 2 C.ts g rfl rfl rfl ⟨by decide, by decide, (by decide : (parseMethodDescriptor yL_drawn.desc).map (fun d => d.parameters.length) = some 2)⟩ ⟨(by show 0 + 1 ≤ R.frames; omega), (by show 8 + (3 + 11) + 0 ≤ R.locals; omega)⟩) ⟨dPre_blind X b0 L sc H.size _, fun U hU hW => ⟨rfl, by rw [hU], va_K.moved hW.alike C.hK, by rw [hU]; exact hXH.moved hW.alike, by rw [hU]; exact Nat.lt_of_lt_of_le hbl hS.1⟩⟩ rfl rfl hl.1 rfl (lv_room hst) d hf) hS (fun q _ h => hFc q h) hFc (fun r9 u t H1 locs1 ht hvm hw1 hB hz1 hk1 hS1 => ?_)
  have hP1 : va_P X.1 vwCl ws H1 := hP.kept (fun k9 q9 h9 => hk1 q9.1 ((hP k9 q9 h9).lt) (fun z => absurd (hA9 _ z) (Nat.not_le.mpr ((hP k9 q9 h9).lt))))
  subst hw1
  exact kk H1 locs1 ls hP1 hD hS1 hl
end DR
section CP
variable {p : Program} {l : Launch} {e : Env} {R : Room} {s : State} {m : MethodId} {args : Array Value} {below : List Frame} {meth : Method} {c : Code} {cells slots : Nat} {Q : State → Prop} {X : zX} {A : Nat → Prop} {nL pc : Nat} {cc : ByteArray} {own : String} {Ts : List Cond} {ret : Option FieldType} {ws : va_W} {lv : List (Nat × Value)} {st : List Value}
theorem cp_intro {y : MethodName} {wsY ws9 : List Cond} {fr lo mc ms maxL : Nat} {w0 : va_W} {av : List Value} {r : Int32} {w1 : va_W} (hy : plainFor y = true) (hw : wsY = Cond.code y cc maxL ret :: ws9) (hnl : (lg_sl av).length ≤ maxL)
    (body : ∀ (p : Program) (e : Env) (s : State) (m : MethodId) (args : Array Value) (below : List Frame) (meth : Method) (c : Code) (A : Nat → Prop) (Q : State → Prop), ZC p s m args meth c X A maxL cc y.cls wsY ret → xW s → xS A s s.heap → Q = MQ below (va_Qi (fun x (_ : Unit) => x = r) (zB X A (fun _ => w1)) A) args s mc ms A → Z p l e { frames := fr, cells := mc, slots := ms, locals := lo } s m args below meth c X A maxL Q 0 0 w0 (lv_args 0 av) 0 []) : CE l y wsY fr lo mc ms X w0 av r w1 := by
  intro sz
  refine met_ofF (cc := cc) (maxL := maxL) (ret := ret) hy hw ?_
  intro p e s m args below meth c s₁ B hml hv
  obtain ⟨rfl, ⟨hsz, hP, hK, hD0⟩, hxw, hxs⟩ := hv
  subst hsz
  have C : ZC p s m av.toArray meth c X (va_A w0 s.heap.size) maxL cc y.cls wsY ret := ⟨B.exec, B.bytes, hml, findClass_of_methodNamed B.named, atoms_spec (ws := wsY) B.pre, hK, fun q h => Or.inr h, B.notSynchronized, B.returns⟩
  have hl := lv_entry av (n := maxL) hnl
  rw [lg_entry_eq]
  exact body p e s m av.toArray below meth c _ _ C hxw hxs rfl s.heap [] _ hP hD0.self va_S.rf hl
/-- a static call over all cells of a method without a table, which returns -/
theorem z_cP (C : ZC p s m args meth c X A nL cc own Ts ret) (hxw : xW s) (hxs : xS A s s.heap) {y : MethodName} {bytes : ByteArray} {ry : Option FieldType} {wsY ws9 : List Cond} {fr lo mc2 ms2 maxL index : Nat} {As rest : List Value} {r : Int32} {w1 : va_W} (hM : CE l y wsY fr lo mc2 ms2 X ws As r w1) (g : GoodIn Ts (va_wsS own index y wsY)) (hw : wsY = Cond.code y bytes maxL ry :: ws9) (hd : y.cls ≠ "java/lang/invoke/MethodHandle" ∧ y.cls ≠ "java/lang/invoke/VarHandle" ∧ (parseMethodDescriptor y.desc).map (fun d => d.parameters.length) = some As.length) (hR : fr + 1 ≤ R.frames ∧ 8 + (maxL + 11) + lo ≤ R.locals) (hf : cells + mc2 ≤ R.cells ∧ slots + ms2 ≤ R.slots) (hst : (rest.map fun v => v.category).sum ≤ 8) (d : decode cc pc = .ok (.invokestatic index, 3)) (hs : st = As.reverse ++ rest) (k : Z p l e R s m args below meth c X A nL Q (cells + mc2) (slots + ms2) w1 lv (pc + 3) (.int r :: rest)) : Z p l e R s m args below meth c X A nL Q cells slots ws lv pc st := by
  intro H locs ls hP hD hS hl
  subst hs
  have hFc : ∀ q, va_A ws H.size q → A q := fun q h => by
    rcases h with ⟨k9, e9, h⟩ | h
    · exact hD.2 k9 (q, e9) h
    · exact C.hA q (Nat.le_trans hS.1 h)
  refine va_calli (va_runS (As := As) (rest := rest) ⟨C.ex, C.cb, C.ml, C.ow, C.ts⟩ (hM H.size) (va_cwS As.length C.ts g hw rfl rfl hd hR) ⟨xPre_blind X ws H.size As, fun U hU hW => ⟨rfl, ⟨by rw [hU], by rw [hU]; exact hP, va_K.moved hW.alike C.hK, hD.weaken (fun _ _ _ _ => trivial)⟩, hxw.warm hW, hxs.at hS hFc hU hW.alike⟩⟩ rfl rfl hl.1 rfl (lv_room hst) d hf) hS (fun q _ h => hFc q h) hFc (fun r9 u t H1 locs1 ht hvm hw1 hB hz1 hk1 hS1 => ?_)
  obtain ⟨hP1, hK1, hD1⟩ := hB
  rw [ht] at hP1
  subst hw1
  exact k H1 locs1 ls hP1 (hD1.weaken (fun _ q _ h => hFc q.1 h)) hS1 hl
end CP
