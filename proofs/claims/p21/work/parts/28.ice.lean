set_option maxHeartbeats 4000000 in
set_option maxRecDepth 100000 in
theorem mX0_note (l : Launch) (X : zX) (b : Nat → Nat) (a : Nat → Nat) (gA : zG) (g : zG) (hy0 : vp_in (g 10 0) 61) (hy1 : ∃ fl, fl ≤ 720 ∧ gA 6 0 = nI fl) : CV l yX0_note wsX0_note 1 22 0 0 X (NW b a X gA g) [.ref (b 0), .ref (a 0)] (NW b a X (fX0_note gA g) g) := by
  obtain ⟨res, hF⟩ : ∃ z9r, z9r = fX0_note gA g := ⟨_, rfl⟩
  rw [← hF]
  refine cu_intro (cc := cX0_note) (ret := none) (maxL := 3) (by decide +kernel) rfl (Nat.le_of_ble_eq_true rfl) ?_
  intro p e s m args below meth c A Q C hQ
  have hX0 : ∀ w ∈ wsX00, w ∈ wsX0_note := by decide +kernel
  have hX3 : ∀ w ∈ wsX30, w ∈ wsX0_note := by decide +kernel
  show Z p l e { frames := 1, cells := 0, slots := 0, locals := 22 } s m args below meth c X A 3 Q 0 0 (NW b a X gA g) [(0, .ref (b 0)), (1, .ref (a 0))] 0 []
  refine z_aln C dX0_note_0 0 rfl ?_
  refine z_get (v := .ref (b 2)) C 0 1 dX0_note_1 rfl rfl rfl hX0 (by decide) (by decide +kernel) rfl ?_
  refine z_aln C dX0_note_4 1 rfl ?_
  refine z_get (v := .int (g 10 0)) C 7 0 dX0_note_5 rfl rfl rfl hX3 (by decide) (by decide +kernel) rfl ?_
  refine z_nm (show nI ((g 10 0).toNatClampNeg) = (g 10 0) from (zn_in hy0)) ?_
  refine z_aln C dX0_note_8 1 rfl ?_
  refine z_get (v := .int (g 10 5)) C 7 15 dX0_note_9 rfl rfl rfl hX3 (by decide) (by decide +kernel) rfl ?_
  refine z_iast (f := (gA 1)) C 2 ((g 10 0).toNatClampNeg) (NW b a X (va_up gA 1 (upd (gA 1) ((g 10 0).toNatClampNeg) (g 10 5))) g) dX0_note_12 rfl (by decide) rfl (zn_lt hy0) rfl ?_
  refine z_aln C dX0_note_13 0 rfl ?_
  refine z_get (v := .ref (b 3)) C 0 2 dX0_note_14 rfl rfl rfl hX0 (by decide) (by decide +kernel) rfl ?_
  refine z_aln C dX0_note_17 1 rfl ?_
  refine z_get (v := .int (g 10 0)) C 7 0 dX0_note_18 rfl rfl rfl hX3 (by decide) (by decide +kernel) rfl ?_
  refine z_nm (show nI ((g 10 0).toNatClampNeg) = (g 10 0) from (zn_in hy0)) ?_
  refine z_aln C dX0_note_21 1 rfl ?_
  refine z_get (v := .ref (a 1)) C 7 5 dX0_note_22 rfl rfl rfl hX3 (by decide) (by decide +kernel) rfl ?_
  refine z_cVi (As := []) (rest := [.int (nI ((g 10 0).toNatClampNeg)), .ref (b 3)]) C (mX1_allIce l X a (g 8) (g 9) ) gX0_note_X1_allIce rfl ⟨rfl, by decide, by decide, (by decide : (parseMethodDescriptor yX1_allIce.desc).map (fun d => d.parameters.length) = some 0)⟩ ⟨by decide, by decide⟩ ⟨by decide, by decide⟩ 0 1 rfl rfl [8, 18, 19] [0, 1, 2, 3, 4, 5, 6, 7, 9, 10, 11, 12, 13, 14, 15, 16, 17] [0, 1, 2, 3, 4, 5, 6, 7, 17, 8, 9, 10, 11, 12, 13, 14, 15, 16, 18, 19] rfl rfl (by decide) (by decide) (by decide) (by decide) (NW b a X (va_up gA 1 (upd (gA 1) ((g 10 0).toNatClampNeg) (g 10 5))) g) rfl (Nat.le_of_ble_eq_true rfl) dX0_note_25 rfl ?_
  refine z_iast (f := (gA 2)) C 3 ((g 10 0).toNatClampNeg) (NW b a X (va_up (va_up gA 1 (upd (gA 1) ((g 10 0).toNatClampNeg) (g 10 5))) 2 (upd (gA 2) ((g 10 0).toNatClampNeg) (fX1_allIce (g 8) (g 9)))) g) dX0_note_28 rfl (by decide) rfl (zn_lt hy0) rfl ?_
  refine z_ic C dX0_note_29 0 (by decide) ?_
  refine z_isn C 2 [(2, .int 0), (0, .ref (b 0)), (1, .ref (a 0))] dX0_note_30 rfl (by decide) rfl ?_
  refine z_lv [1, 2, 0] [(0, .ref (b 0)), (1, .ref (a 0)), (2, .int 0)] rfl ?_
  have LPk2 : ∀ (nk2 k2 : Nat) (x1 : zG), k2 + nk2 = 12 → (∃ fl, fl ≤ 720 ∧ x1 6 0 = nI fl) → res = fX0_note_L31 g nk2 k2 x1 → Z p l e { frames := 1, cells := 0, slots := 0, locals := 22 } s m args below meth c X A 3 Q 0 0 (NW b a X x1 g) [(0, .ref (b 0)), (1, .ref (a 0)), (2, .int (nI k2))] 31 [] := by
    intro nk2
    induction nk2 with
    | zero =>
      intro k2 x1 hkk2 hik2 hF
      refine z_iln C dX0_note_31 2 rfl ?_
      refine z_bp C dX0_note_32 12 (by decide) ?_
      refine z_ic_geN C k2 12 110 dX0_note_34 (by decide) rfl rfl (by omega) (by omega) (fun c3 => ?_) (fun c3 => ?_)
      rotate_left
      · exact absurd c3 (by omega)
      exact z_vret C hQ () dX0_note_110 (by rw [hF]; first | done | rfl) (by decide) (by decide)
    | succ nk2 ihk2 =>
      intro k2 x1 hkk2 hik2 hF
      refine z_iln C dX0_note_31 2 rfl ?_
      refine z_bp C dX0_note_32 12 (by decide) ?_
      refine z_ic_geN C k2 12 110 dX0_note_34 (by decide) rfl rfl (by omega) (by omega) (fun c4 => ?_) (fun c4 => ?_)
      · exact absurd c4 (by omega)
      refine z_aln C dX0_note_37 1 rfl ?_
      refine z_get (v := .ref (a 10)) C 7 14 dX0_note_38 rfl rfl rfl hX3 (by decide) (by decide +kernel) rfl ?_
      refine z_iln C dX0_note_41 2 rfl ?_
      refine z_iald (f := (g 7)) C 17 k2 dX0_note_42 rfl (by decide) rfl (by omega) ?_
      refine z_if_le C 104 dX0_note_43 (by decide) (fun c5 => ?_) (fun c5 => ?_)
      · have hF := hF.trans (if_pos c5)
        refine z_inc C 2 (nI (k2 + 1)) [(2, .int (nI (k2 + 1))), (0, .ref (b 0)), (1, .ref (a 0))] dX0_note_104 rfl (nI_add k2 1) (by decide) rfl ?_
        refine z_go C 31 dX0_note_107 (by decide) ?_
        refine z_lv [1, 2, 0] [(0, .ref (b 0)), (1, .ref (a 0)), (2, .int (nI (k2 + 1)))] rfl ?_
        exact ihk2 (k2 + 1) x1 (by omega) (by first | exact hik2 | exact note_keep hik2 c5) hF
      · have hF := hF.trans (if_neg c5)
        refine z_aln C dX0_note_46 0 rfl ?_
        refine z_get (v := .int (x1 6 0)) C 0 6 dX0_note_47 rfl rfl rfl hX0 (by decide) (by decide +kernel) rfl ?_
        refine z_sp C dX0_note_50 720 (by decide) ?_
        refine z_ic_ge C 104 dX0_note_53 (by decide) (fun c6 => ?_) (fun c6 => ?_)
        · have hF := hF.trans (if_pos c6)
          refine z_inc C 2 (nI (k2 + 1)) [(2, .int (nI (k2 + 1))), (0, .ref (b 0)), (1, .ref (a 0))] dX0_note_104 rfl (nI_add k2 1) (by decide) rfl ?_
          refine z_go C 31 dX0_note_107 (by decide) ?_
          refine z_lv [1, 2, 0] [(0, .ref (b 0)), (1, .ref (a 0)), (2, .int (nI (k2 + 1)))] rfl ?_
          exact ihk2 (k2 + 1) x1 (by omega) (by first | exact hik2 | exact note_keep hik2 c6) hF
        · have hF := hF.trans (if_neg c6)
          refine z_aln C dX0_note_56 0 rfl ?_
          refine z_get (v := .ref (b 4)) C 0 3 dX0_note_57 rfl rfl rfl hX0 (by decide) (by decide +kernel) rfl ?_
          refine z_aln C dX0_note_60 0 rfl ?_
          refine z_get (v := .int (x1 6 0)) C 0 6 dX0_note_61 rfl rfl rfl hX0 (by decide) (by decide +kernel) rfl ?_
          refine z_nm (show nI ((x1 6 0).toNatClampNeg) = (x1 6 0) from (note_nat hik2)) ?_
          refine z_aln C dX0_note_64 1 rfl ?_
          refine z_get (v := .int (g 10 0)) C 7 0 dX0_note_65 rfl rfl rfl hX3 (by decide) (by decide +kernel) rfl ?_
          refine z_iast (f := (x1 3)) C 4 ((x1 6 0).toNatClampNeg) (NW b a X (va_up x1 3 (upd (x1 3) ((x1 6 0).toNatClampNeg) (g 10 0))) g) dX0_note_68 rfl (by decide) rfl (note_lt hik2 c6) rfl ?_
          refine z_aln C dX0_note_69 0 rfl ?_
          refine z_get (v := .ref (b 5)) C 0 4 dX0_note_70 rfl rfl rfl hX0 (by decide) (by decide +kernel) rfl ?_
          refine z_aln C dX0_note_73 0 rfl ?_
          refine z_get (v := .int (x1 6 0)) C 0 6 dX0_note_74 rfl rfl rfl hX0 (by decide) (by decide +kernel) rfl ?_
          refine z_nm (show nI ((x1 6 0).toNatClampNeg) = (x1 6 0) from (note_nat hik2)) ?_
          refine z_iln C dX0_note_77 2 rfl ?_
          refine z_iast (f := (x1 4)) C 5 ((x1 6 0).toNatClampNeg) (NW b a X (va_up (va_up x1 3 (upd (x1 3) ((x1 6 0).toNatClampNeg) (g 10 0))) 4 (upd (x1 4) ((x1 6 0).toNatClampNeg) (nI k2))) g) dX0_note_78 rfl (by decide) rfl (note_lt hik2 c6) rfl ?_
          refine z_aln C dX0_note_79 0 rfl ?_
          refine z_get (v := .ref (b 6)) C 0 5 dX0_note_80 rfl rfl rfl hX0 (by decide) (by decide +kernel) rfl ?_
          refine z_aln C dX0_note_83 0 rfl ?_
          refine z_get (v := .int (x1 6 0)) C 0 6 dX0_note_84 rfl rfl rfl hX0 (by decide) (by decide +kernel) rfl ?_
          refine z_nm (show nI ((x1 6 0).toNatClampNeg) = (x1 6 0) from (note_nat hik2)) ?_
          refine z_aln C dX0_note_87 1 rfl ?_
          refine z_get (v := .ref (a 10)) C 7 14 dX0_note_88 rfl rfl rfl hX3 (by decide) (by decide +kernel) rfl ?_
          refine z_iln C dX0_note_91 2 rfl ?_
          refine z_iald (f := (g 7)) C 17 k2 dX0_note_92 rfl (by decide) rfl (by omega) ?_
          refine z_iast (f := (x1 5)) C 6 ((x1 6 0).toNatClampNeg) (NW b a X (va_up (va_up (va_up x1 3 (upd (x1 3) ((x1 6 0).toNatClampNeg) (g 10 0))) 4 (upd (x1 4) ((x1 6 0).toNatClampNeg) (nI k2))) 5 (upd (x1 5) ((x1 6 0).toNatClampNeg) ((g 7) k2))) g) dX0_note_93 rfl (by decide) rfl (note_lt hik2 c6) rfl ?_
          refine z_aln C dX0_note_94 0 rfl ?_
          refine z_dup C dX0_note_95 rfl ?_
          refine z_get (v := .int (x1 6 0)) C 0 6 dX0_note_96 rfl rfl rfl hX0 (by decide) (by decide +kernel) rfl ?_
          refine z_ic C dX0_note_99 1 (by decide) ?_
          refine z_iadd C dX0_note_100 ((x1 6 0) + 1) rfl ?_
          refine z_put C 0 6 (NW b a X (va_up (va_up (va_up (va_up x1 3 (upd (x1 3) ((x1 6 0).toNatClampNeg) (g 10 0))) 4 (upd (x1 4) ((x1 6 0).toNatClampNeg) (nI k2))) 5 (upd (x1 5) ((x1 6 0).toNatClampNeg) ((g 7) k2))) 6 (upd (x1 6) 0 ((x1 6 0) + 1))) g) dX0_note_101 rfl rfl hX0 tyX0_ok nmX0 (by decide) (by decide +kernel) rfl rfl rfl rfl rfl (Nat.le_of_ble_eq_true rfl) rfl ?_
          refine z_inc C 2 (nI (k2 + 1)) [(2, .int (nI (k2 + 1))), (0, .ref (b 0)), (1, .ref (a 0))] dX0_note_104 rfl (nI_add k2 1) (by decide) rfl ?_
          refine z_go C 31 dX0_note_107 (by decide) ?_
          refine z_lv [1, 2, 0] [(0, .ref (b 0)), (1, .ref (a 0)), (2, .int (nI (k2 + 1)))] rfl ?_
          exact ihk2 (k2 + 1) (va_up (va_up (va_up (va_up x1 3 (upd (x1 3) ((x1 6 0).toNatClampNeg) (g 10 0))) 4 (upd (x1 4) ((x1 6 0).toNatClampNeg) (nI k2))) 5 (upd (x1 5) ((x1 6 0).toNatClampNeg) ((g 7) k2))) 6 (upd (x1 6) 0 ((x1 6 0) + 1))) (by omega) (by first | exact hik2 | exact note_keep hik2 c6) hF
  exact LPk2 12 0 (va_up (va_up gA 1 (upd (gA 1) ((g 10 0).toNatClampNeg) (g 10 5))) 2 (upd (gA 2) ((g 10 0).toNatClampNeg) (fX1_allIce (g 8) (g 9)))) (by omega) hy1 hF
set_option maxHeartbeats 4000000 in
set_option maxRecDepth 100000 in
theorem mX2_keep (l : Launch) (X : zX) (a : Nat → Nat) (g : zG) (ya : Int32) (va : Int32) (hy0 : ∃ fl, fl ≤ 10 ∧ g 2 0 = nI fl) : CV l yX2_keep wsX2_keep 0 0 0 0 X (FW a X g) [.ref (a 0), .int ya, .int va] (FW a X (fX2_keep g ya va)) := by
  obtain ⟨res, hF⟩ : ∃ z9r, z9r = fX2_keep g ya va := ⟨_, rfl⟩
  rw [← hF]
  refine cu_intro (cc := cX2_keep) (ret := none) (maxL := 3) (by decide +kernel) rfl (Nat.le_of_ble_eq_true rfl) ?_
  intro p e s m args below meth c A Q C hQ
  have hX2 : ∀ w ∈ wsX20, w ∈ wsX2_keep := by decide +kernel
  show Z p l e { frames := 0, cells := 0, slots := 0, locals := 0 } s m args below meth c X A 3 Q 0 0 (FW a X g) [(0, .ref (a 0)), (1, .int ya), (2, .int va)] 0 []
  refine z_aln C dX2_keep_0 0 rfl ?_
  refine z_get (v := .int (g 2 0)) C 0 2 dX2_keep_1 rfl rfl rfl hX2 (by decide) (by decide +kernel) rfl ?_
  refine z_bp C dX2_keep_4 10 (by decide) ?_
  refine z_ic_ge C 39 dX2_keep_6 (by decide) (fun c1 => ?_) (fun c1 => ?_)
  · have hF := hF.trans (if_pos c1)
    exact z_vret C hQ () dX2_keep_39 (by rw [hF]; first | done | rfl) (by decide) (by decide)
  · have hF := hF.trans (if_neg c1)
    refine z_aln C dX2_keep_9 0 rfl ?_
    refine z_get (v := .ref (a 1)) C 0 0 dX2_keep_10 rfl rfl rfl hX2 (by decide) (by decide +kernel) rfl ?_
    refine z_aln C dX2_keep_13 0 rfl ?_
    refine z_get (v := .int (g 2 0)) C 0 2 dX2_keep_14 rfl rfl rfl hX2 (by decide) (by decide +kernel) rfl ?_
    refine z_nm (show nI ((g 2 0).toNatClampNeg) = (g 2 0) from (keep_nat hy0)) ?_
    refine z_iln C dX2_keep_17 1 rfl ?_
    refine z_iast (f := (g 0)) C 1 ((g 2 0).toNatClampNeg) (FW a X (va_up g 0 (upd (g 0) ((g 2 0).toNatClampNeg) ya))) dX2_keep_18 rfl (by decide) rfl (keep_lt hy0 c1) rfl ?_
    refine z_aln C dX2_keep_19 0 rfl ?_
    refine z_get (v := .ref (a 2)) C 0 1 dX2_keep_20 rfl rfl rfl hX2 (by decide) (by decide +kernel) rfl ?_
    refine z_aln C dX2_keep_23 0 rfl ?_
    refine z_get (v := .int (g 2 0)) C 0 2 dX2_keep_24 rfl rfl rfl hX2 (by decide) (by decide +kernel) rfl ?_
    refine z_nm (show nI ((g 2 0).toNatClampNeg) = (g 2 0) from (keep_nat hy0)) ?_
    refine z_iln C dX2_keep_27 2 rfl ?_
    refine z_iast (f := (g 1)) C 2 ((g 2 0).toNatClampNeg) (FW a X (va_up (va_up g 0 (upd (g 0) ((g 2 0).toNatClampNeg) ya)) 1 (upd (g 1) ((g 2 0).toNatClampNeg) va))) dX2_keep_28 rfl (by decide) rfl (keep_lt hy0 c1) rfl ?_
    refine z_aln C dX2_keep_29 0 rfl ?_
    refine z_dup C dX2_keep_30 rfl ?_
    refine z_get (v := .int (g 2 0)) C 0 2 dX2_keep_31 rfl rfl rfl hX2 (by decide) (by decide +kernel) rfl ?_
    refine z_ic C dX2_keep_34 1 (by decide) ?_
    refine z_iadd C dX2_keep_35 ((g 2 0) + 1) rfl ?_
    refine z_put C 0 2 (FW a X (va_up (va_up (va_up g 0 (upd (g 0) ((g 2 0).toNatClampNeg) ya)) 1 (upd (g 1) ((g 2 0).toNatClampNeg) va)) 2 (upd (g 2) 0 ((g 2 0) + 1)))) dX2_keep_36 rfl rfl hX2 tyX2_ok nmX2 (by decide) (by decide +kernel) rfl rfl rfl rfl rfl (Nat.le_of_ble_eq_true rfl) rfl ?_
    exact z_vret C hQ () dX2_keep_39 (by rw [hF]; first | done | rfl) (by decide) (by decide)
set_option maxHeartbeats 4000000 in
set_option maxRecDepth 100000 in
theorem mX5_needCell (l : Launch) (X : zX) (k : Nat) (hy0 : k < 12) : CV l yX5_needCell wsX5_needCell 0 0 0 0 X [] [.int (nI k)] [] := by
  refine cu_intro (cc := cX5_needCell) (ret := none) (maxL := 1) (by decide +kernel) rfl (Nat.le_of_ble_eq_true rfl) ?_
  intro p e s m args below meth c A Q C hQ
  show Z p l e { frames := 0, cells := 0, slots := 0, locals := 0 } s m args below meth c X A 1 Q 0 0 [] [(0, .int (nI k))] 0 []
  refine z_iln C dX5_needCell_0 0 rfl ?_
  refine z_if_lt C 10 dX5_needCell_1 (by decide) (fun c1 => ?_) (fun c1 => ?_)
  · exact absurd c1 (nI_pos (by omega))
  refine z_iln C dX5_needCell_4 0 rfl ?_
  refine z_bp C dX5_needCell_5 12 (by decide) ?_
  refine z_ic_ltN C k 12 20 dX5_needCell_7 (by decide) rfl rfl (by omega) (by omega) (fun c2 => ?_) (fun c2 => ?_)
  rotate_left
  · exact absurd (by omega) c2
  exact z_vret C hQ () dX5_needCell_20 rfl (by decide) (by decide)
set_option maxHeartbeats 4000000 in
set_option maxRecDepth 100000 in
theorem mX5_needCell_x (l : Launch) (hl : l.stackTraces = false) (X : zX) (v : Int32) (hy0 : ¬ vp_in v 12) : CXv l yX5_needCell wsX5_needCell 6 90 1 6 X [] [.int v] (xIOB) := by
  refine xv_intro (cc := cX5_needCell) (ret := none) (maxL := 1) (by decide +kernel) rfl (Nat.le_of_ble_eq_true rfl) ?_
  intro p e s m args below meth c A Q C hxw hxs hT hQ
  show Z p l e { frames := 6, cells := 1, slots := 6, locals := 90 } s m args below meth c X A 1 Q 0 0 [] [(0, .int v)] 0 []
  refine z_iln C dX5_needCell_0 0 rfl ?_
  refine z_if_lt C 10 dX5_needCell_1 (by decide) (fun c1 => ?_) (fun c1 => ?_)
  · skip
    exact z_throw C hl hxw hxs hT hQ "there is no such cell" dX5_needCell_10 dX5_needCell_13 dX5_needCell_14 dX5_needCell_16 dX5_needCell_19 rfl (by decide +kernel) (by decide +kernel) (by decide +kernel) (by decide +kernel) (by decide) (by decide) (by decide +kernel) (by decide +kernel) (by decide) (Nat.le_of_ble_eq_true rfl) (Nat.le_of_ble_eq_true rfl) (Nat.le_of_ble_eq_true rfl) (Nat.le_of_ble_eq_true rfl) (Nat.le_of_ble_eq_true rfl)
  · skip
    refine z_iln C dX5_needCell_4 0 rfl ?_
    refine z_bp C dX5_needCell_5 12 (by decide) ?_
    refine z_ic_lt C 20 dX5_needCell_7 (by decide) (fun c2 => ?_) (fun c2 => ?_)
    · exact absurd (needc c1 c2) hy0
    exact z_throw C hl hxw hxs hT hQ "there is no such cell" dX5_needCell_10 dX5_needCell_13 dX5_needCell_14 dX5_needCell_16 dX5_needCell_19 rfl (by decide +kernel) (by decide +kernel) (by decide +kernel) (by decide +kernel) (by decide) (by decide) (by decide +kernel) (by decide +kernel) (by decide) (Nat.le_of_ble_eq_true rfl) (Nat.le_of_ble_eq_true rfl) (Nat.le_of_ble_eq_true rfl) (Nat.le_of_ble_eq_true rfl) (Nat.le_of_ble_eq_true rfl)
set_option maxHeartbeats 4000000 in
set_option maxRecDepth 100000 in
theorem mX5_needWithin (l : Launch) (X : zX) (v : Int32) (lo : Int32) (hi : Int32) (hy0 : ¬ v < lo) (hy1 : ¬ hi < v) : CV l yX5_needWithin wsX5_needWithin 0 0 0 0 X [] [.int v, .int lo, .int hi] [] := by
  refine cu_intro (cc := cX5_needWithin) (ret := none) (maxL := 3) (by decide +kernel) rfl (Nat.le_of_ble_eq_true rfl) ?_
  intro p e s m args below meth c A Q C hQ
  show Z p l e { frames := 0, cells := 0, slots := 0, locals := 0 } s m args below meth c X A 3 Q 0 0 [] [(0, .int v), (1, .int lo), (2, .int hi)] 0 []
  refine z_iln C dX5_needWithin_0 0 rfl ?_
  refine z_iln C dX5_needWithin_1 1 rfl ?_
  refine z_ic_lt C 10 dX5_needWithin_2 (by decide) (fun c1 => ?_) (fun c1 => ?_)
  · exact absurd c1 hy0
  refine z_iln C dX5_needWithin_5 0 rfl ?_
  refine z_iln C dX5_needWithin_6 2 rfl ?_
  refine z_ic_le C 20 dX5_needWithin_7 (by decide) (fun c2 => ?_) (fun c2 => ?_)
  rotate_left
  · exact absurd (fa_of_nlt hy1) c2
  exact z_vret C hQ () dX5_needWithin_20 rfl (by decide) (by decide)
set_option maxHeartbeats 4000000 in
set_option maxRecDepth 100000 in
theorem mX5_needWithin_x (l : Launch) (hl : l.stackTraces = false) (X : zX) (v : Int32) (lo : Int32) (hi : Int32) (hy0 : v < lo ∨ hi < v) : CXv l yX5_needWithin wsX5_needWithin 6 90 1 6 X [] [.int v, .int lo, .int hi] (xIAE) := by
  refine xv_intro (cc := cX5_needWithin) (ret := none) (maxL := 3) (by decide +kernel) rfl (Nat.le_of_ble_eq_true rfl) ?_
  intro p e s m args below meth c A Q C hxw hxs hT hQ
  show Z p l e { frames := 6, cells := 1, slots := 6, locals := 90 } s m args below meth c X A 3 Q 0 0 [] [(0, .int v), (1, .int lo), (2, .int hi)] 0 []
  refine z_iln C dX5_needWithin_0 0 rfl ?_
  refine z_iln C dX5_needWithin_1 1 rfl ?_
  refine z_ic_lt C 10 dX5_needWithin_2 (by decide) (fun c1 => ?_) (fun c1 => ?_)
  · skip
    exact z_throw C hl hxw hxs hT hQ "an argument is out of range" dX5_needWithin_10 dX5_needWithin_13 dX5_needWithin_14 dX5_needWithin_16 dX5_needWithin_19 rfl (by decide +kernel) (by decide +kernel) (by decide +kernel) (by decide +kernel) (by decide) (by decide) (by decide +kernel) (by decide +kernel) (by decide) (Nat.le_of_ble_eq_true rfl) (Nat.le_of_ble_eq_true rfl) (Nat.le_of_ble_eq_true rfl) (Nat.le_of_ble_eq_true rfl) (Nat.le_of_ble_eq_true rfl)
  · skip
    refine z_iln C dX5_needWithin_5 0 rfl ?_
    refine z_iln C dX5_needWithin_6 2 rfl ?_
    refine z_ic_le C 20 dX5_needWithin_7 (by decide) (fun c2 => ?_) (fun c2 => ?_)
    · exact absurd c2 (needw hy0 c1)
    exact z_throw C hl hxw hxs hT hQ "an argument is out of range" dX5_needWithin_10 dX5_needWithin_13 dX5_needWithin_14 dX5_needWithin_16 dX5_needWithin_19 rfl (by decide +kernel) (by decide +kernel) (by decide +kernel) (by decide +kernel) (by decide) (by decide) (by decide +kernel) (by decide +kernel) (by decide) (Nat.le_of_ble_eq_true rfl) (Nat.le_of_ble_eq_true rfl) (Nat.le_of_ble_eq_true rfl) (Nat.le_of_ble_eq_true rfl) (Nat.le_of_ble_eq_true rfl)
set_option maxHeartbeats 4000000 in
set_option maxRecDepth 100000 in
theorem mX5_needNotTooLate (l : Launch) (X : zX) (h : Nat → Nat) (a : Nat → Nat) (b : Nat → Nat) (na : Nat → Nat) (nf : Nat → Nat) (gP : zG) (gT : zG) (gA : zG) (gF : zG) (va : Int32) (hy0 : ¬ 60 < gP 10 0 + va) : CV l yX5_needNotTooLate wsX5_needNotTooLate 0 0 0 0 X (IW h a b na nf X gP gT gA gF) [.ref (h 0), .int va] (IW h a b na nf X gP gT gA gF) := by
  refine cu_intro (cc := cX5_needNotTooLate) (ret := none) (maxL := 2) (by decide +kernel) rfl (Nat.le_of_ble_eq_true rfl) ?_
  intro p e s m args below meth c A Q C hQ
  have hX3 : ∀ w ∈ wsX30, w ∈ wsX5_needNotTooLate := by decide +kernel
  have hX5 : ∀ w ∈ wsX50, w ∈ wsX5_needNotTooLate := by decide +kernel
  show Z p l e { frames := 0, cells := 0, slots := 0, locals := 0 } s m args below meth c X A 2 Q 0 0 (IW h a b na nf X gP gT gA gF) [(0, .ref (h 0)), (1, .int va)] 0 []
  refine z_aln C dX5_needNotTooLate_0 0 rfl ?_
  refine z_get (v := .ref (a 0)) C 0 0 dX5_needNotTooLate_1 rfl rfl rfl hX5 (by decide) (by decide +kernel) rfl ?_
  refine z_get (v := .int (gP 10 0)) C 1 0 dX5_needNotTooLate_4 rfl rfl rfl hX3 (by decide) (by decide +kernel) rfl ?_
  refine z_iln C dX5_needNotTooLate_7 1 rfl ?_
  refine z_iadd C dX5_needNotTooLate_8 ((gP 10 0) + va) rfl ?_
  refine z_bp C dX5_needNotTooLate_9 60 (by decide) ?_
  refine z_ic_le C 24 dX5_needNotTooLate_11 (by decide) (fun c1 => ?_) (fun c1 => ?_)
  rotate_left
  · exact absurd (fa_of_nlt hy0) c1
  exact z_vret C hQ () dX5_needNotTooLate_24 rfl (by decide) (by decide)
set_option maxHeartbeats 4000000 in
set_option maxRecDepth 100000 in
theorem mX5_needNotTooLate_x (l : Launch) (hl : l.stackTraces = false) (X : zX) (h : Nat → Nat) (a : Nat → Nat) (b : Nat → Nat) (na : Nat → Nat) (nf : Nat → Nat) (gP : zG) (gT : zG) (gA : zG) (gF : zG) (va : Int32) (hy0 : 60 < gP 10 0 + va) : CXv l yX5_needNotTooLate wsX5_needNotTooLate 6 90 1 6 X (IW h a b na nf X gP gT gA gF) [.ref (h 0), .int va] (xISE) := by
  refine xv_intro (cc := cX5_needNotTooLate) (ret := none) (maxL := 2) (by decide +kernel) rfl (Nat.le_of_ble_eq_true rfl) ?_
  intro p e s m args below meth c A Q C hxw hxs hT hQ
  have hX3 : ∀ w ∈ wsX30, w ∈ wsX5_needNotTooLate := by decide +kernel
  have hX5 : ∀ w ∈ wsX50, w ∈ wsX5_needNotTooLate := by decide +kernel
  show Z p l e { frames := 6, cells := 1, slots := 6, locals := 90 } s m args below meth c X A 2 Q 0 0 (IW h a b na nf X gP gT gA gF) [(0, .ref (h 0)), (1, .int va)] 0 []
  refine z_aln C dX5_needNotTooLate_0 0 rfl ?_
  refine z_get (v := .ref (a 0)) C 0 0 dX5_needNotTooLate_1 rfl rfl rfl hX5 (by decide) (by decide +kernel) rfl ?_
  refine z_get (v := .int (gP 10 0)) C 1 0 dX5_needNotTooLate_4 rfl rfl rfl hX3 (by decide) (by decide +kernel) rfl ?_
  refine z_iln C dX5_needNotTooLate_7 1 rfl ?_
  refine z_iadd C dX5_needNotTooLate_8 ((gP 10 0) + va) rfl ?_
  refine z_bp C dX5_needNotTooLate_9 60 (by decide) ?_
  refine z_ic_le C 24 dX5_needNotTooLate_11 (by decide) (fun c1 => ?_) (fun c1 => ?_)
  · exact absurd hy0 (needl c1)
  exact z_throw C hl hxw hxs hT hQ "it would be above the year 60" dX5_needNotTooLate_14 dX5_needNotTooLate_17 dX5_needNotTooLate_18 dX5_needNotTooLate_20 dX5_needNotTooLate_23 rfl (by decide +kernel) (by decide +kernel) (by decide +kernel) (by decide +kernel) (by decide) (by decide) (by decide +kernel) (by decide +kernel) (by decide) (Nat.le_of_ble_eq_true rfl) (Nat.le_of_ble_eq_true rfl) (Nat.le_of_ble_eq_true rfl) (Nat.le_of_ble_eq_true rfl) (Nat.le_of_ble_eq_true rfl)
set_option maxHeartbeats 4000000 in
set_option maxRecDepth 100000 in
theorem mX5_land (l : Launch) (X : zX) (h : Nat → Nat) (a : Nat → Nat) (b : Nat → Nat) (na : Nat → Nat) (nf : Nat → Nat) (gP : zG) (gT : zG) (gA : zG) (gF : zG) (k : Nat) (ba : Int32) (hy0 : k < 12) (hy1 : ¬ ba < 0) (hy2 : ¬ 500 < ba) (hy3 : ¬ 0 < gP 8 k) (hy4 : ¬ 0 < gP 2 k) : CI l yX5_land wsX5_land 1 22 0 0 X (IW h a b na nf X gP gT gA gF) [.ref (h 0), .int (nI k), .int ba] ((fX5_land gP gT gA gF k ba).1) (IW h a b na nf X ((fX5_land gP gT gA gF k ba).2) gT gA gF) := by
  obtain ⟨res, hF⟩ : ∃ z9r, z9r = fX5_land gP gT gA gF k ba := ⟨_, rfl⟩
  rw [← hF]
  refine ci_intro (cc := cX5_land) (ret := (some .int)) (maxL := 4) (by decide +kernel) rfl (Nat.le_of_ble_eq_true rfl) ?_
  intro p e s m args below meth c A Q C hQ
  have hX1 : ∀ w ∈ wsX10, w ∈ wsX5_land := by decide +kernel
  have hX3 : ∀ w ∈ wsX30, w ∈ wsX5_land := by decide +kernel
  have hX5 : ∀ w ∈ wsX50, w ∈ wsX5_land := by decide +kernel
  show Z p l e { frames := 1, cells := 0, slots := 0, locals := 22 } s m args below meth c X A 4 Q 0 0 (IW h a b na nf X gP gT gA gF) [(0, .ref (h 0)), (1, .int (nI k)), (2, .int ba)] 0 []
  refine z_iln C dX5_land_0 1 rfl ?_
  refine z_cSv0 (As := [.int (nI k)]) (rest := []) C (mX5_needCell l X k (by omega)) gX5_land_X5_needCell rfl ⟨by decide, by decide, (by decide : (parseMethodDescriptor yX5_needCell.desc).map (fun d => d.parameters.length) = some 1)⟩ ⟨by decide, by decide⟩ ⟨by decide, by decide⟩ (Nat.le_of_ble_eq_true rfl) dX5_land_1 rfl ?_
  refine z_iln C dX5_land_4 2 rfl ?_
  refine z_ic C dX5_land_5 0 (by decide) ?_
  refine z_sp C dX5_land_6 500 (by decide) ?_
  refine z_cSv0 (As := [.int ba, .int 0, .int 500]) (rest := []) C (mX5_needWithin l X ba 0 500 hy1 hy2) gX5_land_X5_needWithin rfl ⟨by decide, by decide, (by decide : (parseMethodDescriptor yX5_needWithin.desc).map (fun d => d.parameters.length) = some 3)⟩ ⟨by decide, by decide⟩ ⟨by decide, by decide⟩ (Nat.le_of_ble_eq_true rfl) dX5_land_9 rfl ?_
  refine z_aln C dX5_land_12 0 rfl ?_
  refine z_get (v := .ref (a 0)) C 0 0 dX5_land_13 rfl rfl rfl hX5 (by decide) (by decide +kernel) rfl ?_
  refine z_get (v := .ref (a 1)) C 1 5 dX5_land_16 rfl rfl rfl hX3 (by decide) (by decide +kernel) rfl ?_
  refine z_get (v := .ref (a 11)) C 2 0 dX5_land_19 rfl rfl rfl hX1 (by decide) (by decide +kernel) rfl ?_
  refine z_iln C dX5_land_22 1 rfl ?_
  refine z_iald (f := (gP 8)) C 12 k dX5_land_23 rfl (by decide) rfl (by omega) ?_
  refine z_if_gt C 39 dX5_land_24 (by decide) (fun c1 => ?_) (fun c1 => ?_)
  · exact absurd c1 hy3
  refine z_aln C dX5_land_27 0 rfl ?_
  refine z_get (v := .ref (a 0)) C 0 0 dX5_land_28 rfl rfl rfl hX5 (by decide) (by decide +kernel) rfl ?_
  refine z_get (v := .ref (a 5)) C 1 9 dX5_land_31 rfl rfl rfl hX3 (by decide) (by decide +kernel) rfl ?_
  refine z_iln C dX5_land_34 1 rfl ?_
  refine z_iald (f := (gP 2)) C 6 k dX5_land_35 rfl (by decide) rfl (by omega) ?_
  refine z_if_le C 49 dX5_land_36 (by decide) (fun c2 => ?_) (fun c2 => ?_)
  rotate_left
  · exact absurd (fa_of_nlt hy4) c2
  refine z_aln C dX5_land_49 0 rfl ?_
  refine z_get (v := .ref (a 0)) C 0 0 dX5_land_50 rfl rfl rfl hX5 (by decide) (by decide +kernel) rfl ?_
  refine z_get (v := .ref (a 3)) C 1 7 dX5_land_53 rfl rfl rfl hX3 (by decide) (by decide +kernel) rfl ?_
  refine z_iln C dX5_land_56 1 rfl ?_
  refine z_iald (f := (gP 0)) C 4 k dX5_land_57 rfl (by decide) rfl (by omega) ?_
  refine z_isn C 3 [(3, .int ((gP 0) k)), (0, .ref (h 0)), (1, .int (nI k)), (2, .int ba)] dX5_land_58 rfl (by decide) rfl ?_
  refine z_aln C dX5_land_59 1 rfl ?_
  refine z_get (v := .ref (a 0)) C 0 0 dX5_land_60 rfl rfl rfl hX5 (by decide) (by decide +kernel) rfl ?_
  refine z_get (v := .ref (a 3)) C 1 7 dX5_land_63 rfl rfl rfl hX3 (by decide) (by decide +kernel) rfl ?_
  refine z_iln C dX5_land_66 2 rfl ?_
  refine z_iln C dX5_land_67 3 rfl ?_
  refine z_iast (f := (gP 0)) C 4 k (IW h a b na nf X (va_up gP 0 (upd (gP 0) k ba)) gT gA gF) dX5_land_68 rfl (by decide) rfl (by omega) rfl ?_
  refine z_aln C dX5_land_69 1 rfl ?_
  refine z_get (v := .ref (a 0)) C 0 0 dX5_land_70 rfl rfl rfl hX5 (by decide) (by decide +kernel) rfl ?_
  refine z_get (v := .ref (a 4)) C 1 8 dX5_land_73 rfl rfl rfl hX3 (by decide) (by decide +kernel) rfl ?_
  refine z_iln C dX5_land_76 2 rfl ?_
  refine z_iln C dX5_land_77 3 rfl ?_
  refine z_iast (f := (gP 1)) C 5 k (IW h a b na nf X (va_up (va_up gP 0 (upd (gP 0) k ba)) 1 (upd (gP 1) k ba)) gT gA gF) dX5_land_78 rfl (by decide) rfl (by omega) rfl ?_
  refine z_iln C dX5_land_79 0 rfl ?_
  exact z_iret C hQ dX5_land_80 (by rw [hF]; first | done | rfl) (by rw [hF]; first | done | rfl) (by decide) (by decide)
set_option maxHeartbeats 4000000 in
set_option maxRecDepth 100000 in
theorem mX5_land_x1 (l : Launch) (hl : l.stackTraces = false) (X : zX) (h : Nat → Nat) (a : Nat → Nat) (b : Nat → Nat) (na : Nat → Nat) (nf : Nat → Nat) (gP : zG) (gT : zG) (gA : zG) (gF : zG) (ka : Int32) (ba : Int32) (hy0 : ¬ vp_in ka 12) : CXi l yX5_land wsX5_land 7 110 1 6 X (IW h a b na nf X gP gT gA gF) [.ref (h 0), .int ka, .int ba] (xIOB) := by
  refine xi_intro (cc := cX5_land) (ret := (some .int)) (maxL := 4) (by decide +kernel) rfl (Nat.le_of_ble_eq_true rfl) ?_
  intro p e s m args below meth c A Q C hxw hxs hT hQ
  show Z p l e { frames := 7, cells := 1, slots := 6, locals := 110 } s m args below meth c X A 4 Q 0 0 (IW h a b na nf X gP gT gA gF) [(0, .ref (h 0)), (1, .int ka), (2, .int ba)] 0 []
  refine z_iln C dX5_land_0 1 rfl ?_
  exact z_xS0 (As := [.int ka]) (rest := []) C hxw hxs hT hQ (mX5_needCell_x l hl X ka hy0) gX5_land_X5_needCell rfl ⟨by decide, by decide, (by decide : (parseMethodDescriptor yX5_needCell.desc).map (fun d => d.parameters.length) = some 1)⟩ ⟨by decide, by decide⟩ ⟨by decide, by decide⟩ (Nat.le_of_ble_eq_true rfl) dX5_land_1 rfl (Nat.le_of_ble_eq_true rfl) (Nat.le_of_ble_eq_true rfl)
set_option maxHeartbeats 4000000 in
set_option maxRecDepth 100000 in
theorem mX5_land_x2 (l : Launch) (hl : l.stackTraces = false) (X : zX) (h : Nat → Nat) (a : Nat → Nat) (b : Nat → Nat) (na : Nat → Nat) (nf : Nat → Nat) (gP : zG) (gT : zG) (gA : zG) (gF : zG) (k : Nat) (ba : Int32) (hy0 : k < 12) (hy1 : ba < 0 ∨ 500 < ba) : CXi l yX5_land wsX5_land 7 112 1 6 X (IW h a b na nf X gP gT gA gF) [.ref (h 0), .int (nI k), .int ba] (xIAE) := by
  refine xi_intro (cc := cX5_land) (ret := (some .int)) (maxL := 4) (by decide +kernel) rfl (Nat.le_of_ble_eq_true rfl) ?_
  intro p e s m args below meth c A Q C hxw hxs hT hQ
  show Z p l e { frames := 7, cells := 1, slots := 6, locals := 112 } s m args below meth c X A 4 Q 0 0 (IW h a b na nf X gP gT gA gF) [(0, .ref (h 0)), (1, .int (nI k)), (2, .int ba)] 0 []
  refine z_iln C dX5_land_0 1 rfl ?_
  refine z_cSv0 (As := [.int (nI k)]) (rest := []) C (mX5_needCell l X k (by omega)) gX5_land_X5_needCell rfl ⟨by decide, by decide, (by decide : (parseMethodDescriptor yX5_needCell.desc).map (fun d => d.parameters.length) = some 1)⟩ ⟨by decide, by decide⟩ ⟨by decide, by decide⟩ (Nat.le_of_ble_eq_true rfl) dX5_land_1 rfl ?_
  refine z_iln C dX5_land_4 2 rfl ?_
  refine z_ic C dX5_land_5 0 (by decide) ?_
  refine z_sp C dX5_land_6 500 (by decide) ?_
  exact z_xS0 (As := [.int ba, .int 0, .int 500]) (rest := []) C hxw hxs hT hQ (mX5_needWithin_x l hl X ba 0 500 hy1) gX5_land_X5_needWithin rfl ⟨by decide, by decide, (by decide : (parseMethodDescriptor yX5_needWithin.desc).map (fun d => d.parameters.length) = some 3)⟩ ⟨by decide, by decide⟩ ⟨by decide, by decide⟩ (Nat.le_of_ble_eq_true rfl) dX5_land_9 rfl (Nat.le_of_ble_eq_true rfl) (Nat.le_of_ble_eq_true rfl)
set_option maxHeartbeats 4000000 in
set_option maxRecDepth 100000 in
theorem mX5_land_x3 (l : Launch) (hl : l.stackTraces = false) (X : zX) (h : Nat → Nat) (a : Nat → Nat) (b : Nat → Nat) (na : Nat → Nat) (nf : Nat → Nat) (gP : zG) (gT : zG) (gA : zG) (gF : zG) (k : Nat) (ba : Int32) (hy0 : k < 12) (hy1 : ¬ ba < 0) (hy2 : ¬ 500 < ba) (hy3 : 0 < gP 8 k ∨ 0 < gP 2 k) : CXi l yX5_land wsX5_land 6 90 1 6 X (IW h a b na nf X gP gT gA gF) [.ref (h 0), .int (nI k), .int ba] (xISE) := by
  refine xi_intro (cc := cX5_land) (ret := (some .int)) (maxL := 4) (by decide +kernel) rfl (Nat.le_of_ble_eq_true rfl) ?_
  intro p e s m args below meth c A Q C hxw hxs hT hQ
  have hX1 : ∀ w ∈ wsX10, w ∈ wsX5_land := by decide +kernel
  have hX3 : ∀ w ∈ wsX30, w ∈ wsX5_land := by decide +kernel
  have hX5 : ∀ w ∈ wsX50, w ∈ wsX5_land := by decide +kernel
  show Z p l e { frames := 6, cells := 1, slots := 6, locals := 90 } s m args below meth c X A 4 Q 0 0 (IW h a b na nf X gP gT gA gF) [(0, .ref (h 0)), (1, .int (nI k)), (2, .int ba)] 0 []
  refine z_iln C dX5_land_0 1 rfl ?_
  refine z_cSv0 (As := [.int (nI k)]) (rest := []) C (mX5_needCell l X k (by omega)) gX5_land_X5_needCell rfl ⟨by decide, by decide, (by decide : (parseMethodDescriptor yX5_needCell.desc).map (fun d => d.parameters.length) = some 1)⟩ ⟨by decide, by decide⟩ ⟨by decide, by decide⟩ (Nat.le_of_ble_eq_true rfl) dX5_land_1 rfl ?_
  refine z_iln C dX5_land_4 2 rfl ?_
  refine z_ic C dX5_land_5 0 (by decide) ?_
  refine z_sp C dX5_land_6 500 (by decide) ?_
  refine z_cSv0 (As := [.int ba, .int 0, .int 500]) (rest := []) C (mX5_needWithin l X ba 0 500 hy1 hy2) gX5_land_X5_needWithin rfl ⟨by decide, by decide, (by decide : (parseMethodDescriptor yX5_needWithin.desc).map (fun d => d.parameters.length) = some 3)⟩ ⟨by decide, by decide⟩ ⟨by decide, by decide⟩ (Nat.le_of_ble_eq_true rfl) dX5_land_9 rfl ?_
  refine z_aln C dX5_land_12 0 rfl ?_
  refine z_get (v := .ref (a 0)) C 0 0 dX5_land_13 rfl rfl rfl hX5 (by decide) (by decide +kernel) rfl ?_
  refine z_get (v := .ref (a 1)) C 1 5 dX5_land_16 rfl rfl rfl hX3 (by decide) (by decide +kernel) rfl ?_
  refine z_get (v := .ref (a 11)) C 2 0 dX5_land_19 rfl rfl rfl hX1 (by decide) (by decide +kernel) rfl ?_
  refine z_iln C dX5_land_22 1 rfl ?_
  refine z_iald (f := (gP 8)) C 12 k dX5_land_23 rfl (by decide) rfl (by omega) ?_
  refine z_if_gt C 39 dX5_land_24 (by decide) (fun c1 => ?_) (fun c1 => ?_)
  · skip
    exact z_throw C hl hxw hxs hT hQ "the cell has ice or water" dX5_land_39 dX5_land_42 dX5_land_43 dX5_land_45 dX5_land_48 rfl (by decide +kernel) (by decide +kernel) (by decide +kernel) (by decide +kernel) (by decide) (by decide) (by decide +kernel) (by decide +kernel) (by decide) (Nat.le_of_ble_eq_true rfl) (Nat.le_of_ble_eq_true rfl) (Nat.le_of_ble_eq_true rfl) (Nat.le_of_ble_eq_true rfl) (Nat.le_of_ble_eq_true rfl)
  · skip
    refine z_aln C dX5_land_27 0 rfl ?_
    refine z_get (v := .ref (a 0)) C 0 0 dX5_land_28 rfl rfl rfl hX5 (by decide) (by decide +kernel) rfl ?_
    refine z_get (v := .ref (a 5)) C 1 9 dX5_land_31 rfl rfl rfl hX3 (by decide) (by decide +kernel) rfl ?_
    refine z_iln C dX5_land_34 1 rfl ?_
    refine z_iald (f := (gP 2)) C 6 k dX5_land_35 rfl (by decide) rfl (by omega) ?_
    refine z_if_le C 49 dX5_land_36 (by decide) (fun c2 => ?_) (fun c2 => ?_)
    · exact absurd c2 (landx hy3 c1)
    exact z_throw C hl hxw hxs hT hQ "the cell has ice or water" dX5_land_39 dX5_land_42 dX5_land_43 dX5_land_45 dX5_land_48 rfl (by decide +kernel) (by decide +kernel) (by decide +kernel) (by decide +kernel) (by decide) (by decide) (by decide +kernel) (by decide +kernel) (by decide) (Nat.le_of_ble_eq_true rfl) (Nat.le_of_ble_eq_true rfl) (Nat.le_of_ble_eq_true rfl) (Nat.le_of_ble_eq_true rfl) (Nat.le_of_ble_eq_true rfl)
set_option maxHeartbeats 4000000 in
set_option maxRecDepth 100000 in
theorem mX5_sea (l : Launch) (X : zX) (h : Nat → Nat) (a : Nat → Nat) (b : Nat → Nat) (na : Nat → Nat) (nf : Nat → Nat) (gP : zG) (gT : zG) (gA : zG) (gF : zG) (va : Int32) (hy0 : ¬ va < 0) (hy1 : ¬ 500 < va) : CI l yX5_sea wsX5_sea 1 22 0 0 X (IW h a b na nf X gP gT gA gF) [.ref (h 0), .int va] ((fX5_sea gP gT gA gF va).1) (IW h a b na nf X ((fX5_sea gP gT gA gF va).2) gT gA gF) := by
  obtain ⟨res, hF⟩ : ∃ z9r, z9r = fX5_sea gP gT gA gF va := ⟨_, rfl⟩
  rw [← hF]
  refine ci_intro (cc := cX5_sea) (ret := (some .int)) (maxL := 3) (by decide +kernel) rfl (Nat.le_of_ble_eq_true rfl) ?_
  intro p e s m args below meth c A Q C hQ
  have hX3 : ∀ w ∈ wsX30, w ∈ wsX5_sea := by decide +kernel
  have hX5 : ∀ w ∈ wsX50, w ∈ wsX5_sea := by decide +kernel
  show Z p l e { frames := 1, cells := 0, slots := 0, locals := 22 } s m args below meth c X A 3 Q 0 0 (IW h a b na nf X gP gT gA gF) [(0, .ref (h 0)), (1, .int va)] 0 []
  refine z_iln C dX5_sea_0 1 rfl ?_
  refine z_ic C dX5_sea_1 0 (by decide) ?_
  refine z_sp C dX5_sea_2 500 (by decide) ?_
  refine z_cSv0 (As := [.int va, .int 0, .int 500]) (rest := []) C (mX5_needWithin l X va 0 500 hy0 hy1) gX5_sea_X5_needWithin rfl ⟨by decide, by decide, (by decide : (parseMethodDescriptor yX5_needWithin.desc).map (fun d => d.parameters.length) = some 3)⟩ ⟨by decide, by decide⟩ ⟨by decide, by decide⟩ (Nat.le_of_ble_eq_true rfl) dX5_sea_5 rfl ?_
  refine z_aln C dX5_sea_8 0 rfl ?_
  refine z_get (v := .ref (a 0)) C 0 0 dX5_sea_9 rfl rfl rfl hX5 (by decide) (by decide +kernel) rfl ?_
  refine z_get (v := .int (gP 10 1)) C 1 1 dX5_sea_12 rfl rfl rfl hX3 (by decide) (by decide +kernel) rfl ?_
  refine z_isn C 2 [(2, .int (gP 10 1)), (0, .ref (h 0)), (1, .int va)] dX5_sea_15 rfl (by decide) rfl ?_
  refine z_aln C dX5_sea_16 1 rfl ?_
  refine z_get (v := .ref (a 0)) C 0 0 dX5_sea_17 rfl rfl rfl hX5 (by decide) (by decide +kernel) rfl ?_
  refine z_iln C dX5_sea_20 2 rfl ?_
  refine z_put C 1 1 (IW h a b na nf X (va_up gP 10 (upd (gP 10) 1 va)) gT gA gF) dX5_sea_21 rfl rfl hX3 tyX3_ok nmX3 (by decide) (by decide +kernel) rfl rfl rfl rfl rfl (Nat.le_of_ble_eq_true rfl) rfl ?_
  refine z_iln C dX5_sea_24 0 rfl ?_
  exact z_iret C hQ dX5_sea_25 (by rw [hF]; first | done | rfl) (by rw [hF]; first | done | rfl) (by decide) (by decide)
set_option maxHeartbeats 4000000 in
set_option maxRecDepth 100000 in
theorem mX5_sea_x1 (l : Launch) (hl : l.stackTraces = false) (X : zX) (h : Nat → Nat) (a : Nat → Nat) (b : Nat → Nat) (na : Nat → Nat) (nf : Nat → Nat) (gP : zG) (gT : zG) (gA : zG) (gF : zG) (va : Int32) (hy0 : va < 0 ∨ 500 < va) : CXi l yX5_sea wsX5_sea 7 112 1 6 X (IW h a b na nf X gP gT gA gF) [.ref (h 0), .int va] (xIAE) := by
  refine xi_intro (cc := cX5_sea) (ret := (some .int)) (maxL := 3) (by decide +kernel) rfl (Nat.le_of_ble_eq_true rfl) ?_
  intro p e s m args below meth c A Q C hxw hxs hT hQ
  show Z p l e { frames := 7, cells := 1, slots := 6, locals := 112 } s m args below meth c X A 3 Q 0 0 (IW h a b na nf X gP gT gA gF) [(0, .ref (h 0)), (1, .int va)] 0 []
  refine z_iln C dX5_sea_0 1 rfl ?_
  refine z_ic C dX5_sea_1 0 (by decide) ?_
  refine z_sp C dX5_sea_2 500 (by decide) ?_
  exact z_xS0 (As := [.int va, .int 0, .int 500]) (rest := []) C hxw hxs hT hQ (mX5_needWithin_x l hl X va 0 500 hy0) gX5_sea_X5_needWithin rfl ⟨by decide, by decide, (by decide : (parseMethodDescriptor yX5_needWithin.desc).map (fun d => d.parameters.length) = some 3)⟩ ⟨by decide, by decide⟩ ⟨by decide, by decide⟩ (Nat.le_of_ble_eq_true rfl) dX5_sea_5 rfl (Nat.le_of_ble_eq_true rfl) (Nat.le_of_ble_eq_true rfl)
set_option maxHeartbeats 4000000 in
set_option maxRecDepth 100000 in
theorem mX5_climate (l : Launch) (X : zX) (h : Nat → Nat) (a : Nat → Nat) (b : Nat → Nat) (na : Nat → Nat) (nf : Nat → Nat) (gP : zG) (gT : zG) (gA : zG) (gF : zG) (va : Int32) (vb : Int32) (vc : Int32) (hy0 : ¬ va < (-300)) (hy1 : ¬ 300 < va) (hy2 : ¬ vb < 0) (hy3 : ¬ 20 < vb) (hy4 : ¬ vc < 0) (hy5 : ¬ 9 < vc) : CV l yX5_climate wsX5_climate 1 22 0 0 X (IW h a b na nf X gP gT gA gF) [.ref (h 0), .int va, .int vb, .int vc] (IW h a b na nf X (fX5_climate gP gT gA gF va vb vc) gT gA gF) := by
  obtain ⟨res, hF⟩ : ∃ z9r, z9r = fX5_climate gP gT gA gF va vb vc := ⟨_, rfl⟩
  rw [← hF]
  refine cu_intro (cc := cX5_climate) (ret := none) (maxL := 4) (by decide +kernel) rfl (Nat.le_of_ble_eq_true rfl) ?_
  intro p e s m args below meth c A Q C hQ
  have hX3 : ∀ w ∈ wsX30, w ∈ wsX5_climate := by decide +kernel
  have hX5 : ∀ w ∈ wsX50, w ∈ wsX5_climate := by decide +kernel
  show Z p l e { frames := 1, cells := 0, slots := 0, locals := 22 } s m args below meth c X A 4 Q 0 0 (IW h a b na nf X gP gT gA gF) [(0, .ref (h 0)), (1, .int va), (2, .int vb), (3, .int vc)] 0 []
  refine z_iln C dX5_climate_0 1 rfl ?_
  refine z_sp C dX5_climate_1 (-300) (by decide) ?_
  refine z_sp C dX5_climate_4 300 (by decide) ?_
  refine z_cSv0 (As := [.int va, .int (-300), .int 300]) (rest := []) C (mX5_needWithin l X va (-300) 300 hy0 hy1) gX5_climate_X5_needWithin rfl ⟨by decide, by decide, (by decide : (parseMethodDescriptor yX5_needWithin.desc).map (fun d => d.parameters.length) = some 3)⟩ ⟨by decide, by decide⟩ ⟨by decide, by decide⟩ (Nat.le_of_ble_eq_true rfl) dX5_climate_7 rfl ?_
  refine z_iln C dX5_climate_10 2 rfl ?_
  refine z_ic C dX5_climate_11 0 (by decide) ?_
  refine z_bp C dX5_climate_12 20 (by decide) ?_
  refine z_cSv0 (As := [.int vb, .int 0, .int 20]) (rest := []) C (mX5_needWithin l X vb 0 20 hy2 hy3) gX5_climate_X5_needWithin rfl ⟨by decide, by decide, (by decide : (parseMethodDescriptor yX5_needWithin.desc).map (fun d => d.parameters.length) = some 3)⟩ ⟨by decide, by decide⟩ ⟨by decide, by decide⟩ (Nat.le_of_ble_eq_true rfl) dX5_climate_14 rfl ?_
  refine z_iln C dX5_climate_17 3 rfl ?_
  refine z_ic C dX5_climate_18 0 (by decide) ?_
  refine z_bp C dX5_climate_19 9 (by decide) ?_
  refine z_cSv0 (As := [.int vc, .int 0, .int 9]) (rest := []) C (mX5_needWithin l X vc 0 9 hy4 hy5) gX5_climate_X5_needWithin rfl ⟨by decide, by decide, (by decide : (parseMethodDescriptor yX5_needWithin.desc).map (fun d => d.parameters.length) = some 3)⟩ ⟨by decide, by decide⟩ ⟨by decide, by decide⟩ (Nat.le_of_ble_eq_true rfl) dX5_climate_21 rfl ?_
  refine z_aln C dX5_climate_24 0 rfl ?_
  refine z_get (v := .ref (a 0)) C 0 0 dX5_climate_25 rfl rfl rfl hX5 (by decide) (by decide +kernel) rfl ?_
  refine z_iln C dX5_climate_28 1 rfl ?_
  refine z_put C 1 2 (IW h a b na nf X (va_up gP 10 (upd (gP 10) 2 va)) gT gA gF) dX5_climate_29 rfl rfl hX3 tyX3_ok nmX3 (by decide) (by decide +kernel) rfl rfl rfl rfl rfl (Nat.le_of_ble_eq_true rfl) rfl ?_
  refine z_aln C dX5_climate_32 0 rfl ?_
  refine z_get (v := .ref (a 0)) C 0 0 dX5_climate_33 rfl rfl rfl hX5 (by decide) (by decide +kernel) rfl ?_
  refine z_iln C dX5_climate_36 2 rfl ?_
  refine z_put C 1 3 (IW h a b na nf X (va_up (va_up gP 10 (upd (gP 10) 2 va)) 10 (upd (upd (gP 10) 2 va) 3 vb)) gT gA gF) dX5_climate_37 rfl rfl hX3 tyX3_ok nmX3 (by decide) (by decide +kernel) rfl rfl rfl rfl rfl (Nat.le_of_ble_eq_true rfl) rfl ?_
  refine z_aln C dX5_climate_40 0 rfl ?_
  refine z_get (v := .ref (a 0)) C 0 0 dX5_climate_41 rfl rfl rfl hX5 (by decide) (by decide +kernel) rfl ?_
  refine z_iln C dX5_climate_44 3 rfl ?_
  refine z_put C 1 4 (IW h a b na nf X (va_up (va_up (va_up gP 10 (upd (gP 10) 2 va)) 10 (upd (upd (gP 10) 2 va) 3 vb)) 10 (upd (upd (upd (gP 10) 2 va) 3 vb) 4 vc)) gT gA gF) dX5_climate_45 rfl rfl hX3 tyX3_ok nmX3 (by decide) (by decide +kernel) rfl rfl rfl rfl rfl (Nat.le_of_ble_eq_true rfl) rfl ?_
  exact z_vret C hQ () dX5_climate_48 (by rw [hF]; first | done | rfl) (by decide) (by decide)
set_option maxHeartbeats 4000000 in
set_option maxRecDepth 100000 in
theorem mX5_climate_x1 (l : Launch) (hl : l.stackTraces = false) (X : zX) (h : Nat → Nat) (a : Nat → Nat) (b : Nat → Nat) (na : Nat → Nat) (nf : Nat → Nat) (gP : zG) (gT : zG) (gA : zG) (gF : zG) (va : Int32) (vb : Int32) (vc : Int32) (hy0 : va < (-300) ∨ 300 < va) : CXv l yX5_climate wsX5_climate 7 112 1 6 X (IW h a b na nf X gP gT gA gF) [.ref (h 0), .int va, .int vb, .int vc] (xIAE) := by
  refine xv_intro (cc := cX5_climate) (ret := none) (maxL := 4) (by decide +kernel) rfl (Nat.le_of_ble_eq_true rfl) ?_
  intro p e s m args below meth c A Q C hxw hxs hT hQ
  show Z p l e { frames := 7, cells := 1, slots := 6, locals := 112 } s m args below meth c X A 4 Q 0 0 (IW h a b na nf X gP gT gA gF) [(0, .ref (h 0)), (1, .int va), (2, .int vb), (3, .int vc)] 0 []
  refine z_iln C dX5_climate_0 1 rfl ?_
  refine z_sp C dX5_climate_1 (-300) (by decide) ?_
  refine z_sp C dX5_climate_4 300 (by decide) ?_
  exact z_xS0 (As := [.int va, .int (-300), .int 300]) (rest := []) C hxw hxs hT hQ (mX5_needWithin_x l hl X va (-300) 300 hy0) gX5_climate_X5_needWithin rfl ⟨by decide, by decide, (by decide : (parseMethodDescriptor yX5_needWithin.desc).map (fun d => d.parameters.length) = some 3)⟩ ⟨by decide, by decide⟩ ⟨by decide, by decide⟩ (Nat.le_of_ble_eq_true rfl) dX5_climate_7 rfl (Nat.le_of_ble_eq_true rfl) (Nat.le_of_ble_eq_true rfl)
set_option maxHeartbeats 4000000 in
set_option maxRecDepth 100000 in
theorem mX5_climate_x2 (l : Launch) (hl : l.stackTraces = false) (X : zX) (h : Nat → Nat) (a : Nat → Nat) (b : Nat → Nat) (na : Nat → Nat) (nf : Nat → Nat) (gP : zG) (gT : zG) (gA : zG) (gF : zG) (va : Int32) (vb : Int32) (vc : Int32) (hy0 : ¬ va < (-300)) (hy1 : ¬ 300 < va) (hy2 : vb < 0 ∨ 20 < vb) : CXv l yX5_climate wsX5_climate 7 112 1 6 X (IW h a b na nf X gP gT gA gF) [.ref (h 0), .int va, .int vb, .int vc] (xIAE) := by
  refine xv_intro (cc := cX5_climate) (ret := none) (maxL := 4) (by decide +kernel) rfl (Nat.le_of_ble_eq_true rfl) ?_
  intro p e s m args below meth c A Q C hxw hxs hT hQ
  show Z p l e { frames := 7, cells := 1, slots := 6, locals := 112 } s m args below meth c X A 4 Q 0 0 (IW h a b na nf X gP gT gA gF) [(0, .ref (h 0)), (1, .int va), (2, .int vb), (3, .int vc)] 0 []
  refine z_iln C dX5_climate_0 1 rfl ?_
  refine z_sp C dX5_climate_1 (-300) (by decide) ?_
  refine z_sp C dX5_climate_4 300 (by decide) ?_
  refine z_cSv0 (As := [.int va, .int (-300), .int 300]) (rest := []) C (mX5_needWithin l X va (-300) 300 hy0 hy1) gX5_climate_X5_needWithin rfl ⟨by decide, by decide, (by decide : (parseMethodDescriptor yX5_needWithin.desc).map (fun d => d.parameters.length) = some 3)⟩ ⟨by decide, by decide⟩ ⟨by decide, by decide⟩ (Nat.le_of_ble_eq_true rfl) dX5_climate_7 rfl ?_
  refine z_iln C dX5_climate_10 2 rfl ?_
  refine z_ic C dX5_climate_11 0 (by decide) ?_
  refine z_bp C dX5_climate_12 20 (by decide) ?_
  exact z_xS0 (As := [.int vb, .int 0, .int 20]) (rest := []) C hxw hxs hT hQ (mX5_needWithin_x l hl X vb 0 20 hy2) gX5_climate_X5_needWithin rfl ⟨by decide, by decide, (by decide : (parseMethodDescriptor yX5_needWithin.desc).map (fun d => d.parameters.length) = some 3)⟩ ⟨by decide, by decide⟩ ⟨by decide, by decide⟩ (Nat.le_of_ble_eq_true rfl) dX5_climate_14 rfl (Nat.le_of_ble_eq_true rfl) (Nat.le_of_ble_eq_true rfl)
set_option maxHeartbeats 4000000 in
set_option maxRecDepth 100000 in
theorem mX5_climate_x3 (l : Launch) (hl : l.stackTraces = false) (X : zX) (h : Nat → Nat) (a : Nat → Nat) (b : Nat → Nat) (na : Nat → Nat) (nf : Nat → Nat) (gP : zG) (gT : zG) (gA : zG) (gF : zG) (va : Int32) (vb : Int32) (vc : Int32) (hy0 : ¬ va < (-300)) (hy1 : ¬ 300 < va) (hy2 : ¬ vb < 0) (hy3 : ¬ 20 < vb) (hy4 : vc < 0 ∨ 9 < vc) : CXv l yX5_climate wsX5_climate 7 112 1 6 X (IW h a b na nf X gP gT gA gF) [.ref (h 0), .int va, .int vb, .int vc] (xIAE) := by
  refine xv_intro (cc := cX5_climate) (ret := none) (maxL := 4) (by decide +kernel) rfl (Nat.le_of_ble_eq_true rfl) ?_
  intro p e s m args below meth c A Q C hxw hxs hT hQ
  show Z p l e { frames := 7, cells := 1, slots := 6, locals := 112 } s m args below meth c X A 4 Q 0 0 (IW h a b na nf X gP gT gA gF) [(0, .ref (h 0)), (1, .int va), (2, .int vb), (3, .int vc)] 0 []
  refine z_iln C dX5_climate_0 1 rfl ?_
  refine z_sp C dX5_climate_1 (-300) (by decide) ?_
  refine z_sp C dX5_climate_4 300 (by decide) ?_
  refine z_cSv0 (As := [.int va, .int (-300), .int 300]) (rest := []) C (mX5_needWithin l X va (-300) 300 hy0 hy1) gX5_climate_X5_needWithin rfl ⟨by decide, by decide, (by decide : (parseMethodDescriptor yX5_needWithin.desc).map (fun d => d.parameters.length) = some 3)⟩ ⟨by decide, by decide⟩ ⟨by decide, by decide⟩ (Nat.le_of_ble_eq_true rfl) dX5_climate_7 rfl ?_
  refine z_iln C dX5_climate_10 2 rfl ?_
  refine z_ic C dX5_climate_11 0 (by decide) ?_
  refine z_bp C dX5_climate_12 20 (by decide) ?_
  refine z_cSv0 (As := [.int vb, .int 0, .int 20]) (rest := []) C (mX5_needWithin l X vb 0 20 hy2 hy3) gX5_climate_X5_needWithin rfl ⟨by decide, by decide, (by decide : (parseMethodDescriptor yX5_needWithin.desc).map (fun d => d.parameters.length) = some 3)⟩ ⟨by decide, by decide⟩ ⟨by decide, by decide⟩ (Nat.le_of_ble_eq_true rfl) dX5_climate_14 rfl ?_
  refine z_iln C dX5_climate_17 3 rfl ?_
  refine z_ic C dX5_climate_18 0 (by decide) ?_
  refine z_bp C dX5_climate_19 9 (by decide) ?_
  exact z_xS0 (As := [.int vc, .int 0, .int 9]) (rest := []) C hxw hxs hT hQ (mX5_needWithin_x l hl X vc 0 9 hy4) gX5_climate_X5_needWithin rfl ⟨by decide, by decide, (by decide : (parseMethodDescriptor yX5_needWithin.desc).map (fun d => d.parameters.length) = some 3)⟩ ⟨by decide, by decide⟩ ⟨by decide, by decide⟩ (Nat.le_of_ble_eq_true rfl) dX5_climate_21 rfl (Nat.le_of_ble_eq_true rfl) (Nat.le_of_ble_eq_true rfl)
set_option maxHeartbeats 4000000 in
set_option maxRecDepth 100000 in
theorem mX5_ice (l : Launch) (X : zX) (h : Nat → Nat) (a : Nat → Nat) (b : Nat → Nat) (na : Nat → Nat) (nf : Nat → Nat) (gP : zG) (gT : zG) (gA : zG) (gF : zG) (k : Nat) (va : Int32) (hy0 : k < 12) (hy1 : ¬ va < 1) (hy2 : ¬ 999 < va) (hy3 : ¬ 9999 < gP 8 k + va) (hy4 : vp_in (gP 10 0) 61) : CI l yX5_ice wsX5_ice 1 23 0 0 X (IW h a b na nf X gP gT gA gF) [.ref (h 0), .int (nI k), .int va] ((fX5_ice gP gT gA gF k va).1) (IW h a b na nf X ((fX5_ice gP gT gA gF k va).2) gT gA gF) := by
  obtain ⟨res, hF⟩ : ∃ z9r, z9r = fX5_ice gP gT gA gF k va := ⟨_, rfl⟩
  rw [← hF]
  refine ci_intro (cc := cX5_ice) (ret := (some .int)) (maxL := 3) (by decide +kernel) rfl (Nat.le_of_ble_eq_true rfl) ?_
  intro p e s m args below meth c A Q C hQ
  have hX1 : ∀ w ∈ wsX10, w ∈ wsX5_ice := by decide +kernel
  have hX3 : ∀ w ∈ wsX30, w ∈ wsX5_ice := by decide +kernel
  have hX4 : ∀ w ∈ wsX40, w ∈ wsX5_ice := by decide +kernel
  have hX5 : ∀ w ∈ wsX50, w ∈ wsX5_ice := by decide +kernel
  show Z p l e { frames := 1, cells := 0, slots := 0, locals := 23 } s m args below meth c X A 3 Q 0 0 (IW h a b na nf X gP gT gA gF) [(0, .ref (h 0)), (1, .int (nI k)), (2, .int va)] 0 []
  refine z_iln C dX5_ice_0 1 rfl ?_
  refine z_cSv0 (As := [.int (nI k)]) (rest := []) C (mX5_needCell l X k (by omega)) gX5_ice_X5_needCell rfl ⟨by decide, by decide, (by decide : (parseMethodDescriptor yX5_needCell.desc).map (fun d => d.parameters.length) = some 1)⟩ ⟨by decide, by decide⟩ ⟨by decide, by decide⟩ (Nat.le_of_ble_eq_true rfl) dX5_ice_1 rfl ?_
  refine z_iln C dX5_ice_4 2 rfl ?_
  refine z_ic C dX5_ice_5 1 (by decide) ?_
  refine z_sp C dX5_ice_6 999 (by decide) ?_
  refine z_cSv0 (As := [.int va, .int 1, .int 999]) (rest := []) C (mX5_needWithin l X va 1 999 hy1 hy2) gX5_ice_X5_needWithin rfl ⟨by decide, by decide, (by decide : (parseMethodDescriptor yX5_needWithin.desc).map (fun d => d.parameters.length) = some 3)⟩ ⟨by decide, by decide⟩ ⟨by decide, by decide⟩ (Nat.le_of_ble_eq_true rfl) dX5_ice_9 rfl ?_
  refine z_aln C dX5_ice_12 0 rfl ?_
  refine z_get (v := .ref (a 0)) C 0 0 dX5_ice_13 rfl rfl rfl hX5 (by decide) (by decide +kernel) rfl ?_
  refine z_get (v := .ref (a 1)) C 1 5 dX5_ice_16 rfl rfl rfl hX3 (by decide) (by decide +kernel) rfl ?_
  refine z_get (v := .ref (a 11)) C 2 0 dX5_ice_19 rfl rfl rfl hX1 (by decide) (by decide +kernel) rfl ?_
  refine z_iln C dX5_ice_22 1 rfl ?_
  refine z_iald (f := (gP 8)) C 12 k dX5_ice_23 rfl (by decide) rfl (by omega) ?_
  refine z_iln C dX5_ice_24 2 rfl ?_
  refine z_iadd C dX5_ice_25 (((gP 8) k) + va) rfl ?_
  refine z_sp C dX5_ice_26 9999 (by decide) ?_
  refine z_ic_le C 42 dX5_ice_29 (by decide) (fun c1 => ?_) (fun c1 => ?_)
  rotate_left
  · exact absurd (fa_of_nlt hy3) c1
  refine z_aln C dX5_ice_42 0 rfl ?_
  refine z_get (v := .ref (a 0)) C 0 0 dX5_ice_43 rfl rfl rfl hX5 (by decide) (by decide +kernel) rfl ?_
  refine z_get (v := .ref (a 1)) C 1 5 dX5_ice_46 rfl rfl rfl hX3 (by decide) (by decide +kernel) rfl ?_
  refine z_iln C dX5_ice_49 1 rfl ?_
  refine z_aln C dX5_ice_50 0 rfl ?_
  refine z_get (v := .ref (a 0)) C 0 0 dX5_ice_51 rfl rfl rfl hX5 (by decide) (by decide +kernel) rfl ?_
  refine z_get (v := .int (gP 10 0)) C 1 0 dX5_ice_54 rfl rfl rfl hX3 (by decide) (by decide +kernel) rfl ?_
  refine z_nm (show nI ((gP 10 0).toNatClampNeg) = (gP 10 0) from (zn_in hy4)) ?_
  refine z_iln C dX5_ice_57 2 rfl ?_
  refine z_cVu (As := [.int (nI k), .int (nI ((gP 10 0).toNatClampNeg)), .int va]) (rest := []) C (mX1_lay l X a (gP 8) (gP 9) k ((gP 10 0).toNatClampNeg) va (by omega) (zn_lt hy4)) gX5_ice_X1_lay rfl ⟨rfl, by decide, by decide, (by decide : (parseMethodDescriptor yX1_lay.desc).map (fun d => d.parameters.length) = some 3)⟩ ⟨by decide, by decide⟩ ⟨by decide, by decide⟩ 0 1 rfl rfl [2, 12, 13] [0, 1, 3, 4, 5, 6, 7, 8, 9, 10, 11, 14, 15, 16, 17, 18, 19, 20, 21, 22, 23, 24, 25, 26, 27, 28, 29, 30, 31, 32, 33, 34, 35, 36] [0, 1, 34, 2, 3, 4, 5, 6, 7, 8, 9, 10, 35, 36, 11, 12, 13, 14, 15, 16, 17, 18, 19, 20, 21, 22, 23, 24, 25, 26, 27, 28, 29, 30, 31, 32, 33] rfl rfl (by decide) (by decide) (by decide) (by decide) (fun _ => (IW h a b na nf X (va_up (va_up gP 8 ((fX1_lay (gP 8) (gP 9) k ((gP 10 0).toNatClampNeg) va).1)) 9 ((fX1_lay (gP 8) (gP 9) k ((gP 10 0).toNatClampNeg) va).2)) gT gA gF)) (fun _ => rfl) (Nat.le_of_ble_eq_true rfl) dX5_ice_58 rfl (fun _ => ?_)
  obtain ⟨u2, hu2⟩ : ∃ z9u, z9u = (fX1_lay (gP 8) (gP 9) k ((gP 10 0).toNatClampNeg) va) := ⟨_, rfl⟩
  rw [← hu2]
  have hF := hF.trans (jn_at hu2)
  refine z_aln C dX5_ice_61 0 rfl ?_
  refine z_get (v := .ref (a 0)) C 0 0 dX5_ice_62 rfl rfl rfl hX5 (by decide) (by decide +kernel) rfl ?_
  refine z_get (v := .ref (a 2)) C 1 6 dX5_ice_65 rfl rfl rfl hX3 (by decide) (by decide +kernel) rfl ?_
  refine z_dup C dX5_ice_68 rfl ?_
  refine z_get (v := .int (gP 11 1)) C 3 1 dX5_ice_69 rfl rfl rfl hX4 (by decide) (by decide +kernel) rfl ?_
  refine z_iln C dX5_ice_72 2 rfl ?_
  refine z_iadd C dX5_ice_73 ((gP 11 1) + va) rfl ?_
  refine z_put C 3 1 (IW h a b na nf X (va_up (va_up (va_up gP 8 u2.1) 9 u2.2) 11 (upd (gP 11) 1 ((gP 11 1) + va))) gT gA gF) dX5_ice_74 rfl rfl hX4 tyX4_ok nmX4 (by decide) (by decide +kernel) rfl rfl rfl rfl rfl (Nat.le_of_ble_eq_true rfl) rfl ?_
  refine z_aln C dX5_ice_77 0 rfl ?_
  refine z_get (v := .ref (a 0)) C 0 0 dX5_ice_78 rfl rfl rfl hX5 (by decide) (by decide +kernel) rfl ?_
  refine z_get (v := .ref (a 1)) C 1 5 dX5_ice_81 rfl rfl rfl hX3 (by decide) (by decide +kernel) rfl ?_
  refine z_get (v := .ref (a 11)) C 2 0 dX5_ice_84 rfl rfl rfl hX1 (by decide) (by decide +kernel) rfl ?_
  refine z_iln C dX5_ice_87 1 rfl ?_
  refine z_iald (f := u2.1) C 12 k dX5_ice_88 rfl (by decide) rfl (by omega) ?_
  exact z_iret C hQ dX5_ice_89 (by rw [hF]; first | done | rfl) (by rw [hF]; first | done | rfl) (by decide) (by decide)
set_option maxHeartbeats 4000000 in
set_option maxRecDepth 100000 in
theorem mX5_ice_x1 (l : Launch) (hl : l.stackTraces = false) (X : zX) (h : Nat → Nat) (a : Nat → Nat) (b : Nat → Nat) (na : Nat → Nat) (nf : Nat → Nat) (gP : zG) (gT : zG) (gA : zG) (gF : zG) (ka : Int32) (va : Int32) (hy0 : ¬ vp_in ka 12) : CXi l yX5_ice wsX5_ice 7 110 1 6 X (IW h a b na nf X gP gT gA gF) [.ref (h 0), .int ka, .int va] (xIOB) := by
  refine xi_intro (cc := cX5_ice) (ret := (some .int)) (maxL := 3) (by decide +kernel) rfl (Nat.le_of_ble_eq_true rfl) ?_
  intro p e s m args below meth c A Q C hxw hxs hT hQ
  show Z p l e { frames := 7, cells := 1, slots := 6, locals := 110 } s m args below meth c X A 3 Q 0 0 (IW h a b na nf X gP gT gA gF) [(0, .ref (h 0)), (1, .int ka), (2, .int va)] 0 []
  refine z_iln C dX5_ice_0 1 rfl ?_
  exact z_xS0 (As := [.int ka]) (rest := []) C hxw hxs hT hQ (mX5_needCell_x l hl X ka hy0) gX5_ice_X5_needCell rfl ⟨by decide, by decide, (by decide : (parseMethodDescriptor yX5_needCell.desc).map (fun d => d.parameters.length) = some 1)⟩ ⟨by decide, by decide⟩ ⟨by decide, by decide⟩ (Nat.le_of_ble_eq_true rfl) dX5_ice_1 rfl (Nat.le_of_ble_eq_true rfl) (Nat.le_of_ble_eq_true rfl)
set_option maxHeartbeats 4000000 in
set_option maxRecDepth 100000 in
theorem mX5_ice_x2 (l : Launch) (hl : l.stackTraces = false) (X : zX) (h : Nat → Nat) (a : Nat → Nat) (b : Nat → Nat) (na : Nat → Nat) (nf : Nat → Nat) (gP : zG) (gT : zG) (gA : zG) (gF : zG) (k : Nat) (va : Int32) (hy0 : k < 12) (hy1 : va < 1 ∨ 999 < va) : CXi l yX5_ice wsX5_ice 7 112 1 6 X (IW h a b na nf X gP gT gA gF) [.ref (h 0), .int (nI k), .int va] (xIAE) := by
  refine xi_intro (cc := cX5_ice) (ret := (some .int)) (maxL := 3) (by decide +kernel) rfl (Nat.le_of_ble_eq_true rfl) ?_
  intro p e s m args below meth c A Q C hxw hxs hT hQ
  show Z p l e { frames := 7, cells := 1, slots := 6, locals := 112 } s m args below meth c X A 3 Q 0 0 (IW h a b na nf X gP gT gA gF) [(0, .ref (h 0)), (1, .int (nI k)), (2, .int va)] 0 []
  refine z_iln C dX5_ice_0 1 rfl ?_
  refine z_cSv0 (As := [.int (nI k)]) (rest := []) C (mX5_needCell l X k (by omega)) gX5_ice_X5_needCell rfl ⟨by decide, by decide, (by decide : (parseMethodDescriptor yX5_needCell.desc).map (fun d => d.parameters.length) = some 1)⟩ ⟨by decide, by decide⟩ ⟨by decide, by decide⟩ (Nat.le_of_ble_eq_true rfl) dX5_ice_1 rfl ?_
  refine z_iln C dX5_ice_4 2 rfl ?_
  refine z_ic C dX5_ice_5 1 (by decide) ?_
  refine z_sp C dX5_ice_6 999 (by decide) ?_
  exact z_xS0 (As := [.int va, .int 1, .int 999]) (rest := []) C hxw hxs hT hQ (mX5_needWithin_x l hl X va 1 999 hy1) gX5_ice_X5_needWithin rfl ⟨by decide, by decide, (by decide : (parseMethodDescriptor yX5_needWithin.desc).map (fun d => d.parameters.length) = some 3)⟩ ⟨by decide, by decide⟩ ⟨by decide, by decide⟩ (Nat.le_of_ble_eq_true rfl) dX5_ice_9 rfl (Nat.le_of_ble_eq_true rfl) (Nat.le_of_ble_eq_true rfl)
set_option maxHeartbeats 4000000 in
set_option maxRecDepth 100000 in
theorem mX5_ice_x3 (l : Launch) (hl : l.stackTraces = false) (X : zX) (h : Nat → Nat) (a : Nat → Nat) (b : Nat → Nat) (na : Nat → Nat) (nf : Nat → Nat) (gP : zG) (gT : zG) (gA : zG) (gF : zG) (k : Nat) (va : Int32) (hy0 : k < 12) (hy1 : ¬ va < 1) (hy2 : ¬ 999 < va) (hy3 : 9999 < gP 8 k + va) : CXi l yX5_ice wsX5_ice 6 90 1 6 X (IW h a b na nf X gP gT gA gF) [.ref (h 0), .int (nI k), .int va] (xISE) := by
  refine xi_intro (cc := cX5_ice) (ret := (some .int)) (maxL := 3) (by decide +kernel) rfl (Nat.le_of_ble_eq_true rfl) ?_
  intro p e s m args below meth c A Q C hxw hxs hT hQ
  have hX1 : ∀ w ∈ wsX10, w ∈ wsX5_ice := by decide +kernel
  have hX3 : ∀ w ∈ wsX30, w ∈ wsX5_ice := by decide +kernel
  have hX5 : ∀ w ∈ wsX50, w ∈ wsX5_ice := by decide +kernel
  show Z p l e { frames := 6, cells := 1, slots := 6, locals := 90 } s m args below meth c X A 3 Q 0 0 (IW h a b na nf X gP gT gA gF) [(0, .ref (h 0)), (1, .int (nI k)), (2, .int va)] 0 []
  refine z_iln C dX5_ice_0 1 rfl ?_
  refine z_cSv0 (As := [.int (nI k)]) (rest := []) C (mX5_needCell l X k (by omega)) gX5_ice_X5_needCell rfl ⟨by decide, by decide, (by decide : (parseMethodDescriptor yX5_needCell.desc).map (fun d => d.parameters.length) = some 1)⟩ ⟨by decide, by decide⟩ ⟨by decide, by decide⟩ (Nat.le_of_ble_eq_true rfl) dX5_ice_1 rfl ?_
  refine z_iln C dX5_ice_4 2 rfl ?_
  refine z_ic C dX5_ice_5 1 (by decide) ?_
  refine z_sp C dX5_ice_6 999 (by decide) ?_
  refine z_cSv0 (As := [.int va, .int 1, .int 999]) (rest := []) C (mX5_needWithin l X va 1 999 hy1 hy2) gX5_ice_X5_needWithin rfl ⟨by decide, by decide, (by decide : (parseMethodDescriptor yX5_needWithin.desc).map (fun d => d.parameters.length) = some 3)⟩ ⟨by decide, by decide⟩ ⟨by decide, by decide⟩ (Nat.le_of_ble_eq_true rfl) dX5_ice_9 rfl ?_
  refine z_aln C dX5_ice_12 0 rfl ?_
  refine z_get (v := .ref (a 0)) C 0 0 dX5_ice_13 rfl rfl rfl hX5 (by decide) (by decide +kernel) rfl ?_
  refine z_get (v := .ref (a 1)) C 1 5 dX5_ice_16 rfl rfl rfl hX3 (by decide) (by decide +kernel) rfl ?_
  refine z_get (v := .ref (a 11)) C 2 0 dX5_ice_19 rfl rfl rfl hX1 (by decide) (by decide +kernel) rfl ?_
  refine z_iln C dX5_ice_22 1 rfl ?_
  refine z_iald (f := (gP 8)) C 12 k dX5_ice_23 rfl (by decide) rfl (by omega) ?_
  refine z_iln C dX5_ice_24 2 rfl ?_
  refine z_iadd C dX5_ice_25 (((gP 8) k) + va) rfl ?_
  refine z_sp C dX5_ice_26 9999 (by decide) ?_
  refine z_ic_le C 42 dX5_ice_29 (by decide) (fun c1 => ?_) (fun c1 => ?_)
  · exact absurd hy3 (needl c1)
  exact z_throw C hl hxw hxs hT hQ "the cell would have too much ice" dX5_ice_32 dX5_ice_35 dX5_ice_36 dX5_ice_38 dX5_ice_41 rfl (by decide +kernel) (by decide +kernel) (by decide +kernel) (by decide +kernel) (by decide) (by decide) (by decide +kernel) (by decide +kernel) (by decide) (Nat.le_of_ble_eq_true rfl) (Nat.le_of_ble_eq_true rfl) (Nat.le_of_ble_eq_true rfl) (Nat.le_of_ble_eq_true rfl) (Nat.le_of_ble_eq_true rfl)
set_option maxHeartbeats 4000000 in
set_option maxRecDepth 100000 in
theorem mX5_ash (l : Launch) (X : zX) (h : Nat → Nat) (a : Nat → Nat) (b : Nat → Nat) (na : Nat → Nat) (nf : Nat → Nat) (gP : zG) (gT : zG) (gA : zG) (gF : zG) (hy0 : vp_in (gP 10 0) 61) (hy1 : ∀ i, i < 61 → gA 0 i = 0 ∨ gA 0 i = 1) : CI l yX5_ash wsX5_ash 0 0 0 0 X (IW h a b na nf X gP gT gA gF) [.ref (h 0)] ((fX5_ash gP gT gA gF).1) (IW h a b na nf X gP gT ((fX5_ash gP gT gA gF).2) gF) := by
  obtain ⟨res, hF⟩ : ∃ z9r, z9r = fX5_ash gP gT gA gF := ⟨_, rfl⟩
  rw [← hF]
  refine ci_intro (cc := cX5_ash) (ret := (some .boolean)) (maxL := 2) (by decide +kernel) rfl (Nat.le_of_ble_eq_true rfl) ?_
  intro p e s m args below meth c A Q C hQ
  have hX0 : ∀ w ∈ wsX00, w ∈ wsX5_ash := by decide +kernel
  have hX3 : ∀ w ∈ wsX30, w ∈ wsX5_ash := by decide +kernel
  have hX5 : ∀ w ∈ wsX50, w ∈ wsX5_ash := by decide +kernel
  show Z p l e { frames := 0, cells := 0, slots := 0, locals := 0 } s m args below meth c X A 2 Q 0 0 (IW h a b na nf X gP gT gA gF) [(0, .ref (h 0))] 0 []
  refine z_aln C dX5_ash_0 0 rfl ?_
  refine z_get (v := .ref (na 0)) C 0 2 dX5_ash_1 rfl rfl rfl hX5 (by decide) (by decide +kernel) rfl ?_
  refine z_get (v := .ref (na 1)) C 27 0 dX5_ash_4 rfl rfl rfl hX0 (by decide) (by decide +kernel) rfl ?_
  refine z_aln C dX5_ash_7 0 rfl ?_
  refine z_get (v := .ref (a 0)) C 0 0 dX5_ash_8 rfl rfl rfl hX5 (by decide) (by decide +kernel) rfl ?_
  refine z_get (v := .int (gP 10 0)) C 1 0 dX5_ash_11 rfl rfl rfl hX3 (by decide) (by decide +kernel) rfl ?_
  refine z_nm (show nI ((gP 10 0).toNatClampNeg) = (gP 10 0) from (zn_in hy0)) ?_
  refine z_zald (f := (gA 0)) C 28 ((gP 10 0).toNatClampNeg) dX5_ash_14 rfl (by decide) rfl (zn_lt hy0) ?_
  refine z_isn C 1 [(1, .int ((gA 0) ((gP 10 0).toNatClampNeg))), (0, .ref (h 0))] dX5_ash_15 rfl (by decide) rfl ?_
  refine z_aln C dX5_ash_16 1 rfl ?_
  refine z_get (v := .ref (na 0)) C 0 2 dX5_ash_17 rfl rfl rfl hX5 (by decide) (by decide +kernel) rfl ?_
  refine z_get (v := .ref (na 1)) C 27 0 dX5_ash_20 rfl rfl rfl hX0 (by decide) (by decide +kernel) rfl ?_
  refine z_aln C dX5_ash_23 1 rfl ?_
  refine z_get (v := .ref (a 0)) C 0 0 dX5_ash_24 rfl rfl rfl hX5 (by decide) (by decide +kernel) rfl ?_
  refine z_get (v := .int (gP 10 0)) C 1 0 dX5_ash_27 rfl rfl rfl hX3 (by decide) (by decide +kernel) rfl ?_
  refine z_nm (show nI ((gP 10 0).toNatClampNeg) = (gP 10 0) from (zn_in hy0)) ?_
  refine z_ic C dX5_ash_30 1 (by decide) ?_
  refine z_zast (f := (gA 0)) C 28 ((gP 10 0).toNatClampNeg) (IW h a b na nf X gP gT (va_up gA 0 (upd (gA 0) ((gP 10 0).toNatClampNeg) (vp_nar .boolean 1))) gF) dX5_ash_31 rfl (by decide) rfl (zn_lt hy0) rfl ?_
  refine z_iln C dX5_ash_32 0 rfl ?_
  exact z_zret C hQ dX5_ash_33 (hy1 _ (zn_lt hy0)) (by rw [hF]; first | done | rfl) (by rw [hF]; first | done | rfl) (by decide) (by decide)
set_option maxHeartbeats 4000000 in
set_option maxRecDepth 100000 in
theorem mX5_pass (l : Launch) (X : zX) (h : Nat → Nat) (a : Nat → Nat) (b : Nat → Nat) (na : Nat → Nat) (nf : Nat → Nat) (gP : zG) (gT : zG) (gA : zG) (gF : zG) (pa : Nat) (yr : Nat) (hy0 : 1 ≤ pa) (hy1 : pa ≤ 20) (hy2 : gP 10 0 = nI yr) (hy3 : yr + pa ≤ 60) (hy4 : ∃ fl, fl ≤ 720 ∧ gA 6 0 = nI fl) : CI l yX5_pass wsX5_pass 5 114 0 0 X (IW h a b na nf X gP gT gA gF) [.ref (h 0), .int (nI pa)] ((fX5_pass gP gT gA gF pa).1) (IW h a b na nf X ((fX5_pass gP gT gA gF pa).2.1) gT ((fX5_pass gP gT gA gF pa).2.2) gF) := by
  obtain ⟨res, hF⟩ : ∃ z9r, z9r = fX5_pass gP gT gA gF pa := ⟨_, rfl⟩
  rw [← hF]
  refine ci_intro (cc := cX5_pass) (ret := (some .int)) (maxL := 3) (by decide +kernel) rfl (Nat.le_of_ble_eq_true rfl) ?_
  intro p e s m args below meth c A Q C hQ
  have hX3 : ∀ w ∈ wsX30, w ∈ wsX5_pass := by decide +kernel
  have hX5 : ∀ w ∈ wsX50, w ∈ wsX5_pass := by decide +kernel
  show Z p l e { frames := 5, cells := 0, slots := 0, locals := 114 } s m args below meth c X A 3 Q 0 0 (IW h a b na nf X gP gT gA gF) [(0, .ref (h 0)), (1, .int (nI pa))] 0 []
  refine z_iln C dX5_pass_0 1 rfl ?_
  refine z_ic C dX5_pass_1 1 (by decide) ?_
  refine z_bp C dX5_pass_2 20 (by decide) ?_
  refine z_cSv0 (As := [.int (nI pa), .int 1, .int 20]) (rest := []) C (mX5_needWithin l X (nI pa) 1 20 (nI_nlt (b := 1) hy0 (by omega)) (nI_nlt (a := 20) hy1 (by decide))) gX5_pass_X5_needWithin rfl ⟨by decide, by decide, (by decide : (parseMethodDescriptor yX5_needWithin.desc).map (fun d => d.parameters.length) = some 3)⟩ ⟨by decide, by decide⟩ ⟨by decide, by decide⟩ (Nat.le_of_ble_eq_true rfl) dX5_pass_4 rfl ?_
  refine z_aln C dX5_pass_7 0 rfl ?_
  refine z_iln C dX5_pass_8 1 rfl ?_
  refine z_cVv0 (As := [.int (nI pa)]) (rest := []) C (mX5_needNotTooLate l X h a b na nf gP gT gA gF (nI pa) (by rw [hy2, nI_add]; exact nI_nlt (a := 60) hy3 (by decide))) gX5_pass_X5_needNotTooLate rfl ⟨rfl, by decide, by decide, (by decide : (parseMethodDescriptor yX5_needNotTooLate.desc).map (fun d => d.parameters.length) = some 1)⟩ ⟨by decide, by decide⟩ ⟨by decide, by decide⟩ 0 5 rfl rfl (Nat.le_of_ble_eq_true rfl) dX5_pass_9 rfl ?_
  refine z_ic C dX5_pass_12 0 (by decide) ?_
  refine z_isn C 2 [(2, .int 0), (0, .ref (h 0)), (1, .int (nI pa))] dX5_pass_13 rfl (by decide) rfl ?_
  refine z_lv [1, 2, 0] [(0, .ref (h 0)), (1, .int (nI pa)), (2, .int 0)] rfl ?_
  have LPk3 : ∀ (nk3 k3 : Nat) (x1 : zG) (x2 : zG), k3 + nk3 = pa → (x1 10 0 = nI (yr + k3) ∧ ∃ fl, fl ≤ 720 ∧ x2 6 0 = nI fl) → res = fX5_pass_L14 nk3 k3 x1 x2 → Z p l e { frames := 5, cells := 0, slots := 0, locals := 114 } s m args below meth c X A 3 Q 0 0 (IW h a b na nf X x1 gT x2 gF) [(0, .ref (h 0)), (1, .int (nI pa)), (2, .int (nI k3))] 14 [] := by
    intro nk3
    induction nk3 with
    | zero =>
      intro k3 x1 x2 hkk3 hik3 hF
      refine z_iln C dX5_pass_14 2 rfl ?_
      refine z_iln C dX5_pass_15 1 rfl ?_
      refine z_ic_geN C k3 pa 43 dX5_pass_16 (by decide) rfl rfl (by omega) (by omega) (fun c4 => ?_) (fun c4 => ?_)
      rotate_left
      · exact absurd c4 (by omega)
      refine z_aln C dX5_pass_43 0 rfl ?_
      refine z_get (v := .ref (a 0)) C 0 0 dX5_pass_44 rfl rfl rfl hX5 (by decide) (by decide +kernel) rfl ?_
      refine z_get (v := .int (x1 10 0)) C 1 0 dX5_pass_47 rfl rfl rfl hX3 (by decide) (by decide +kernel) rfl ?_
      exact z_iret C hQ dX5_pass_50 (by rw [hF]; first | done | rfl) (by rw [hF]; first | done | rfl) (by decide) (by decide)
    | succ nk3 ihk3 =>
      intro k3 x1 x2 hkk3 hik3 hF
      refine z_iln C dX5_pass_14 2 rfl ?_
      refine z_iln C dX5_pass_15 1 rfl ?_
      refine z_ic_geN C k3 pa 43 dX5_pass_16 (by decide) rfl rfl (by omega) (by omega) (fun c5 => ?_) (fun c5 => ?_)
      · exact absurd c5 (by omega)
      refine z_aln C dX5_pass_19 0 rfl ?_
      refine z_get (v := .ref (a 0)) C 0 0 dX5_pass_20 rfl rfl rfl hX5 (by decide) (by decide +kernel) rfl ?_
      refine z_cVu (As := []) (rest := []) C (mX3_goThroughYear l X a x1 (by rw [hik3.1, nI_1]; exact vp_in_nI (by omega) (by decide))) gX5_pass_X3_goThroughYear rfl ⟨rfl, by decide, by decide, (by decide : (parseMethodDescriptor yX3_goThroughYear.desc).map (fun d => d.parameters.length) = some 0)⟩ ⟨by decide, by decide⟩ ⟨by decide, by decide⟩ 0 3 rfl rfl [1, 2, 3, 4, 5, 6, 7, 8, 9, 10, 11, 12, 13] [0, 14, 15, 16, 17, 18, 19, 20, 21, 22, 23, 24, 25, 26, 27, 28, 29, 30, 31, 32, 33, 34, 35, 36] [0, 24, 25, 26, 27, 28, 29, 30, 31, 32, 33, 34, 35, 36, 1, 2, 3, 4, 5, 6, 7, 8, 9, 10, 11, 12, 13, 14, 15, 16, 17, 18, 19, 20, 21, 22, 23] rfl rfl (by decide) (by decide) (by decide) (by decide) (fun _ => (IW h a b na nf X (fX3_goThroughYear x1) gT x2 gF)) (fun _ => rfl) (Nat.le_of_ble_eq_true rfl) dX5_pass_23 rfl (fun _ => ?_)
      obtain ⟨u6, hu6⟩ : ∃ z9u, z9u = (fX3_goThroughYear x1) := ⟨_, rfl⟩
      rw [← hu6]
      have hF := hF.trans (jn_at hu6)
      refine z_aln C dX5_pass_26 0 rfl ?_
      refine z_get (v := .ref (na 0)) C 0 2 dX5_pass_27 rfl rfl rfl hX5 (by decide) (by decide +kernel) rfl ?_
      refine z_aln C dX5_pass_30 0 rfl ?_
      refine z_get (v := .ref (a 0)) C 0 0 dX5_pass_31 rfl rfl rfl hX5 (by decide) (by decide +kernel) rfl ?_
      refine z_cVu (As := [.ref (a 0)]) (rest := []) C (mX0_note l X na a x2 u6 (by rw [hu6, year_gty, hik3.1, nI_1]; exact vp_in_nI (by omega) (by decide)) hik3.2) gX5_pass_X0_note rfl ⟨rfl, by decide, by decide, (by decide : (parseMethodDescriptor yX0_note.desc).map (fun d => d.parameters.length) = some 1)⟩ ⟨by decide, by decide⟩ ⟨by decide, by decide⟩ 0 0 rfl rfl [27, 28, 29, 30, 31, 32, 33, 1, 2, 3, 4, 5, 6, 7, 8, 9, 10, 11, 12, 13] [0, 14, 15, 16, 17, 18, 19, 20, 21, 22, 23, 24, 25, 26, 34, 35, 36] [0, 24, 25, 26, 27, 28, 29, 30, 31, 32, 33, 34, 35, 36, 1, 2, 3, 4, 5, 6, 7, 8, 9, 10, 11, 12, 13, 17, 18, 19, 20, 21, 22, 23, 14, 15, 16] rfl rfl (by decide) (by decide) (by decide) (by decide) (fun _ => (IW h a b na nf X u6 gT (fX0_note x2 u6) gF)) (fun _ => rfl) (Nat.le_of_ble_eq_true rfl) dX5_pass_34 rfl (fun _ => ?_)
      obtain ⟨u7, hu7⟩ : ∃ z9u, z9u = (fX0_note x2 u6) := ⟨_, rfl⟩
      rw [← hu7]
      have hF := hF.trans (jn_at hu7)
      refine z_inc C 2 (nI (k3 + 1)) [(2, .int (nI (k3 + 1))), (0, .ref (h 0)), (1, .int (nI pa))] dX5_pass_37 rfl (nI_add k3 1) (by decide) rfl ?_
      refine z_go C 14 dX5_pass_40 (by decide) ?_
      refine z_lv [1, 2, 0] [(0, .ref (h 0)), (1, .int (nI pa)), (2, .int (nI (k3 + 1)))] rfl ?_
      exact ihk3 (k3 + 1) u6 u7 (by omega) ⟨by rw [hu6, year_gty, hik3.1, nI_1]; rfl, by rw [hu7]; exact note_fl hik3.2⟩ hF
  exact LPk3 pa 0 gP gA (by omega) ⟨hy2, hy4⟩ hF
set_option maxHeartbeats 4000000 in
set_option maxRecDepth 100000 in
theorem mX5_pass_x1 (l : Launch) (hl : l.stackTraces = false) (X : zX) (h : Nat → Nat) (a : Nat → Nat) (b : Nat → Nat) (na : Nat → Nat) (nf : Nat → Nat) (gP : zG) (gT : zG) (gA : zG) (gF : zG) (pa : Int32) (hy0 : pa < 1 ∨ 20 < pa) : CXi l yX5_pass wsX5_pass 7 114 1 6 X (IW h a b na nf X gP gT gA gF) [.ref (h 0), .int pa] (xIAE) := by
  refine xi_intro (cc := cX5_pass) (ret := (some .int)) (maxL := 3) (by decide +kernel) rfl (Nat.le_of_ble_eq_true rfl) ?_
  intro p e s m args below meth c A Q C hxw hxs hT hQ
  show Z p l e { frames := 7, cells := 1, slots := 6, locals := 114 } s m args below meth c X A 3 Q 0 0 (IW h a b na nf X gP gT gA gF) [(0, .ref (h 0)), (1, .int pa)] 0 []
  refine z_iln C dX5_pass_0 1 rfl ?_
  refine z_ic C dX5_pass_1 1 (by decide) ?_
  refine z_bp C dX5_pass_2 20 (by decide) ?_
  exact z_xS0 (As := [.int pa, .int 1, .int 20]) (rest := []) C hxw hxs hT hQ (mX5_needWithin_x l hl X pa 1 20 hy0) gX5_pass_X5_needWithin rfl ⟨by decide, by decide, (by decide : (parseMethodDescriptor yX5_needWithin.desc).map (fun d => d.parameters.length) = some 3)⟩ ⟨by decide, by decide⟩ ⟨by decide, by decide⟩ (Nat.le_of_ble_eq_true rfl) dX5_pass_4 rfl (Nat.le_of_ble_eq_true rfl) (Nat.le_of_ble_eq_true rfl)
set_option maxHeartbeats 4000000 in
set_option maxRecDepth 100000 in
theorem mX5_pass_x2 (l : Launch) (hl : l.stackTraces = false) (X : zX) (h : Nat → Nat) (a : Nat → Nat) (b : Nat → Nat) (na : Nat → Nat) (nf : Nat → Nat) (gP : zG) (gT : zG) (gA : zG) (gF : zG) (pa : Int32) (hy0 : ¬ pa < 1) (hy1 : ¬ 20 < pa) (hy2 : 60 < gP 10 0 + pa) : CXi l yX5_pass wsX5_pass 7 114 1 6 X (IW h a b na nf X gP gT gA gF) [.ref (h 0), .int pa] (xISE) := by
  refine xi_intro (cc := cX5_pass) (ret := (some .int)) (maxL := 3) (by decide +kernel) rfl (Nat.le_of_ble_eq_true rfl) ?_
  intro p e s m args below meth c A Q C hxw hxs hT hQ
  show Z p l e { frames := 7, cells := 1, slots := 6, locals := 114 } s m args below meth c X A 3 Q 0 0 (IW h a b na nf X gP gT gA gF) [(0, .ref (h 0)), (1, .int pa)] 0 []
  refine z_iln C dX5_pass_0 1 rfl ?_
  refine z_ic C dX5_pass_1 1 (by decide) ?_
  refine z_bp C dX5_pass_2 20 (by decide) ?_
  refine z_cSv0 (As := [.int pa, .int 1, .int 20]) (rest := []) C (mX5_needWithin l X pa 1 20 hy0 hy1) gX5_pass_X5_needWithin rfl ⟨by decide, by decide, (by decide : (parseMethodDescriptor yX5_needWithin.desc).map (fun d => d.parameters.length) = some 3)⟩ ⟨by decide, by decide⟩ ⟨by decide, by decide⟩ (Nat.le_of_ble_eq_true rfl) dX5_pass_4 rfl ?_
  refine z_aln C dX5_pass_7 0 rfl ?_
  refine z_iln C dX5_pass_8 1 rfl ?_
  exact z_xV0 (As := [.int pa]) (rest := []) C hxw hxs hT hQ (mX5_needNotTooLate_x l hl X h a b na nf gP gT gA gF pa hy2) gX5_pass_X5_needNotTooLate rfl ⟨rfl, by decide, by decide, (by decide : (parseMethodDescriptor yX5_needNotTooLate.desc).map (fun d => d.parameters.length) = some 1)⟩ ⟨by decide, by decide⟩ ⟨by decide, by decide⟩ 0 5 rfl rfl (Nat.le_of_ble_eq_true rfl) dX5_pass_9 rfl (Nat.le_of_ble_eq_true rfl) (Nat.le_of_ble_eq_true rfl)
set_option maxHeartbeats 4000000 in
set_option maxRecDepth 100000 in
theorem mX5_cellIs (l : Launch) (X : zX) (h : Nat → Nat) (a : Nat → Nat) (b : Nat → Nat) (na : Nat → Nat) (nf : Nat → Nat) (gP : zG) (gT : zG) (gA : zG) (gF : zG) (k : Nat) (w : Nat) (hy0 : k < 12) (hy1 : w < 10) : CI l yX5_cellIs wsX5_cellIs 3 66 0 0 X (IW h a b na nf X gP gT gA gF) [.ref (h 0), .int (nI k), .int (nI w)] (fX5_cellIs gP gT gA gF k w) (IW h a b na nf X gP gT gA gF) := by
  obtain ⟨res, hF⟩ : ∃ z9r, z9r = fX5_cellIs gP gT gA gF k w := ⟨_, rfl⟩
  rw [← hF]
  refine ci_intro (cc := cX5_cellIs) (ret := (some .int)) (maxL := 3) (by decide +kernel) rfl (Nat.le_of_ble_eq_true rfl) ?_
  intro p e s m args below meth c A Q C hQ
  have hX5 : ∀ w ∈ wsX50, w ∈ wsX5_cellIs := by decide +kernel
  show Z p l e { frames := 3, cells := 0, slots := 0, locals := 66 } s m args below meth c X A 3 Q 0 0 (IW h a b na nf X gP gT gA gF) [(0, .ref (h 0)), (1, .int (nI k)), (2, .int (nI w))] 0 []
  refine z_iln C dX5_cellIs_0 1 rfl ?_
  refine z_cSv0 (As := [.int (nI k)]) (rest := []) C (mX5_needCell l X k (by omega)) gX5_cellIs_X5_needCell rfl ⟨by decide, by decide, (by decide : (parseMethodDescriptor yX5_needCell.desc).map (fun d => d.parameters.length) = some 1)⟩ ⟨by decide, by decide⟩ ⟨by decide, by decide⟩ (Nat.le_of_ble_eq_true rfl) dX5_cellIs_1 rfl ?_
  refine z_iln C dX5_cellIs_4 2 rfl ?_
  refine z_ic C dX5_cellIs_5 0 (by decide) ?_
  refine z_bp C dX5_cellIs_6 9 (by decide) ?_
  refine z_cSv0 (As := [.int (nI w), .int 0, .int 9]) (rest := []) C (mX5_needWithin l X (nI w) 0 9 (nI_pos (by omega)) (nI_nlt (a := 9) (b := w) (by omega) (by decide))) gX5_cellIs_X5_needWithin rfl ⟨by decide, by decide, (by decide : (parseMethodDescriptor yX5_needWithin.desc).map (fun d => d.parameters.length) = some 3)⟩ ⟨by decide, by decide⟩ ⟨by decide, by decide⟩ (Nat.le_of_ble_eq_true rfl) dX5_cellIs_8 rfl ?_
  refine z_aln C dX5_cellIs_11 0 rfl ?_
  refine z_get (v := .ref (a 0)) C 0 0 dX5_cellIs_12 rfl rfl rfl hX5 (by decide) (by decide +kernel) rfl ?_
  refine z_iln C dX5_cellIs_15 1 rfl ?_
  refine z_iln C dX5_cellIs_16 2 rfl ?_
  refine z_cVi (As := [.int (nI k), .int (nI w)]) (rest := []) C (mX3_tellOf l X a gP k w (by omega) (by omega)) gX5_cellIs_X3_tellOf rfl ⟨rfl, by decide, by decide, (by decide : (parseMethodDescriptor yX3_tellOf.desc).map (fun d => d.parameters.length) = some 2)⟩ ⟨by decide, by decide⟩ ⟨by decide, by decide⟩ 0 3 rfl rfl [1, 2, 3, 4, 5, 6, 7, 8, 9, 10, 11, 12, 13] [0, 14, 15, 16, 17, 18, 19, 20, 21, 22, 23, 24, 25, 26, 27, 28, 29, 30, 31, 32, 33, 34, 35, 36] [0, 24, 25, 26, 27, 28, 29, 30, 31, 32, 33, 34, 35, 36, 1, 2, 3, 4, 5, 6, 7, 8, 9, 10, 11, 12, 13, 14, 15, 16, 17, 18, 19, 20, 21, 22, 23] rfl rfl (by decide) (by decide) (by decide) (by decide) (IW h a b na nf X gP gT gA gF) rfl (Nat.le_of_ble_eq_true rfl) dX5_cellIs_17 rfl ?_
  exact z_iret C hQ dX5_cellIs_20 (by rw [hF]; first | done | rfl) rfl (by decide) (by decide)
set_option maxHeartbeats 4000000 in
set_option maxRecDepth 100000 in
theorem mX5_cellIs_x1 (l : Launch) (hl : l.stackTraces = false) (X : zX) (h : Nat → Nat) (a : Nat → Nat) (b : Nat → Nat) (na : Nat → Nat) (nf : Nat → Nat) (gP : zG) (gT : zG) (gA : zG) (gF : zG) (ka : Int32) (wa : Int32) (hy0 : ¬ vp_in ka 12) : CXi l yX5_cellIs wsX5_cellIs 7 110 1 6 X (IW h a b na nf X gP gT gA gF) [.ref (h 0), .int ka, .int wa] (xIOB) := by
  refine xi_intro (cc := cX5_cellIs) (ret := (some .int)) (maxL := 3) (by decide +kernel) rfl (Nat.le_of_ble_eq_true rfl) ?_
  intro p e s m args below meth c A Q C hxw hxs hT hQ
  show Z p l e { frames := 7, cells := 1, slots := 6, locals := 110 } s m args below meth c X A 3 Q 0 0 (IW h a b na nf X gP gT gA gF) [(0, .ref (h 0)), (1, .int ka), (2, .int wa)] 0 []
  refine z_iln C dX5_cellIs_0 1 rfl ?_
  exact z_xS0 (As := [.int ka]) (rest := []) C hxw hxs hT hQ (mX5_needCell_x l hl X ka hy0) gX5_cellIs_X5_needCell rfl ⟨by decide, by decide, (by decide : (parseMethodDescriptor yX5_needCell.desc).map (fun d => d.parameters.length) = some 1)⟩ ⟨by decide, by decide⟩ ⟨by decide, by decide⟩ (Nat.le_of_ble_eq_true rfl) dX5_cellIs_1 rfl (Nat.le_of_ble_eq_true rfl) (Nat.le_of_ble_eq_true rfl)
set_option maxHeartbeats 4000000 in
set_option maxRecDepth 100000 in
theorem mX5_cellIs_x2 (l : Launch) (hl : l.stackTraces = false) (X : zX) (h : Nat → Nat) (a : Nat → Nat) (b : Nat → Nat) (na : Nat → Nat) (nf : Nat → Nat) (gP : zG) (gT : zG) (gA : zG) (gF : zG) (k : Nat) (wa : Int32) (hy0 : k < 12) (hy1 : wa < 0 ∨ 9 < wa) : CXi l yX5_cellIs wsX5_cellIs 7 112 1 6 X (IW h a b na nf X gP gT gA gF) [.ref (h 0), .int (nI k), .int wa] (xIAE) := by
  refine xi_intro (cc := cX5_cellIs) (ret := (some .int)) (maxL := 3) (by decide +kernel) rfl (Nat.le_of_ble_eq_true rfl) ?_
  intro p e s m args below meth c A Q C hxw hxs hT hQ
  show Z p l e { frames := 7, cells := 1, slots := 6, locals := 112 } s m args below meth c X A 3 Q 0 0 (IW h a b na nf X gP gT gA gF) [(0, .ref (h 0)), (1, .int (nI k)), (2, .int wa)] 0 []
  refine z_iln C dX5_cellIs_0 1 rfl ?_
  refine z_cSv0 (As := [.int (nI k)]) (rest := []) C (mX5_needCell l X k (by omega)) gX5_cellIs_X5_needCell rfl ⟨by decide, by decide, (by decide : (parseMethodDescriptor yX5_needCell.desc).map (fun d => d.parameters.length) = some 1)⟩ ⟨by decide, by decide⟩ ⟨by decide, by decide⟩ (Nat.le_of_ble_eq_true rfl) dX5_cellIs_1 rfl ?_
  refine z_iln C dX5_cellIs_4 2 rfl ?_
  refine z_ic C dX5_cellIs_5 0 (by decide) ?_
  refine z_bp C dX5_cellIs_6 9 (by decide) ?_
  exact z_xS0 (As := [.int wa, .int 0, .int 9]) (rest := []) C hxw hxs hT hQ (mX5_needWithin_x l hl X wa 0 9 hy1) gX5_cellIs_X5_needWithin rfl ⟨by decide, by decide, (by decide : (parseMethodDescriptor yX5_needWithin.desc).map (fun d => d.parameters.length) = some 3)⟩ ⟨by decide, by decide⟩ ⟨by decide, by decide⟩ (Nat.le_of_ble_eq_true rfl) dX5_cellIs_8 rfl (Nat.le_of_ble_eq_true rfl) (Nat.le_of_ble_eq_true rfl)
set_option maxHeartbeats 4000000 in
set_option maxRecDepth 100000 in
theorem mX5_layer (l : Launch) (X : zX) (h : Nat → Nat) (a : Nat → Nat) (b : Nat → Nat) (na : Nat → Nat) (nf : Nat → Nat) (gP : zG) (gT : zG) (gA : zG) (gF : zG) (k : Nat) (y : Nat) (hy0 : k < 12) (hy1 : y < 61) : CI l yX5_layer wsX5_layer 1 22 0 0 X (IW h a b na nf X gP gT gA gF) [.ref (h 0), .int (nI k), .int (nI y)] (fX5_layer gP gT gA gF k y) (IW h a b na nf X gP gT gA gF) := by
  obtain ⟨res, hF⟩ : ∃ z9r, z9r = fX5_layer gP gT gA gF k y := ⟨_, rfl⟩
  rw [← hF]
  refine ci_intro (cc := cX5_layer) (ret := (some .int)) (maxL := 3) (by decide +kernel) rfl (Nat.le_of_ble_eq_true rfl) ?_
  intro p e s m args below meth c A Q C hQ
  have hX3 : ∀ w ∈ wsX30, w ∈ wsX5_layer := by decide +kernel
  have hX5 : ∀ w ∈ wsX50, w ∈ wsX5_layer := by decide +kernel
  show Z p l e { frames := 1, cells := 0, slots := 0, locals := 22 } s m args below meth c X A 3 Q 0 0 (IW h a b na nf X gP gT gA gF) [(0, .ref (h 0)), (1, .int (nI k)), (2, .int (nI y))] 0 []
  refine z_iln C dX5_layer_0 1 rfl ?_
  refine z_cSv0 (As := [.int (nI k)]) (rest := []) C (mX5_needCell l X k (by omega)) gX5_layer_X5_needCell rfl ⟨by decide, by decide, (by decide : (parseMethodDescriptor yX5_needCell.desc).map (fun d => d.parameters.length) = some 1)⟩ ⟨by decide, by decide⟩ ⟨by decide, by decide⟩ (Nat.le_of_ble_eq_true rfl) dX5_layer_1 rfl ?_
  refine z_iln C dX5_layer_4 2 rfl ?_
  refine z_ic C dX5_layer_5 0 (by decide) ?_
  refine z_bp C dX5_layer_6 60 (by decide) ?_
  refine z_cSv0 (As := [.int (nI y), .int 0, .int 60]) (rest := []) C (mX5_needWithin l X (nI y) 0 60 (nI_pos (by omega)) (nI_nlt (a := 60) (b := y) (by omega) (by decide))) gX5_layer_X5_needWithin rfl ⟨by decide, by decide, (by decide : (parseMethodDescriptor yX5_needWithin.desc).map (fun d => d.parameters.length) = some 3)⟩ ⟨by decide, by decide⟩ ⟨by decide, by decide⟩ (Nat.le_of_ble_eq_true rfl) dX5_layer_8 rfl ?_
  refine z_aln C dX5_layer_11 0 rfl ?_
  refine z_get (v := .ref (a 0)) C 0 0 dX5_layer_12 rfl rfl rfl hX5 (by decide) (by decide +kernel) rfl ?_
  refine z_get (v := .ref (a 1)) C 1 5 dX5_layer_15 rfl rfl rfl hX3 (by decide) (by decide +kernel) rfl ?_
  refine z_iln C dX5_layer_18 1 rfl ?_
  refine z_iln C dX5_layer_19 2 rfl ?_
  refine z_cVi (As := [.int (nI k), .int (nI y)]) (rest := []) C (mX1_unitsOf l X a (gP 8) (gP 9) k y (by omega) (by omega)) gX5_layer_X1_unitsOf rfl ⟨rfl, by decide, by decide, (by decide : (parseMethodDescriptor yX1_unitsOf.desc).map (fun d => d.parameters.length) = some 2)⟩ ⟨by decide, by decide⟩ ⟨by decide, by decide⟩ 0 1 rfl rfl [2, 12, 13] [0, 1, 3, 4, 5, 6, 7, 8, 9, 10, 11, 14, 15, 16, 17, 18, 19, 20, 21, 22, 23, 24, 25, 26, 27, 28, 29, 30, 31, 32, 33, 34, 35, 36] [0, 1, 34, 2, 3, 4, 5, 6, 7, 8, 9, 10, 35, 36, 11, 12, 13, 14, 15, 16, 17, 18, 19, 20, 21, 22, 23, 24, 25, 26, 27, 28, 29, 30, 31, 32, 33] rfl rfl (by decide) (by decide) (by decide) (by decide) (IW h a b na nf X gP gT gA gF) rfl (Nat.le_of_ble_eq_true rfl) dX5_layer_20 rfl ?_
  exact z_iret C hQ dX5_layer_23 (by rw [hF]; first | done | rfl) rfl (by decide) (by decide)
set_option maxHeartbeats 4000000 in
set_option maxRecDepth 100000 in
theorem mX5_layer_x1 (l : Launch) (hl : l.stackTraces = false) (X : zX) (h : Nat → Nat) (a : Nat → Nat) (b : Nat → Nat) (na : Nat → Nat) (nf : Nat → Nat) (gP : zG) (gT : zG) (gA : zG) (gF : zG) (ka : Int32) (wa : Int32) (hy0 : ¬ vp_in ka 12) : CXi l yX5_layer wsX5_layer 7 110 1 6 X (IW h a b na nf X gP gT gA gF) [.ref (h 0), .int ka, .int wa] (xIOB) := by
  refine xi_intro (cc := cX5_layer) (ret := (some .int)) (maxL := 3) (by decide +kernel) rfl (Nat.le_of_ble_eq_true rfl) ?_
  intro p e s m args below meth c A Q C hxw hxs hT hQ
  show Z p l e { frames := 7, cells := 1, slots := 6, locals := 110 } s m args below meth c X A 3 Q 0 0 (IW h a b na nf X gP gT gA gF) [(0, .ref (h 0)), (1, .int ka), (2, .int wa)] 0 []
  refine z_iln C dX5_layer_0 1 rfl ?_
  exact z_xS0 (As := [.int ka]) (rest := []) C hxw hxs hT hQ (mX5_needCell_x l hl X ka hy0) gX5_layer_X5_needCell rfl ⟨by decide, by decide, (by decide : (parseMethodDescriptor yX5_needCell.desc).map (fun d => d.parameters.length) = some 1)⟩ ⟨by decide, by decide⟩ ⟨by decide, by decide⟩ (Nat.le_of_ble_eq_true rfl) dX5_layer_1 rfl (Nat.le_of_ble_eq_true rfl) (Nat.le_of_ble_eq_true rfl)
set_option maxHeartbeats 4000000 in
set_option maxRecDepth 100000 in
theorem mX5_layer_x2 (l : Launch) (hl : l.stackTraces = false) (X : zX) (h : Nat → Nat) (a : Nat → Nat) (b : Nat → Nat) (na : Nat → Nat) (nf : Nat → Nat) (gP : zG) (gT : zG) (gA : zG) (gF : zG) (k : Nat) (wa : Int32) (hy0 : k < 12) (hy1 : wa < 0 ∨ 60 < wa) : CXi l yX5_layer wsX5_layer 7 112 1 6 X (IW h a b na nf X gP gT gA gF) [.ref (h 0), .int (nI k), .int wa] (xIAE) := by
  refine xi_intro (cc := cX5_layer) (ret := (some .int)) (maxL := 3) (by decide +kernel) rfl (Nat.le_of_ble_eq_true rfl) ?_
  intro p e s m args below meth c A Q C hxw hxs hT hQ
  show Z p l e { frames := 7, cells := 1, slots := 6, locals := 112 } s m args below meth c X A 3 Q 0 0 (IW h a b na nf X gP gT gA gF) [(0, .ref (h 0)), (1, .int (nI k)), (2, .int wa)] 0 []
  refine z_iln C dX5_layer_0 1 rfl ?_
  refine z_cSv0 (As := [.int (nI k)]) (rest := []) C (mX5_needCell l X k (by omega)) gX5_layer_X5_needCell rfl ⟨by decide, by decide, (by decide : (parseMethodDescriptor yX5_needCell.desc).map (fun d => d.parameters.length) = some 1)⟩ ⟨by decide, by decide⟩ ⟨by decide, by decide⟩ (Nat.le_of_ble_eq_true rfl) dX5_layer_1 rfl ?_
  refine z_iln C dX5_layer_4 2 rfl ?_
  refine z_ic C dX5_layer_5 0 (by decide) ?_
  refine z_bp C dX5_layer_6 60 (by decide) ?_
  exact z_xS0 (As := [.int wa, .int 0, .int 60]) (rest := []) C hxw hxs hT hQ (mX5_needWithin_x l hl X wa 0 60 hy1) gX5_layer_X5_needWithin rfl ⟨by decide, by decide, (by decide : (parseMethodDescriptor yX5_needWithin.desc).map (fun d => d.parameters.length) = some 3)⟩ ⟨by decide, by decide⟩ ⟨by decide, by decide⟩ (Nat.le_of_ble_eq_true rfl) dX5_layer_8 rfl (Nat.le_of_ble_eq_true rfl) (Nat.le_of_ble_eq_true rfl)
set_option maxHeartbeats 4000000 in
set_option maxRecDepth 100000 in
theorem mX5_yearAt (l : Launch) (X : zX) (h : Nat → Nat) (a : Nat → Nat) (b : Nat → Nat) (na : Nat → Nat) (nf : Nat → Nat) (gP : zG) (gT : zG) (gA : zG) (gF : zG) (k : Nat) (da : Int32) (hy0 : k < 12) (hy1 : ¬ da < 0) : CI l yX5_yearAt wsX5_yearAt 2 47 0 0 X (IW h a b na nf X gP gT gA gF) [.ref (h 0), .int (nI k), .int da] (fX5_yearAt gP gT gA gF k da) (IW h a b na nf X gP gT gA gF) := by
  obtain ⟨res, hF⟩ : ∃ z9r, z9r = fX5_yearAt gP gT gA gF k da := ⟨_, rfl⟩
  rw [← hF]
  refine ci_intro (cc := cX5_yearAt) (ret := (some .int)) (maxL := 3) (by decide +kernel) rfl (Nat.le_of_ble_eq_true rfl) ?_
  intro p e s m args below meth c A Q C hQ
  have hX3 : ∀ w ∈ wsX30, w ∈ wsX5_yearAt := by decide +kernel
  have hX5 : ∀ w ∈ wsX50, w ∈ wsX5_yearAt := by decide +kernel
  show Z p l e { frames := 2, cells := 0, slots := 0, locals := 47 } s m args below meth c X A 3 Q 0 0 (IW h a b na nf X gP gT gA gF) [(0, .ref (h 0)), (1, .int (nI k)), (2, .int da)] 0 []
  refine z_iln C dX5_yearAt_0 1 rfl ?_
  refine z_cSv0 (As := [.int (nI k)]) (rest := []) C (mX5_needCell l X k (by omega)) gX5_yearAt_X5_needCell rfl ⟨by decide, by decide, (by decide : (parseMethodDescriptor yX5_needCell.desc).map (fun d => d.parameters.length) = some 1)⟩ ⟨by decide, by decide⟩ ⟨by decide, by decide⟩ (Nat.le_of_ble_eq_true rfl) dX5_yearAt_1 rfl ?_
  refine z_iln C dX5_yearAt_4 2 rfl ?_
  refine z_if_ge C 18 dX5_yearAt_5 (by decide) (fun c1 => ?_) (fun c1 => ?_)
  rotate_left
  · exact absurd (fa_of_nlt hy1) c1
  refine z_aln C dX5_yearAt_18 0 rfl ?_
  refine z_get (v := .ref (a 0)) C 0 0 dX5_yearAt_19 rfl rfl rfl hX5 (by decide) (by decide +kernel) rfl ?_
  refine z_get (v := .ref (a 1)) C 1 5 dX5_yearAt_22 rfl rfl rfl hX3 (by decide) (by decide +kernel) rfl ?_
  refine z_iln C dX5_yearAt_25 1 rfl ?_
  refine z_iln C dX5_yearAt_26 2 rfl ?_
  refine z_cVi (As := [.int (nI k), .int da]) (rest := []) C (mX1_yearBelow l X a (gP 8) (gP 9) k da (by omega)) gX5_yearAt_X1_yearBelow rfl ⟨rfl, by decide, by decide, (by decide : (parseMethodDescriptor yX1_yearBelow.desc).map (fun d => d.parameters.length) = some 2)⟩ ⟨by decide, by decide⟩ ⟨by decide, by decide⟩ 0 1 rfl rfl [2, 12, 13] [0, 1, 3, 4, 5, 6, 7, 8, 9, 10, 11, 14, 15, 16, 17, 18, 19, 20, 21, 22, 23, 24, 25, 26, 27, 28, 29, 30, 31, 32, 33, 34, 35, 36] [0, 1, 34, 2, 3, 4, 5, 6, 7, 8, 9, 10, 35, 36, 11, 12, 13, 14, 15, 16, 17, 18, 19, 20, 21, 22, 23, 24, 25, 26, 27, 28, 29, 30, 31, 32, 33] rfl rfl (by decide) (by decide) (by decide) (by decide) (IW h a b na nf X gP gT gA gF) rfl (Nat.le_of_ble_eq_true rfl) dX5_yearAt_27 rfl ?_
  exact z_iret C hQ dX5_yearAt_30 (by rw [hF]; first | done | rfl) rfl (by decide) (by decide)
set_option maxHeartbeats 4000000 in
set_option maxRecDepth 100000 in
theorem mX5_yearAt_x1 (l : Launch) (hl : l.stackTraces = false) (X : zX) (h : Nat → Nat) (a : Nat → Nat) (b : Nat → Nat) (na : Nat → Nat) (nf : Nat → Nat) (gP : zG) (gT : zG) (gA : zG) (gF : zG) (ka : Int32) (da : Int32) (hy0 : ¬ vp_in ka 12) : CXi l yX5_yearAt wsX5_yearAt 7 110 1 6 X (IW h a b na nf X gP gT gA gF) [.ref (h 0), .int ka, .int da] (xIOB) := by
  refine xi_intro (cc := cX5_yearAt) (ret := (some .int)) (maxL := 3) (by decide +kernel) rfl (Nat.le_of_ble_eq_true rfl) ?_
  intro p e s m args below meth c A Q C hxw hxs hT hQ
  show Z p l e { frames := 7, cells := 1, slots := 6, locals := 110 } s m args below meth c X A 3 Q 0 0 (IW h a b na nf X gP gT gA gF) [(0, .ref (h 0)), (1, .int ka), (2, .int da)] 0 []
  refine z_iln C dX5_yearAt_0 1 rfl ?_
  exact z_xS0 (As := [.int ka]) (rest := []) C hxw hxs hT hQ (mX5_needCell_x l hl X ka hy0) gX5_yearAt_X5_needCell rfl ⟨by decide, by decide, (by decide : (parseMethodDescriptor yX5_needCell.desc).map (fun d => d.parameters.length) = some 1)⟩ ⟨by decide, by decide⟩ ⟨by decide, by decide⟩ (Nat.le_of_ble_eq_true rfl) dX5_yearAt_1 rfl (Nat.le_of_ble_eq_true rfl) (Nat.le_of_ble_eq_true rfl)
set_option maxHeartbeats 4000000 in
set_option maxRecDepth 100000 in
theorem mX5_yearAt_x2 (l : Launch) (hl : l.stackTraces = false) (X : zX) (h : Nat → Nat) (a : Nat → Nat) (b : Nat → Nat) (na : Nat → Nat) (nf : Nat → Nat) (gP : zG) (gT : zG) (gA : zG) (gF : zG) (k : Nat) (da : Int32) (hy0 : k < 12) (hy1 : da < 0) : CXi l yX5_yearAt wsX5_yearAt 6 90 1 6 X (IW h a b na nf X gP gT gA gF) [.ref (h 0), .int (nI k), .int da] (xIAE) := by
  refine xi_intro (cc := cX5_yearAt) (ret := (some .int)) (maxL := 3) (by decide +kernel) rfl (Nat.le_of_ble_eq_true rfl) ?_
  intro p e s m args below meth c A Q C hxw hxs hT hQ
  show Z p l e { frames := 6, cells := 1, slots := 6, locals := 90 } s m args below meth c X A 3 Q 0 0 (IW h a b na nf X gP gT gA gF) [(0, .ref (h 0)), (1, .int (nI k)), (2, .int da)] 0 []
  refine z_iln C dX5_yearAt_0 1 rfl ?_
  refine z_cSv0 (As := [.int (nI k)]) (rest := []) C (mX5_needCell l X k (by omega)) gX5_yearAt_X5_needCell rfl ⟨by decide, by decide, (by decide : (parseMethodDescriptor yX5_needCell.desc).map (fun d => d.parameters.length) = some 1)⟩ ⟨by decide, by decide⟩ ⟨by decide, by decide⟩ (Nat.le_of_ble_eq_true rfl) dX5_yearAt_1 rfl ?_
  refine z_iln C dX5_yearAt_4 2 rfl ?_
  refine z_if_ge C 18 dX5_yearAt_5 (by decide) (fun c1 => ?_) (fun c1 => ?_)
  · exact absurd hy1 (needl c1)
  exact z_throw C hl hxw hxs hT hQ "the depth is below 0" dX5_yearAt_8 dX5_yearAt_11 dX5_yearAt_12 dX5_yearAt_14 dX5_yearAt_17 rfl (by decide +kernel) (by decide +kernel) (by decide +kernel) (by decide +kernel) (by decide) (by decide) (by decide +kernel) (by decide +kernel) (by decide) (Nat.le_of_ble_eq_true rfl) (Nat.le_of_ble_eq_true rfl) (Nat.le_of_ble_eq_true rfl) (Nat.le_of_ble_eq_true rfl) (Nat.le_of_ble_eq_true rfl)
set_option maxHeartbeats 4000000 in
set_option maxRecDepth 100000 in
theorem mX5_common (l : Launch) (X : zX) (h : Nat → Nat) (a : Nat → Nat) (b : Nat → Nat) (na : Nat → Nat) (nf : Nat → Nat) (gP : zG) (gT : zG) (gA : zG) (gF : zG) (k : Nat) (j : Nat) (hy0 : k < 12) (hy1 : j < 12) : CI l yX5_common wsX5_common 1 22 0 0 X (IW h a b na nf X gP gT gA gF) [.ref (h 0), .int (nI k), .int (nI j)] (fX5_common gP gT gA gF k j) (IW h a b na nf X gP gT gA gF) := by
  obtain ⟨res, hF⟩ : ∃ z9r, z9r = fX5_common gP gT gA gF k j := ⟨_, rfl⟩
  rw [← hF]
  refine ci_intro (cc := cX5_common) (ret := (some .int)) (maxL := 5) (by decide +kernel) rfl (Nat.le_of_ble_eq_true rfl) ?_
  intro p e s m args below meth c A Q C hQ
  have hX0 : ∀ w ∈ wsX00, w ∈ wsX5_common := by decide +kernel
  have hX3 : ∀ w ∈ wsX30, w ∈ wsX5_common := by decide +kernel
  have hX5 : ∀ w ∈ wsX50, w ∈ wsX5_common := by decide +kernel
  show Z p l e { frames := 1, cells := 0, slots := 0, locals := 22 } s m args below meth c X A 5 Q 0 0 (IW h a b na nf X gP gT gA gF) [(0, .ref (h 0)), (1, .int (nI k)), (2, .int (nI j))] 0 []
  refine z_iln C dX5_common_0 1 rfl ?_
  refine z_cSv0 (As := [.int (nI k)]) (rest := []) C (mX5_needCell l X k (by omega)) gX5_common_X5_needCell rfl ⟨by decide, by decide, (by decide : (parseMethodDescriptor yX5_needCell.desc).map (fun d => d.parameters.length) = some 1)⟩ ⟨by decide, by decide⟩ ⟨by decide, by decide⟩ (Nat.le_of_ble_eq_true rfl) dX5_common_1 rfl ?_
  refine z_iln C dX5_common_4 2 rfl ?_
  refine z_cSv0 (As := [.int (nI j)]) (rest := []) C (mX5_needCell l X j (by omega)) gX5_common_X5_needCell rfl ⟨by decide, by decide, (by decide : (parseMethodDescriptor yX5_needCell.desc).map (fun d => d.parameters.length) = some 1)⟩ ⟨by decide, by decide⟩ ⟨by decide, by decide⟩ (Nat.le_of_ble_eq_true rfl) dX5_common_5 rfl ?_
  refine z_ic C dX5_common_8 0 (by decide) ?_
  refine z_isn C 3 [(3, .int 0), (0, .ref (h 0)), (1, .int (nI k)), (2, .int (nI j))] dX5_common_9 rfl (by decide) rfl ?_
  refine z_ic C dX5_common_10 0 (by decide) ?_
  refine z_is C [(4, .int 0), (3, .int 0), (0, .ref (h 0)), (1, .int (nI k)), (2, .int (nI j))] dX5_common_11 (by decide) rfl ?_
  refine z_lv [2, 3, 4, 1, 0] [(0, .ref (h 0)), (1, .int (nI k)), (2, .int (nI j)), (3, .int 0), (4, .int 0)] rfl ?_
  have LPk2 : ∀ (nk2 k2 : Nat) (x1 : Int32), k2 + nk2 = 61 → res = fX5_common_L13 gP gA k j nk2 k2 x1 → Z p l e { frames := 1, cells := 0, slots := 0, locals := 22 } s m args below meth c X A 5 Q 0 0 (IW h a b na nf X gP gT gA gF) [(0, .ref (h 0)), (1, .int (nI k)), (2, .int (nI j)), (3, .int x1), (4, .int (nI k2))] 13 [] := by
    intro nk2
    induction nk2 with
    | zero =>
      intro k2 x1 hkk2 hF
      refine z_il C dX5_common_13 4 rfl ?_
      refine z_bp C dX5_common_15 61 (by decide) ?_
      refine z_ic_geN C k2 61 74 dX5_common_17 (by decide) rfl rfl (by omega) (by omega) (fun c3 => ?_) (fun c3 => ?_)
      rotate_left
      · exact absurd c3 (by omega)
      refine z_iln C dX5_common_74 3 rfl ?_
      exact z_iret C hQ dX5_common_75 (by rw [hF]; first | done | rfl) rfl (by decide) (by decide)
    | succ nk2 ihk2 =>
      intro k2 x1 hkk2 hF
      refine z_il C dX5_common_13 4 rfl ?_
      refine z_bp C dX5_common_15 61 (by decide) ?_
      refine z_ic_geN C k2 61 74 dX5_common_17 (by decide) rfl rfl (by omega) (by omega) (fun c4 => ?_) (fun c4 => ?_)
      · exact absurd c4 (by omega)
      refine z_aln C dX5_common_20 0 rfl ?_
      refine z_get (v := .ref (na 0)) C 0 2 dX5_common_21 rfl rfl rfl hX5 (by decide) (by decide +kernel) rfl ?_
      refine z_get (v := .ref (na 1)) C 27 0 dX5_common_24 rfl rfl rfl hX0 (by decide) (by decide +kernel) rfl ?_
      refine z_il C dX5_common_27 4 rfl ?_
      refine z_zald (f := (gA 0)) C 28 k2 dX5_common_29 rfl (by decide) rfl (by omega) ?_
      refine z_if_eq C 68 dX5_common_30 (by decide) (fun c5 => ?_) (fun c5 => ?_)
      · have hF := hF.trans (if_pos c5)
        refine z_inc C 4 (nI (k2 + 1)) [(4, .int (nI (k2 + 1))), (0, .ref (h 0)), (1, .int (nI k)), (2, .int (nI j)), (3, .int x1)] dX5_common_68 rfl (nI_add k2 1) (by decide) rfl ?_
        refine z_go C 13 dX5_common_71 (by decide) ?_
        refine z_lv [1, 2, 3, 4, 0] [(0, .ref (h 0)), (1, .int (nI k)), (2, .int (nI j)), (3, .int x1), (4, .int (nI (k2 + 1)))] rfl ?_
        exact ihk2 (k2 + 1) x1 (by omega) hF
      · have hF := hF.trans (if_neg c5)
        refine z_aln C dX5_common_33 0 rfl ?_
        refine z_get (v := .ref (a 0)) C 0 0 dX5_common_34 rfl rfl rfl hX5 (by decide) (by decide +kernel) rfl ?_
        refine z_get (v := .ref (a 1)) C 1 5 dX5_common_37 rfl rfl rfl hX3 (by decide) (by decide +kernel) rfl ?_
        refine z_iln C dX5_common_40 1 rfl ?_
        refine z_il C dX5_common_41 4 rfl ?_
        refine z_cVi (As := [.int (nI k), .int (nI k2)]) (rest := []) C (mX1_unitsOf l X a (gP 8) (gP 9) k k2 (by omega) (by omega)) gX5_common_X1_unitsOf rfl ⟨rfl, by decide, by decide, (by decide : (parseMethodDescriptor yX1_unitsOf.desc).map (fun d => d.parameters.length) = some 2)⟩ ⟨by decide, by decide⟩ ⟨by decide, by decide⟩ 0 1 rfl rfl [2, 12, 13] [0, 1, 3, 4, 5, 6, 7, 8, 9, 10, 11, 14, 15, 16, 17, 18, 19, 20, 21, 22, 23, 24, 25, 26, 27, 28, 29, 30, 31, 32, 33, 34, 35, 36] [0, 1, 34, 2, 3, 4, 5, 6, 7, 8, 9, 10, 35, 36, 11, 12, 13, 14, 15, 16, 17, 18, 19, 20, 21, 22, 23, 24, 25, 26, 27, 28, 29, 30, 31, 32, 33] rfl rfl (by decide) (by decide) (by decide) (by decide) (IW h a b na nf X gP gT gA gF) rfl (Nat.le_of_ble_eq_true rfl) dX5_common_43 rfl ?_
        refine z_if_le C 68 dX5_common_46 (by decide) (fun c6 => ?_) (fun c6 => ?_)
        · have hF := hF.trans (if_pos c6)
          refine z_inc C 4 (nI (k2 + 1)) [(4, .int (nI (k2 + 1))), (0, .ref (h 0)), (1, .int (nI k)), (2, .int (nI j)), (3, .int x1)] dX5_common_68 rfl (nI_add k2 1) (by decide) rfl ?_
          refine z_go C 13 dX5_common_71 (by decide) ?_
          refine z_lv [1, 2, 3, 4, 0] [(0, .ref (h 0)), (1, .int (nI k)), (2, .int (nI j)), (3, .int x1), (4, .int (nI (k2 + 1)))] rfl ?_
          exact ihk2 (k2 + 1) x1 (by omega) hF
        · have hF := hF.trans (if_neg c6)
          refine z_aln C dX5_common_49 0 rfl ?_
          refine z_get (v := .ref (a 0)) C 0 0 dX5_common_50 rfl rfl rfl hX5 (by decide) (by decide +kernel) rfl ?_
          refine z_get (v := .ref (a 1)) C 1 5 dX5_common_53 rfl rfl rfl hX3 (by decide) (by decide +kernel) rfl ?_
          refine z_iln C dX5_common_56 2 rfl ?_
          refine z_il C dX5_common_57 4 rfl ?_
          refine z_cVi (As := [.int (nI j), .int (nI k2)]) (rest := []) C (mX1_unitsOf l X a (gP 8) (gP 9) j k2 (by omega) (by omega)) gX5_common_X1_unitsOf rfl ⟨rfl, by decide, by decide, (by decide : (parseMethodDescriptor yX1_unitsOf.desc).map (fun d => d.parameters.length) = some 2)⟩ ⟨by decide, by decide⟩ ⟨by decide, by decide⟩ 0 1 rfl rfl [2, 12, 13] [0, 1, 3, 4, 5, 6, 7, 8, 9, 10, 11, 14, 15, 16, 17, 18, 19, 20, 21, 22, 23, 24, 25, 26, 27, 28, 29, 30, 31, 32, 33, 34, 35, 36] [0, 1, 34, 2, 3, 4, 5, 6, 7, 8, 9, 10, 35, 36, 11, 12, 13, 14, 15, 16, 17, 18, 19, 20, 21, 22, 23, 24, 25, 26, 27, 28, 29, 30, 31, 32, 33] rfl rfl (by decide) (by decide) (by decide) (by decide) (IW h a b na nf X gP gT gA gF) rfl (Nat.le_of_ble_eq_true rfl) dX5_common_59 rfl ?_
          refine z_if_le C 68 dX5_common_62 (by decide) (fun c7 => ?_) (fun c7 => ?_)
          · have hF := hF.trans (if_pos c7)
            refine z_inc C 4 (nI (k2 + 1)) [(4, .int (nI (k2 + 1))), (0, .ref (h 0)), (1, .int (nI k)), (2, .int (nI j)), (3, .int x1)] dX5_common_68 rfl (nI_add k2 1) (by decide) rfl ?_
            refine z_go C 13 dX5_common_71 (by decide) ?_
            refine z_lv [1, 2, 3, 4, 0] [(0, .ref (h 0)), (1, .int (nI k)), (2, .int (nI j)), (3, .int x1), (4, .int (nI (k2 + 1)))] rfl ?_
            exact ihk2 (k2 + 1) x1 (by omega) hF
          · have hF := hF.trans (if_neg c7)
            refine z_inc C 3 (x1 + 1) [(3, .int (x1 + 1)), (0, .ref (h 0)), (1, .int (nI k)), (2, .int (nI j)), (4, .int (nI k2))] dX5_common_65 rfl rfl (by decide) rfl ?_
            refine z_inc C 4 (nI (k2 + 1)) [(4, .int (nI (k2 + 1))), (3, .int (x1 + 1)), (0, .ref (h 0)), (1, .int (nI k)), (2, .int (nI j))] dX5_common_68 rfl (nI_add k2 1) (by decide) rfl ?_
            refine z_go C 13 dX5_common_71 (by decide) ?_
            refine z_lv [2, 3, 4, 1, 0] [(0, .ref (h 0)), (1, .int (nI k)), (2, .int (nI j)), (3, .int (x1 + 1)), (4, .int (nI (k2 + 1)))] rfl ?_
            exact ihk2 (k2 + 1) (x1 + 1) (by omega) hF
  exact LPk2 61 0 0 (by omega) hF
set_option maxHeartbeats 4000000 in
set_option maxRecDepth 100000 in
theorem mX5_common_x1 (l : Launch) (hl : l.stackTraces = false) (X : zX) (h : Nat → Nat) (a : Nat → Nat) (b : Nat → Nat) (na : Nat → Nat) (nf : Nat → Nat) (gP : zG) (gT : zG) (gA : zG) (gF : zG) (ka : Int32) (kb : Int32) (hy0 : ¬ vp_in ka 12) : CXi l yX5_common wsX5_common 7 110 1 6 X (IW h a b na nf X gP gT gA gF) [.ref (h 0), .int ka, .int kb] (xIOB) := by
  refine xi_intro (cc := cX5_common) (ret := (some .int)) (maxL := 5) (by decide +kernel) rfl (Nat.le_of_ble_eq_true rfl) ?_
  intro p e s m args below meth c A Q C hxw hxs hT hQ
  show Z p l e { frames := 7, cells := 1, slots := 6, locals := 110 } s m args below meth c X A 5 Q 0 0 (IW h a b na nf X gP gT gA gF) [(0, .ref (h 0)), (1, .int ka), (2, .int kb)] 0 []
  refine z_iln C dX5_common_0 1 rfl ?_
  exact z_xS0 (As := [.int ka]) (rest := []) C hxw hxs hT hQ (mX5_needCell_x l hl X ka hy0) gX5_common_X5_needCell rfl ⟨by decide, by decide, (by decide : (parseMethodDescriptor yX5_needCell.desc).map (fun d => d.parameters.length) = some 1)⟩ ⟨by decide, by decide⟩ ⟨by decide, by decide⟩ (Nat.le_of_ble_eq_true rfl) dX5_common_1 rfl (Nat.le_of_ble_eq_true rfl) (Nat.le_of_ble_eq_true rfl)
set_option maxHeartbeats 4000000 in
set_option maxRecDepth 100000 in
theorem mX5_common_x2 (l : Launch) (hl : l.stackTraces = false) (X : zX) (h : Nat → Nat) (a : Nat → Nat) (b : Nat → Nat) (na : Nat → Nat) (nf : Nat → Nat) (gP : zG) (gT : zG) (gA : zG) (gF : zG) (k : Nat) (kb : Int32) (hy0 : k < 12) (hy1 : ¬ vp_in kb 12) : CXi l yX5_common wsX5_common 7 110 1 6 X (IW h a b na nf X gP gT gA gF) [.ref (h 0), .int (nI k), .int kb] (xIOB) := by
  refine xi_intro (cc := cX5_common) (ret := (some .int)) (maxL := 5) (by decide +kernel) rfl (Nat.le_of_ble_eq_true rfl) ?_
  intro p e s m args below meth c A Q C hxw hxs hT hQ
  show Z p l e { frames := 7, cells := 1, slots := 6, locals := 110 } s m args below meth c X A 5 Q 0 0 (IW h a b na nf X gP gT gA gF) [(0, .ref (h 0)), (1, .int (nI k)), (2, .int kb)] 0 []
  refine z_iln C dX5_common_0 1 rfl ?_
  refine z_cSv0 (As := [.int (nI k)]) (rest := []) C (mX5_needCell l X k (by omega)) gX5_common_X5_needCell rfl ⟨by decide, by decide, (by decide : (parseMethodDescriptor yX5_needCell.desc).map (fun d => d.parameters.length) = some 1)⟩ ⟨by decide, by decide⟩ ⟨by decide, by decide⟩ (Nat.le_of_ble_eq_true rfl) dX5_common_1 rfl ?_
  refine z_iln C dX5_common_4 2 rfl ?_
  exact z_xS0 (As := [.int kb]) (rest := []) C hxw hxs hT hQ (mX5_needCell_x l hl X kb hy1) gX5_common_X5_needCell rfl ⟨by decide, by decide, (by decide : (parseMethodDescriptor yX5_needCell.desc).map (fun d => d.parameters.length) = some 1)⟩ ⟨by decide, by decide⟩ ⟨by decide, by decide⟩ (Nat.le_of_ble_eq_true rfl) dX5_common_5 rfl (Nat.le_of_ble_eq_true rfl) (Nat.le_of_ble_eq_true rfl)
set_option maxHeartbeats 4000000 in
set_option maxRecDepth 100000 in
theorem mX5_floods (l : Launch) (X : zX) (h : Nat → Nat) (a : Nat → Nat) (b : Nat → Nat) (na : Nat → Nat) (nf : Nat → Nat) (gP : zG) (gT : zG) (gA : zG) (gF : zG) : CI l yX5_floods wsX5_floods 0 0 0 0 X (IW h a b na nf X gP gT gA gF) [.ref (h 0)] (fX5_floods gP gT gA gF) (IW h a b na nf X gP gT gA gF) := by
  obtain ⟨res, hF⟩ : ∃ z9r, z9r = fX5_floods gP gT gA gF := ⟨_, rfl⟩
  rw [← hF]
  refine ci_intro (cc := cX5_floods) (ret := (some .int)) (maxL := 1) (by decide +kernel) rfl (Nat.le_of_ble_eq_true rfl) ?_
  intro p e s m args below meth c A Q C hQ
  have hX0 : ∀ w ∈ wsX00, w ∈ wsX5_floods := by decide +kernel
  have hX5 : ∀ w ∈ wsX50, w ∈ wsX5_floods := by decide +kernel
  show Z p l e { frames := 0, cells := 0, slots := 0, locals := 0 } s m args below meth c X A 1 Q 0 0 (IW h a b na nf X gP gT gA gF) [(0, .ref (h 0))] 0 []
  refine z_aln C dX5_floods_0 0 rfl ?_
  refine z_get (v := .ref (na 0)) C 0 2 dX5_floods_1 rfl rfl rfl hX5 (by decide) (by decide +kernel) rfl ?_
  refine z_get (v := .int (gA 6 0)) C 27 6 dX5_floods_4 rfl rfl rfl hX0 (by decide) (by decide +kernel) rfl ?_
  exact z_iret C hQ dX5_floods_7 (by rw [hF]; first | done | rfl) rfl (by decide) (by decide)
set_option maxHeartbeats 4000000 in
set_option maxRecDepth 100000 in
theorem mX5_flood (l : Launch) (X : zX) (h : Nat → Nat) (a : Nat → Nat) (b : Nat → Nat) (na : Nat → Nat) (nf : Nat → Nat) (gP : zG) (gT : zG) (gA : zG) (gF : zG) (fa : Nat) (w : Nat) (hy0 : fa < 720) (hy1 : nI fa < gA 6 0) (hy2 : w < 3) : CI l yX5_flood wsX5_flood 1 22 0 0 X (IW h a b na nf X gP gT gA gF) [.ref (h 0), .int (nI fa), .int (nI w)] (fX5_flood gP gT gA gF fa w) (IW h a b na nf X gP gT gA gF) := by
  obtain ⟨res, hF⟩ : ∃ z9r, z9r = fX5_flood gP gT gA gF fa w := ⟨_, rfl⟩
  rw [← hF]
  refine ci_intro (cc := cX5_flood) (ret := (some .int)) (maxL := 3) (by decide +kernel) rfl (Nat.le_of_ble_eq_true rfl) ?_
  intro p e s m args below meth c A Q C hQ
  have hX0 : ∀ w ∈ wsX00, w ∈ wsX5_flood := by decide +kernel
  have hX5 : ∀ w ∈ wsX50, w ∈ wsX5_flood := by decide +kernel
  show Z p l e { frames := 1, cells := 0, slots := 0, locals := 22 } s m args below meth c X A 3 Q 0 0 (IW h a b na nf X gP gT gA gF) [(0, .ref (h 0)), (1, .int (nI fa)), (2, .int (nI w))] 0 []
  refine z_iln C dX5_flood_0 1 rfl ?_
  refine z_if_lt C 15 dX5_flood_1 (by decide) (fun c1 => ?_) (fun c1 => ?_)
  · exact absurd c1 (nI_pos (by omega))
  refine z_iln C dX5_flood_4 1 rfl ?_
  refine z_aln C dX5_flood_5 0 rfl ?_
  refine z_get (v := .ref (na 0)) C 0 2 dX5_flood_6 rfl rfl rfl hX5 (by decide) (by decide +kernel) rfl ?_
  refine z_get (v := .int (gA 6 0)) C 27 6 dX5_flood_9 rfl rfl rfl hX0 (by decide) (by decide +kernel) rfl ?_
  refine z_ic_lt C 25 dX5_flood_12 (by decide) (fun c2 => ?_) (fun c2 => ?_)
  rotate_left
  · exact absurd hy1 c2
  refine z_iln C dX5_flood_25 2 rfl ?_
  refine z_ic C dX5_flood_26 0 (by decide) ?_
  refine z_ic C dX5_flood_27 2 (by decide) ?_
  refine z_cSv0 (As := [.int (nI w), .int 0, .int 2]) (rest := []) C (mX5_needWithin l X (nI w) 0 2 (nI_pos (by omega)) (nI_nlt (a := 2) (b := w) (by omega) (by decide))) gX5_flood_X5_needWithin rfl ⟨by decide, by decide, (by decide : (parseMethodDescriptor yX5_needWithin.desc).map (fun d => d.parameters.length) = some 3)⟩ ⟨by decide, by decide⟩ ⟨by decide, by decide⟩ (Nat.le_of_ble_eq_true rfl) dX5_flood_28 rfl ?_
  refine z_iln C dX5_flood_31 2 rfl ?_
  rcases (show w = 0 ∨ w = 1 ∨ (¬ w = 0 ∧ ¬ w = 1) by omega) with c3 | c3 | c3
  · refine z_nm (show (.ofNat 0 : Int32) = (nI w) by rw [c3]; rfl) ?_
    refine z_look C 60 dX5_flood_32 (by decide) rfl (by decide) ?_
    have hF := hF.trans (if_pos c3)
    refine z_aln C dX5_flood_60 0 rfl ?_
    refine z_get (v := .ref (na 0)) C 0 2 dX5_flood_61 rfl rfl rfl hX5 (by decide) (by decide +kernel) rfl ?_
    refine z_get (v := .ref (na 4)) C 27 3 dX5_flood_64 rfl rfl rfl hX0 (by decide) (by decide +kernel) rfl ?_
    refine z_iln C dX5_flood_67 1 rfl ?_
    refine z_iald (f := (gA 3)) C 31 fa dX5_flood_68 rfl (by decide) rfl (by omega) ?_
    exact z_iret C hQ dX5_flood_69 (by rw [hF]; first | done | rfl) rfl (by decide) (by decide)
  · refine z_nm (show (.ofNat 1 : Int32) = (nI w) by rw [c3]; rfl) ?_
    refine z_look C 70 dX5_flood_32 (by decide) rfl (by decide) ?_
    have hF := hF.trans (if_neg (by omega))
    have hF := hF.trans (if_pos c3)
    refine z_aln C dX5_flood_70 0 rfl ?_
    refine z_get (v := .ref (na 0)) C 0 2 dX5_flood_71 rfl rfl rfl hX5 (by decide) (by decide +kernel) rfl ?_
    refine z_get (v := .ref (na 5)) C 27 4 dX5_flood_74 rfl rfl rfl hX0 (by decide) (by decide +kernel) rfl ?_
    refine z_iln C dX5_flood_77 1 rfl ?_
    refine z_iald (f := (gA 4)) C 32 fa dX5_flood_78 rfl (by decide) rfl (by omega) ?_
    exact z_iret C hQ dX5_flood_79 (by rw [hF]; first | done | rfl) rfl (by decide) (by decide)
  · have h9 : w = 2 := by omega
    subst h9
    refine z_look C 80 dX5_flood_32 (by decide) (x := .ofNat 2) rfl (by decide) ?_
    have hF := hF.trans (if_neg (by omega))
    have hF := hF.trans (if_neg (by omega))
    refine z_aln C dX5_flood_80 0 rfl ?_
    refine z_get (v := .ref (na 0)) C 0 2 dX5_flood_81 rfl rfl rfl hX5 (by decide) (by decide +kernel) rfl ?_
    refine z_get (v := .ref (na 6)) C 27 5 dX5_flood_84 rfl rfl rfl hX0 (by decide) (by decide +kernel) rfl ?_
    refine z_iln C dX5_flood_87 1 rfl ?_
    refine z_iald (f := (gA 5)) C 33 fa dX5_flood_88 rfl (by decide) rfl (by omega) ?_
    exact z_iret C hQ dX5_flood_89 (by rw [hF]; first | done | rfl) rfl (by decide) (by decide)
set_option maxHeartbeats 4000000 in
set_option maxRecDepth 100000 in
theorem mX5_flood_x1 (l : Launch) (hl : l.stackTraces = false) (X : zX) (h : Nat → Nat) (a : Nat → Nat) (b : Nat → Nat) (na : Nat → Nat) (nf : Nat → Nat) (gP : zG) (gT : zG) (gA : zG) (gF : zG) (fa : Int32) (wa : Int32) (hy0 : fa < 0 ∨ gA 6 0 ≤ fa) : CXi l yX5_flood wsX5_flood 6 90 1 6 X (IW h a b na nf X gP gT gA gF) [.ref (h 0), .int fa, .int wa] (xIOB) := by
  refine xi_intro (cc := cX5_flood) (ret := (some .int)) (maxL := 3) (by decide +kernel) rfl (Nat.le_of_ble_eq_true rfl) ?_
  intro p e s m args below meth c A Q C hxw hxs hT hQ
  have hX0 : ∀ w ∈ wsX00, w ∈ wsX5_flood := by decide +kernel
  have hX5 : ∀ w ∈ wsX50, w ∈ wsX5_flood := by decide +kernel
  show Z p l e { frames := 6, cells := 1, slots := 6, locals := 90 } s m args below meth c X A 3 Q 0 0 (IW h a b na nf X gP gT gA gF) [(0, .ref (h 0)), (1, .int fa), (2, .int wa)] 0 []
  refine z_iln C dX5_flood_0 1 rfl ?_
  refine z_if_lt C 15 dX5_flood_1 (by decide) (fun c1 => ?_) (fun c1 => ?_)
  · skip
    exact z_throw C hl hxw hxs hT hQ "there was no such flood" dX5_flood_15 dX5_flood_18 dX5_flood_19 dX5_flood_21 dX5_flood_24 rfl (by decide +kernel) (by decide +kernel) (by decide +kernel) (by decide +kernel) (by decide) (by decide) (by decide +kernel) (by decide +kernel) (by decide) (Nat.le_of_ble_eq_true rfl) (Nat.le_of_ble_eq_true rfl) (Nat.le_of_ble_eq_true rfl) (Nat.le_of_ble_eq_true rfl) (Nat.le_of_ble_eq_true rfl)
  · skip
    refine z_iln C dX5_flood_4 1 rfl ?_
    refine z_aln C dX5_flood_5 0 rfl ?_
    refine z_get (v := .ref (na 0)) C 0 2 dX5_flood_6 rfl rfl rfl hX5 (by decide) (by decide +kernel) rfl ?_
    refine z_get (v := .int (gA 6 0)) C 27 6 dX5_flood_9 rfl rfl rfl hX0 (by decide) (by decide +kernel) rfl ?_
    refine z_ic_lt C 25 dX5_flood_12 (by decide) (fun c2 => ?_) (fun c2 => ?_)
    · exact absurd c2 (fldx hy0 c1)
    exact z_throw C hl hxw hxs hT hQ "there was no such flood" dX5_flood_15 dX5_flood_18 dX5_flood_19 dX5_flood_21 dX5_flood_24 rfl (by decide +kernel) (by decide +kernel) (by decide +kernel) (by decide +kernel) (by decide) (by decide) (by decide +kernel) (by decide +kernel) (by decide) (Nat.le_of_ble_eq_true rfl) (Nat.le_of_ble_eq_true rfl) (Nat.le_of_ble_eq_true rfl) (Nat.le_of_ble_eq_true rfl) (Nat.le_of_ble_eq_true rfl)
set_option maxHeartbeats 4000000 in
set_option maxRecDepth 100000 in
theorem mX5_flood_x2 (l : Launch) (hl : l.stackTraces = false) (X : zX) (h : Nat → Nat) (a : Nat → Nat) (b : Nat → Nat) (na : Nat → Nat) (nf : Nat → Nat) (gP : zG) (gT : zG) (gA : zG) (gF : zG) (fa : Nat) (wa : Int32) (hy0 : fa < 720) (hy1 : nI fa < gA 6 0) (hy2 : wa < 0 ∨ 2 < wa) : CXi l yX5_flood wsX5_flood 7 112 1 6 X (IW h a b na nf X gP gT gA gF) [.ref (h 0), .int (nI fa), .int wa] (xIAE) := by
  refine xi_intro (cc := cX5_flood) (ret := (some .int)) (maxL := 3) (by decide +kernel) rfl (Nat.le_of_ble_eq_true rfl) ?_
  intro p e s m args below meth c A Q C hxw hxs hT hQ
  have hX0 : ∀ w ∈ wsX00, w ∈ wsX5_flood := by decide +kernel
  have hX5 : ∀ w ∈ wsX50, w ∈ wsX5_flood := by decide +kernel
  show Z p l e { frames := 7, cells := 1, slots := 6, locals := 112 } s m args below meth c X A 3 Q 0 0 (IW h a b na nf X gP gT gA gF) [(0, .ref (h 0)), (1, .int (nI fa)), (2, .int wa)] 0 []
  refine z_iln C dX5_flood_0 1 rfl ?_
  refine z_if_lt C 15 dX5_flood_1 (by decide) (fun c1 => ?_) (fun c1 => ?_)
  · exact absurd c1 (nI_pos (by omega))
  refine z_iln C dX5_flood_4 1 rfl ?_
  refine z_aln C dX5_flood_5 0 rfl ?_
  refine z_get (v := .ref (na 0)) C 0 2 dX5_flood_6 rfl rfl rfl hX5 (by decide) (by decide +kernel) rfl ?_
  refine z_get (v := .int (gA 6 0)) C 27 6 dX5_flood_9 rfl rfl rfl hX0 (by decide) (by decide +kernel) rfl ?_
  refine z_ic_lt C 25 dX5_flood_12 (by decide) (fun c2 => ?_) (fun c2 => ?_)
  rotate_left
  · exact absurd hy1 c2
  refine z_iln C dX5_flood_25 2 rfl ?_
  refine z_ic C dX5_flood_26 0 (by decide) ?_
  refine z_ic C dX5_flood_27 2 (by decide) ?_
  exact z_xS0 (As := [.int wa, .int 0, .int 2]) (rest := []) C hxw hxs hT hQ (mX5_needWithin_x l hl X wa 0 2 hy2) gX5_flood_X5_needWithin rfl ⟨by decide, by decide, (by decide : (parseMethodDescriptor yX5_needWithin.desc).map (fun d => d.parameters.length) = some 3)⟩ ⟨by decide, by decide⟩ ⟨by decide, by decide⟩ (Nat.le_of_ble_eq_true rfl) dX5_flood_28 rfl (Nat.le_of_ble_eq_true rfl) (Nat.le_of_ble_eq_true rfl)
set_option maxHeartbeats 4000000 in
set_option maxRecDepth 100000 in
theorem mX5_front (l : Launch) (X : zX) (h : Nat → Nat) (a : Nat → Nat) (b : Nat → Nat) (na : Nat → Nat) (nf : Nat → Nat) (gP : zG) (gT : zG) (gA : zG) (gF : zG) (ya : Nat) (hy0 : ya < 61) (hy1 : ¬ gP 10 0 < nI ya) : CI l yX5_front wsX5_front 1 22 0 0 X (IW h a b na nf X gP gT gA gF) [.ref (h 0), .int (nI ya)] (fX5_front gP gT gA gF ya) (IW h a b na nf X gP gT gA gF) := by
  obtain ⟨res, hF⟩ : ∃ z9r, z9r = fX5_front gP gT gA gF ya := ⟨_, rfl⟩
  rw [← hF]
  refine ci_intro (cc := cX5_front) (ret := (some .int)) (maxL := 2) (by decide +kernel) rfl (Nat.le_of_ble_eq_true rfl) ?_
  intro p e s m args below meth c A Q C hQ
  have hX0 : ∀ w ∈ wsX00, w ∈ wsX5_front := by decide +kernel
  have hX3 : ∀ w ∈ wsX30, w ∈ wsX5_front := by decide +kernel
  have hX5 : ∀ w ∈ wsX50, w ∈ wsX5_front := by decide +kernel
  show Z p l e { frames := 1, cells := 0, slots := 0, locals := 22 } s m args below meth c X A 2 Q 0 0 (IW h a b na nf X gP gT gA gF) [(0, .ref (h 0)), (1, .int (nI ya))] 0 []
  refine z_iln C dX5_front_0 1 rfl ?_
  refine z_ic C dX5_front_1 0 (by decide) ?_
  refine z_aln C dX5_front_2 0 rfl ?_
  refine z_get (v := .ref (a 0)) C 0 0 dX5_front_3 rfl rfl rfl hX5 (by decide) (by decide +kernel) rfl ?_
  refine z_get (v := .int (gP 10 0)) C 1 0 dX5_front_6 rfl rfl rfl hX3 (by decide) (by decide +kernel) rfl ?_
  refine z_cSv0 (As := [.int (nI ya), .int 0, .int (gP 10 0)]) (rest := []) C (mX5_needWithin l X (nI ya) 0 (gP 10 0) (nI_pos (by omega)) hy1) gX5_front_X5_needWithin rfl ⟨by decide, by decide, (by decide : (parseMethodDescriptor yX5_needWithin.desc).map (fun d => d.parameters.length) = some 3)⟩ ⟨by decide, by decide⟩ ⟨by decide, by decide⟩ (Nat.le_of_ble_eq_true rfl) dX5_front_9 rfl ?_
  refine z_aln C dX5_front_12 0 rfl ?_
  refine z_get (v := .ref (na 0)) C 0 2 dX5_front_13 rfl rfl rfl hX5 (by decide) (by decide +kernel) rfl ?_
  refine z_get (v := .ref (na 2)) C 27 1 dX5_front_16 rfl rfl rfl hX0 (by decide) (by decide +kernel) rfl ?_
  refine z_iln C dX5_front_19 1 rfl ?_
  refine z_iald (f := (gA 1)) C 29 ya dX5_front_20 rfl (by decide) rfl (by omega) ?_
  exact z_iret C hQ dX5_front_21 (by rw [hF]; first | done | rfl) rfl (by decide) (by decide)
set_option maxHeartbeats 4000000 in
set_option maxRecDepth 100000 in
theorem mX5_front_x1 (l : Launch) (hl : l.stackTraces = false) (X : zX) (h : Nat → Nat) (a : Nat → Nat) (b : Nat → Nat) (na : Nat → Nat) (nf : Nat → Nat) (gP : zG) (gT : zG) (gA : zG) (gF : zG) (ya : Int32) (hy0 : ya < 0 ∨ gP 10 0 < ya) : CXi l yX5_front wsX5_front 7 112 1 6 X (IW h a b na nf X gP gT gA gF) [.ref (h 0), .int ya] (xIAE) := by
  refine xi_intro (cc := cX5_front) (ret := (some .int)) (maxL := 2) (by decide +kernel) rfl (Nat.le_of_ble_eq_true rfl) ?_
  intro p e s m args below meth c A Q C hxw hxs hT hQ
  have hX3 : ∀ w ∈ wsX30, w ∈ wsX5_front := by decide +kernel
  have hX5 : ∀ w ∈ wsX50, w ∈ wsX5_front := by decide +kernel
  show Z p l e { frames := 7, cells := 1, slots := 6, locals := 112 } s m args below meth c X A 2 Q 0 0 (IW h a b na nf X gP gT gA gF) [(0, .ref (h 0)), (1, .int ya)] 0 []
  refine z_iln C dX5_front_0 1 rfl ?_
  refine z_ic C dX5_front_1 0 (by decide) ?_
  refine z_aln C dX5_front_2 0 rfl ?_
  refine z_get (v := .ref (a 0)) C 0 0 dX5_front_3 rfl rfl rfl hX5 (by decide) (by decide +kernel) rfl ?_
  refine z_get (v := .int (gP 10 0)) C 1 0 dX5_front_6 rfl rfl rfl hX3 (by decide) (by decide +kernel) rfl ?_
  exact z_xS0 (As := [.int ya, .int 0, .int (gP 10 0)]) (rest := []) C hxw hxs hT hQ (mX5_needWithin_x l hl X ya 0 (gP 10 0) hy0) gX5_front_X5_needWithin rfl ⟨by decide, by decide, (by decide : (parseMethodDescriptor yX5_needWithin.desc).map (fun d => d.parameters.length) = some 3)⟩ ⟨by decide, by decide⟩ ⟨by decide, by decide⟩ (Nat.le_of_ble_eq_true rfl) dX5_front_9 rfl (Nat.le_of_ble_eq_true rfl) (Nat.le_of_ble_eq_true rfl)
set_option maxHeartbeats 4000000 in
set_option maxRecDepth 100000 in
theorem mX5_total (l : Launch) (X : zX) (h : Nat → Nat) (a : Nat → Nat) (b : Nat → Nat) (na : Nat → Nat) (nf : Nat → Nat) (gP : zG) (gT : zG) (gA : zG) (gF : zG) (w : Nat) (hy0 : w < 6) : CI l yX5_total wsX5_total 1 22 0 0 X (IW h a b na nf X gP gT gA gF) [.ref (h 0), .int (nI w)] (fX5_total gP gT gA gF w) (IW h a b na nf X gP gT gA gF) := by
  obtain ⟨res, hF⟩ : ∃ z9r, z9r = fX5_total gP gT gA gF w := ⟨_, rfl⟩
  rw [← hF]
  refine ci_intro (cc := cX5_total) (ret := (some .int)) (maxL := 2) (by decide +kernel) rfl (Nat.le_of_ble_eq_true rfl) ?_
  intro p e s m args below meth c A Q C hQ
  have hX3 : ∀ w ∈ wsX30, w ∈ wsX5_total := by decide +kernel
  have hX4 : ∀ w ∈ wsX40, w ∈ wsX5_total := by decide +kernel
  have hX5 : ∀ w ∈ wsX50, w ∈ wsX5_total := by decide +kernel
  show Z p l e { frames := 1, cells := 0, slots := 0, locals := 22 } s m args below meth c X A 2 Q 0 0 (IW h a b na nf X gP gT gA gF) [(0, .ref (h 0)), (1, .int (nI w))] 0 []
  refine z_iln C dX5_total_0 1 rfl ?_
  refine z_ic C dX5_total_1 0 (by decide) ?_
  refine z_ic C dX5_total_2 5 (by decide) ?_
  refine z_cSv0 (As := [.int (nI w), .int 0, .int 5]) (rest := []) C (mX5_needWithin l X (nI w) 0 5 (nI_pos (by omega)) (nI_nlt (a := 5) (b := w) (by omega) (by decide))) gX5_total_X5_needWithin rfl ⟨by decide, by decide, (by decide : (parseMethodDescriptor yX5_needWithin.desc).map (fun d => d.parameters.length) = some 3)⟩ ⟨by decide, by decide⟩ ⟨by decide, by decide⟩ (Nat.le_of_ble_eq_true rfl) dX5_total_3 rfl ?_
  refine z_iln C dX5_total_6 1 rfl ?_
  rcases (show w = 0 ∨ w = 1 ∨ w = 2 ∨ w = 3 ∨ w = 4 ∨ (¬ w = 0 ∧ ¬ w = 1 ∧ ¬ w = 2 ∧ ¬ w = 3 ∧ ¬ w = 4) by omega) with c1 | c1 | c1 | c1 | c1 | c1
  · refine z_nm (show (.ofNat 0 : Int32) = (nI w) by rw [c1]; rfl) ?_
    refine z_tin C 40 dX5_total_7 (by decide) (by decide) rfl (by decide) ?_
    have hF := hF.trans (if_pos c1)
    refine z_aln C dX5_total_40 0 rfl ?_
    refine z_get (v := .ref (a 0)) C 0 0 dX5_total_41 rfl rfl rfl hX5 (by decide) (by decide +kernel) rfl ?_
    refine z_get (v := .ref (a 1)) C 1 5 dX5_total_44 rfl rfl rfl hX3 (by decide) (by decide +kernel) rfl ?_
    refine z_cVi (As := []) (rest := []) C (mX1_allIce l X a (gP 8) (gP 9) ) gX5_total_X1_allIce rfl ⟨rfl, by decide, by decide, (by decide : (parseMethodDescriptor yX1_allIce.desc).map (fun d => d.parameters.length) = some 0)⟩ ⟨by decide, by decide⟩ ⟨by decide, by decide⟩ 0 1 rfl rfl [2, 12, 13] [0, 1, 3, 4, 5, 6, 7, 8, 9, 10, 11, 14, 15, 16, 17, 18, 19, 20, 21, 22, 23, 24, 25, 26, 27, 28, 29, 30, 31, 32, 33, 34, 35, 36] [0, 1, 34, 2, 3, 4, 5, 6, 7, 8, 9, 10, 35, 36, 11, 12, 13, 14, 15, 16, 17, 18, 19, 20, 21, 22, 23, 24, 25, 26, 27, 28, 29, 30, 31, 32, 33] rfl rfl (by decide) (by decide) (by decide) (by decide) (IW h a b na nf X gP gT gA gF) rfl (Nat.le_of_ble_eq_true rfl) dX5_total_47 rfl ?_
    exact z_iret C hQ dX5_total_50 (by rw [hF]; first | done | rfl) rfl (by decide) (by decide)
  · refine z_nm (show (.ofNat 1 : Int32) = (nI w) by rw [c1]; rfl) ?_
    refine z_tin C 51 dX5_total_7 (by decide) (by decide) rfl (by decide) ?_
    have hF := hF.trans (if_neg (by omega))
    have hF := hF.trans (if_pos c1)
    refine z_aln C dX5_total_51 0 rfl ?_
    refine z_get (v := .ref (a 0)) C 0 0 dX5_total_52 rfl rfl rfl hX5 (by decide) (by decide +kernel) rfl ?_
    refine z_cVi (As := []) (rest := []) C (mX3_allWater l X a gP ) gX5_total_X3_allWater rfl ⟨rfl, by decide, by decide, (by decide : (parseMethodDescriptor yX3_allWater.desc).map (fun d => d.parameters.length) = some 0)⟩ ⟨by decide, by decide⟩ ⟨by decide, by decide⟩ 0 3 rfl rfl [1, 2, 3, 4, 5, 6, 7, 8, 9, 10, 11, 12, 13] [0, 14, 15, 16, 17, 18, 19, 20, 21, 22, 23, 24, 25, 26, 27, 28, 29, 30, 31, 32, 33, 34, 35, 36] [0, 24, 25, 26, 27, 28, 29, 30, 31, 32, 33, 34, 35, 36, 1, 2, 3, 4, 5, 6, 7, 8, 9, 10, 11, 12, 13, 14, 15, 16, 17, 18, 19, 20, 21, 22, 23] rfl rfl (by decide) (by decide) (by decide) (by decide) (IW h a b na nf X gP gT gA gF) rfl (Nat.le_of_ble_eq_true rfl) dX5_total_55 rfl ?_
    exact z_iret C hQ dX5_total_58 (by rw [hF]; first | done | rfl) rfl (by decide) (by decide)
  · refine z_nm (show (.ofNat 2 : Int32) = (nI w) by rw [c1]; rfl) ?_
    refine z_tin C 59 dX5_total_7 (by decide) (by decide) rfl (by decide) ?_
    have hF := hF.trans (if_neg (by omega))
    have hF := hF.trans (if_neg (by omega))
    have hF := hF.trans (if_pos c1)
    refine z_aln C dX5_total_59 0 rfl ?_
    refine z_get (v := .ref (a 0)) C 0 0 dX5_total_60 rfl rfl rfl hX5 (by decide) (by decide +kernel) rfl ?_
    refine z_get (v := .ref (a 2)) C 1 6 dX5_total_63 rfl rfl rfl hX3 (by decide) (by decide +kernel) rfl ?_
    refine z_get (v := .int (gP 11 3)) C 3 3 dX5_total_66 rfl rfl rfl hX4 (by decide) (by decide +kernel) rfl ?_
    exact z_iret C hQ dX5_total_69 (by rw [hF]; first | done | rfl) rfl (by decide) (by decide)
  · refine z_nm (show (.ofNat 3 : Int32) = (nI w) by rw [c1]; rfl) ?_
    refine z_tin C 70 dX5_total_7 (by decide) (by decide) rfl (by decide) ?_
    have hF := hF.trans (if_neg (by omega))
    have hF := hF.trans (if_neg (by omega))
    have hF := hF.trans (if_neg (by omega))
    have hF := hF.trans (if_pos c1)
    refine z_aln C dX5_total_70 0 rfl ?_
    refine z_get (v := .ref (a 0)) C 0 0 dX5_total_71 rfl rfl rfl hX5 (by decide) (by decide +kernel) rfl ?_
    refine z_get (v := .ref (a 2)) C 1 6 dX5_total_74 rfl rfl rfl hX3 (by decide) (by decide +kernel) rfl ?_
    refine z_get (v := .int (gP 11 4)) C 3 4 dX5_total_77 rfl rfl rfl hX4 (by decide) (by decide +kernel) rfl ?_
    exact z_iret C hQ dX5_total_80 (by rw [hF]; first | done | rfl) rfl (by decide) (by decide)
  · refine z_nm (show (.ofNat 4 : Int32) = (nI w) by rw [c1]; rfl) ?_
    refine z_tin C 81 dX5_total_7 (by decide) (by decide) rfl (by decide) ?_
    have hF := hF.trans (if_neg (by omega))
    have hF := hF.trans (if_neg (by omega))
    have hF := hF.trans (if_neg (by omega))
    have hF := hF.trans (if_neg (by omega))
    have hF := hF.trans (if_pos c1)
    refine z_aln C dX5_total_81 0 rfl ?_
    refine z_get (v := .ref (a 0)) C 0 0 dX5_total_82 rfl rfl rfl hX5 (by decide) (by decide +kernel) rfl ?_
    refine z_get (v := .ref (a 2)) C 1 6 dX5_total_85 rfl rfl rfl hX3 (by decide) (by decide +kernel) rfl ?_
    refine z_get (v := .int (gP 11 0)) C 3 0 dX5_total_88 rfl rfl rfl hX4 (by decide) (by decide +kernel) rfl ?_
    exact z_iret C hQ dX5_total_91 (by rw [hF]; first | done | rfl) rfl (by decide) (by decide)
  · refine z_tout C 92 dX5_total_7 (Or.inr (by rw [nI_toInt (by omega)]; omega)) (by decide) ?_
    have hF := hF.trans (if_neg (by omega))
    have hF := hF.trans (if_neg (by omega))
    have hF := hF.trans (if_neg (by omega))
    have hF := hF.trans (if_neg (by omega))
    have hF := hF.trans (if_neg (by omega))
    refine z_aln C dX5_total_92 0 rfl ?_
    refine z_get (v := .ref (a 0)) C 0 0 dX5_total_93 rfl rfl rfl hX5 (by decide) (by decide +kernel) rfl ?_
    refine z_get (v := .ref (a 2)) C 1 6 dX5_total_96 rfl rfl rfl hX3 (by decide) (by decide +kernel) rfl ?_
    refine z_get (v := .int (gP 11 1)) C 3 1 dX5_total_99 rfl rfl rfl hX4 (by decide) (by decide +kernel) rfl ?_
    exact z_iret C hQ dX5_total_102 (by rw [hF]; first | done | rfl) rfl (by decide) (by decide)
set_option maxHeartbeats 4000000 in
set_option maxRecDepth 100000 in
theorem mX5_total_x1 (l : Launch) (hl : l.stackTraces = false) (X : zX) (h : Nat → Nat) (a : Nat → Nat) (b : Nat → Nat) (na : Nat → Nat) (nf : Nat → Nat) (gP : zG) (gT : zG) (gA : zG) (gF : zG) (wa : Int32) (hy0 : wa < 0 ∨ 5 < wa) : CXi l yX5_total wsX5_total 7 112 1 6 X (IW h a b na nf X gP gT gA gF) [.ref (h 0), .int wa] (xIAE) := by
  refine xi_intro (cc := cX5_total) (ret := (some .int)) (maxL := 2) (by decide +kernel) rfl (Nat.le_of_ble_eq_true rfl) ?_
  intro p e s m args below meth c A Q C hxw hxs hT hQ
  show Z p l e { frames := 7, cells := 1, slots := 6, locals := 112 } s m args below meth c X A 2 Q 0 0 (IW h a b na nf X gP gT gA gF) [(0, .ref (h 0)), (1, .int wa)] 0 []
  refine z_iln C dX5_total_0 1 rfl ?_
  refine z_ic C dX5_total_1 0 (by decide) ?_
  refine z_ic C dX5_total_2 5 (by decide) ?_
  exact z_xS0 (As := [.int wa, .int 0, .int 5]) (rest := []) C hxw hxs hT hQ (mX5_needWithin_x l hl X wa 0 5 hy0) gX5_total_X5_needWithin rfl ⟨by decide, by decide, (by decide : (parseMethodDescriptor yX5_needWithin.desc).map (fun d => d.parameters.length) = some 3)⟩ ⟨by decide, by decide⟩ ⟨by decide, by decide⟩ (Nat.le_of_ble_eq_true rfl) dX5_total_3 rfl (Nat.le_of_ble_eq_true rfl) (Nat.le_of_ble_eq_true rfl)
set_option maxHeartbeats 4000000 in
set_option maxRecDepth 100000 in
theorem mX5_iceAnew (l : Launch) (X : zX) (h : Nat → Nat) (a : Nat → Nat) (b : Nat → Nat) (na : Nat → Nat) (nf : Nat → Nat) (gP : zG) (gT : zG) (gA : zG) (gF : zG) : CI l yX5_iceAnew wsX5_iceAnew 0 0 0 0 X (IW h a b na nf X gP gT gA gF) [.ref (h 0)] (fX5_iceAnew gP gT gA gF) (IW h a b na nf X gP gT gA gF) := by
  obtain ⟨res, hF⟩ : ∃ z9r, z9r = fX5_iceAnew gP gT gA gF := ⟨_, rfl⟩
  rw [← hF]
  refine ci_intro (cc := cX5_iceAnew) (ret := (some .int)) (maxL := 2) (by decide +kernel) rfl (Nat.le_of_ble_eq_true rfl) ?_
  intro p e s m args below meth c A Q C hQ
  have hX3 : ∀ w ∈ wsX30, w ∈ wsX5_iceAnew := by decide +kernel
  have hX4 : ∀ w ∈ wsX40, w ∈ wsX5_iceAnew := by decide +kernel
  have hX5 : ∀ w ∈ wsX50, w ∈ wsX5_iceAnew := by decide +kernel
  show Z p l e { frames := 0, cells := 0, slots := 0, locals := 0 } s m args below meth c X A 2 Q 0 0 (IW h a b na nf X gP gT gA gF) [(0, .ref (h 0))] 0 []
  refine z_aln C dX5_iceAnew_0 0 rfl ?_
  refine z_get (v := .ref (a 0)) C 0 0 dX5_iceAnew_1 rfl rfl rfl hX5 (by decide) (by decide +kernel) rfl ?_
  refine z_get (v := .ref (a 2)) C 1 6 dX5_iceAnew_4 rfl rfl rfl hX3 (by decide) (by decide +kernel) rfl ?_
  refine z_asn C 1 [(1, .ref (a 2)), (0, .ref (h 0))] dX5_iceAnew_7 rfl (by decide) rfl ?_
  refine z_aln C dX5_iceAnew_8 0 rfl ?_
  refine z_get (v := .int (gP 11 0)) C 3 0 dX5_iceAnew_9 rfl rfl rfl hX4 (by decide) (by decide +kernel) rfl ?_
  refine z_aln C dX5_iceAnew_12 0 rfl ?_
  refine z_get (v := .int (gP 11 1)) C 3 1 dX5_iceAnew_13 rfl rfl rfl hX4 (by decide) (by decide +kernel) rfl ?_
  refine z_iadd C dX5_iceAnew_16 ((gP 11 0) + (gP 11 1)) rfl ?_
  refine z_aln C dX5_iceAnew_17 0 rfl ?_
  refine z_get (v := .int (gP 11 2)) C 3 2 dX5_iceAnew_18 rfl rfl rfl hX4 (by decide) (by decide +kernel) rfl ?_
  refine z_isub C dX5_iceAnew_21 (((gP 11 0) + (gP 11 1)) - (gP 11 2)) rfl ?_
  refine z_aln C dX5_iceAnew_22 0 rfl ?_
  refine z_get (v := .int (gP 11 4)) C 3 4 dX5_iceAnew_23 rfl rfl rfl hX4 (by decide) (by decide +kernel) rfl ?_
  refine z_isub C dX5_iceAnew_26 ((((gP 11 0) + (gP 11 1)) - (gP 11 2)) - (gP 11 4)) rfl ?_
  exact z_iret C hQ dX5_iceAnew_27 (by rw [hF]; first | done | rfl) rfl (by decide) (by decide)
set_option maxHeartbeats 4000000 in
set_option maxRecDepth 100000 in
theorem mX5_tryOut (l : Launch) (X : zX) (h : Nat → Nat) (a : Nat → Nat) (b : Nat → Nat) (na : Nat → Nat) (nf : Nat → Nat) (gP : zG) (gT : zG) (gA : zG) (gF : zG) (pa : Nat) (yr : Nat) (hy0 : gP 10 0 = nI yr) (hy1 : yr + pa ≤ 60) : CV l yX5_tryOut wsX5_tryOut 5 114 0 0 X (IW h a b na nf X gP gT gA gF) [.ref (h 0), .int (nI pa)] (IW h a b na nf X gP (fX5_tryOut gP gT gA gF pa) gA gF) := by
  obtain ⟨res, hF⟩ : ∃ z9r, z9r = fX5_tryOut gP gT gA gF pa := ⟨_, rfl⟩
  rw [← hF]
  refine cu_intro (cc := cX5_tryOut) (ret := none) (maxL := 3) (by decide +kernel) rfl (Nat.le_of_ble_eq_true rfl) ?_
  intro p e s m args below meth c A Q C hQ
  have hX5 : ∀ w ∈ wsX50, w ∈ wsX5_tryOut := by decide +kernel
  show Z p l e { frames := 5, cells := 0, slots := 0, locals := 114 } s m args below meth c X A 3 Q 0 0 (IW h a b na nf X gP gT gA gF) [(0, .ref (h 0)), (1, .int (nI pa))] 0 []
  refine z_aln C dX5_tryOut_0 0 rfl ?_
  refine z_get (v := .ref (b 0)) C 0 1 dX5_tryOut_1 rfl rfl rfl hX5 (by decide) (by decide +kernel) rfl ?_
  refine z_aln C dX5_tryOut_4 0 rfl ?_
  refine z_get (v := .ref (a 0)) C 0 0 dX5_tryOut_5 rfl rfl rfl hX5 (by decide) (by decide +kernel) rfl ?_
  refine z_cVu (As := [.ref (a 0)]) (rest := []) C (mX3_becomeLike l X b a gT gP ) gX5_tryOut_X3_becomeLike rfl ⟨rfl, by decide, by decide, (by decide : (parseMethodDescriptor yX3_becomeLike.desc).map (fun d => d.parameters.length) = some 1)⟩ ⟨by decide, by decide⟩ ⟨by decide, by decide⟩ 0 3 rfl rfl [14, 15, 16, 17, 18, 19, 20, 21, 22, 23, 24, 25, 26, 1, 2, 3, 4, 5, 6, 7, 8, 9, 10, 11, 12, 13] [0, 27, 28, 29, 30, 31, 32, 33, 34, 35, 36] [0, 24, 25, 26, 27, 28, 29, 30, 31, 32, 33, 34, 35, 36, 11, 12, 13, 14, 15, 16, 17, 18, 19, 20, 21, 22, 23, 1, 2, 3, 4, 5, 6, 7, 8, 9, 10] rfl rfl (by decide) (by decide) (by decide) (by decide) (fun _ => (IW h a b na nf X gP (fX3_becomeLike gT gP) gA gF)) (fun _ => rfl) (Nat.le_of_ble_eq_true rfl) dX5_tryOut_8 rfl (fun _ => ?_)
  obtain ⟨u1, hu1⟩ : ∃ z9u, z9u = (fX3_becomeLike gT gP) := ⟨_, rfl⟩
  rw [← hu1]
  have hF := hF.trans (jn_at hu1)
  refine z_ic C dX5_tryOut_11 0 (by decide) ?_
  refine z_isn C 2 [(2, .int 0), (0, .ref (h 0)), (1, .int (nI pa))] dX5_tryOut_12 rfl (by decide) rfl ?_
  refine z_lv [1, 2, 0] [(0, .ref (h 0)), (1, .int (nI pa)), (2, .int 0)] rfl ?_
  have LPk3 : ∀ (nk3 k3 : Nat) (x2 : zG), k3 + nk3 = pa → (x2 10 0 = nI (yr + k3)) → res = fX5_tryOut_L13 nk3 k3 x2 → Z p l e { frames := 5, cells := 0, slots := 0, locals := 114 } s m args below meth c X A 3 Q 0 0 (IW h a b na nf X gP x2 gA gF) [(0, .ref (h 0)), (1, .int (nI pa)), (2, .int (nI k3))] 13 [] := by
    intro nk3
    induction nk3 with
    | zero =>
      intro k3 x2 hkk3 hik3 hF
      refine z_iln C dX5_tryOut_13 2 rfl ?_
      refine z_iln C dX5_tryOut_14 1 rfl ?_
      refine z_ic_geN C k3 pa 31 dX5_tryOut_15 (by decide) rfl rfl (by omega) (by omega) (fun c4 => ?_) (fun c4 => ?_)
      rotate_left
      · exact absurd c4 (by omega)
      exact z_vret C hQ () dX5_tryOut_31 (by rw [hF]; first | done | rfl) (by decide) (by decide)
    | succ nk3 ihk3 =>
      intro k3 x2 hkk3 hik3 hF
      refine z_iln C dX5_tryOut_13 2 rfl ?_
      refine z_iln C dX5_tryOut_14 1 rfl ?_
      refine z_ic_geN C k3 pa 31 dX5_tryOut_15 (by decide) rfl rfl (by omega) (by omega) (fun c5 => ?_) (fun c5 => ?_)
      · exact absurd c5 (by omega)
      refine z_aln C dX5_tryOut_18 0 rfl ?_
      refine z_get (v := .ref (b 0)) C 0 1 dX5_tryOut_19 rfl rfl rfl hX5 (by decide) (by decide +kernel) rfl ?_
      refine z_cVu (As := []) (rest := []) C (mX3_goThroughYear l X b x2 (by rw [hik3, nI_1]; exact vp_in_nI (by omega) (by decide))) gX5_tryOut_X3_goThroughYear rfl ⟨rfl, by decide, by decide, (by decide : (parseMethodDescriptor yX3_goThroughYear.desc).map (fun d => d.parameters.length) = some 0)⟩ ⟨by decide, by decide⟩ ⟨by decide, by decide⟩ 0 3 rfl rfl [14, 15, 16, 17, 18, 19, 20, 21, 22, 23, 24, 25, 26] [0, 1, 2, 3, 4, 5, 6, 7, 8, 9, 10, 11, 12, 13, 27, 28, 29, 30, 31, 32, 33, 34, 35, 36] [0, 1, 2, 3, 4, 5, 6, 7, 8, 9, 10, 11, 12, 13, 24, 25, 26, 27, 28, 29, 30, 31, 32, 33, 34, 35, 36, 14, 15, 16, 17, 18, 19, 20, 21, 22, 23] rfl rfl (by decide) (by decide) (by decide) (by decide) (fun _ => (IW h a b na nf X gP (fX3_goThroughYear x2) gA gF)) (fun _ => rfl) (Nat.le_of_ble_eq_true rfl) dX5_tryOut_22 rfl (fun _ => ?_)
      obtain ⟨u6, hu6⟩ : ∃ z9u, z9u = (fX3_goThroughYear x2) := ⟨_, rfl⟩
      rw [← hu6]
      have hF := hF.trans (jn_at hu6)
      refine z_inc C 2 (nI (k3 + 1)) [(2, .int (nI (k3 + 1))), (0, .ref (h 0)), (1, .int (nI pa))] dX5_tryOut_25 rfl (nI_add k3 1) (by decide) rfl ?_
      refine z_go C 13 dX5_tryOut_28 (by decide) ?_
      refine z_lv [1, 2, 0] [(0, .ref (h 0)), (1, .int (nI pa)), (2, .int (nI (k3 + 1)))] rfl ?_
      exact ihk3 (k3 + 1) u6 (by omega) (by rw [hu6, year_gty, hik3, nI_1]; rfl) hF
  exact LPk3 pa 0 u1 (by omega) (by rw [hu1]; exact hy0) hF
set_option maxHeartbeats 4000000 in
set_option maxRecDepth 100000 in
theorem mX5_would (l : Launch) (X : zX) (h : Nat → Nat) (a : Nat → Nat) (b : Nat → Nat) (na : Nat → Nat) (nf : Nat → Nat) (gP : zG) (gT : zG) (gA : zG) (gF : zG) (pa : Nat) (k : Nat) (w : Nat) (yr : Nat) (hy0 : 1 ≤ pa) (hy1 : pa ≤ 20) (hy2 : gP 10 0 = nI yr) (hy3 : yr + pa ≤ 60) (hy4 : k < 12) (hy5 : w < 10) : CI l yX5_would wsX5_would 6 136 0 0 X (IW h a b na nf X gP gT gA gF) [.ref (h 0), .int (nI pa), .int (nI k), .int (nI w)] ((fX5_would gP gT gA gF pa k w).1) (IW h a b na nf X gP ((fX5_would gP gT gA gF pa k w).2) gA gF) := by
  obtain ⟨res, hF⟩ : ∃ z9r, z9r = fX5_would gP gT gA gF pa k w := ⟨_, rfl⟩
  rw [← hF]
  refine ci_intro (cc := cX5_would) (ret := (some .int)) (maxL := 4) (by decide +kernel) rfl (Nat.le_of_ble_eq_true rfl) ?_
  intro p e s m args below meth c A Q C hQ
  have hX5 : ∀ w ∈ wsX50, w ∈ wsX5_would := by decide +kernel
  show Z p l e { frames := 6, cells := 0, slots := 0, locals := 136 } s m args below meth c X A 4 Q 0 0 (IW h a b na nf X gP gT gA gF) [(0, .ref (h 0)), (1, .int (nI pa)), (2, .int (nI k)), (3, .int (nI w))] 0 []
  refine z_iln C dX5_would_0 2 rfl ?_
  refine z_cSv0 (As := [.int (nI k)]) (rest := []) C (mX5_needCell l X k (by omega)) gX5_would_X5_needCell rfl ⟨by decide, by decide, (by decide : (parseMethodDescriptor yX5_needCell.desc).map (fun d => d.parameters.length) = some 1)⟩ ⟨by decide, by decide⟩ ⟨by decide, by decide⟩ (Nat.le_of_ble_eq_true rfl) dX5_would_1 rfl ?_
  refine z_iln C dX5_would_4 1 rfl ?_
  refine z_ic C dX5_would_5 1 (by decide) ?_
  refine z_bp C dX5_would_6 20 (by decide) ?_
  refine z_cSv0 (As := [.int (nI pa), .int 1, .int 20]) (rest := []) C (mX5_needWithin l X (nI pa) 1 20 (nI_nlt (b := 1) hy0 (by omega)) (nI_nlt (a := 20) hy1 (by decide))) gX5_would_X5_needWithin rfl ⟨by decide, by decide, (by decide : (parseMethodDescriptor yX5_needWithin.desc).map (fun d => d.parameters.length) = some 3)⟩ ⟨by decide, by decide⟩ ⟨by decide, by decide⟩ (Nat.le_of_ble_eq_true rfl) dX5_would_8 rfl ?_
  refine z_iln C dX5_would_11 3 rfl ?_
  refine z_ic C dX5_would_12 0 (by decide) ?_
  refine z_bp C dX5_would_13 9 (by decide) ?_
  refine z_cSv0 (As := [.int (nI w), .int 0, .int 9]) (rest := []) C (mX5_needWithin l X (nI w) 0 9 (nI_pos (by omega)) (nI_nlt (a := 9) (b := w) (by omega) (by decide))) gX5_would_X5_needWithin rfl ⟨by decide, by decide, (by decide : (parseMethodDescriptor yX5_needWithin.desc).map (fun d => d.parameters.length) = some 3)⟩ ⟨by decide, by decide⟩ ⟨by decide, by decide⟩ (Nat.le_of_ble_eq_true rfl) dX5_would_15 rfl ?_
  refine z_aln C dX5_would_18 0 rfl ?_
  refine z_iln C dX5_would_19 1 rfl ?_
  refine z_cVv0 (As := [.int (nI pa)]) (rest := []) C (mX5_needNotTooLate l X h a b na nf gP gT gA gF (nI pa) (by rw [hy2, nI_add]; exact nI_nlt (a := 60) hy3 (by decide))) gX5_would_X5_needNotTooLate rfl ⟨rfl, by decide, by decide, (by decide : (parseMethodDescriptor yX5_needNotTooLate.desc).map (fun d => d.parameters.length) = some 1)⟩ ⟨by decide, by decide⟩ ⟨by decide, by decide⟩ 0 5 rfl rfl (Nat.le_of_ble_eq_true rfl) dX5_would_20 rfl ?_
  refine z_aln C dX5_would_23 0 rfl ?_
  refine z_iln C dX5_would_24 1 rfl ?_
  refine z_cVv0 (As := [.int (nI pa)]) (rest := []) C (mX5_tryOut l X h a b na nf gP gT gA gF pa yr hy2 hy3) gX5_would_X5_tryOut rfl ⟨rfl, by decide, by decide, (by decide : (parseMethodDescriptor yX5_tryOut.desc).map (fun d => d.parameters.length) = some 1)⟩ ⟨by decide, by decide⟩ ⟨by decide, by decide⟩ 0 5 rfl rfl (Nat.le_of_ble_eq_true rfl) dX5_would_25 rfl ?_
  obtain ⟨u1, hu1⟩ : ∃ z9u, z9u = (fX5_tryOut gP gT gA gF pa) := ⟨_, rfl⟩
  rw [← hu1]
  have hF := hF.trans (jn_at hu1)
  refine z_aln C dX5_would_28 0 rfl ?_
  refine z_get (v := .ref (b 0)) C 0 1 dX5_would_29 rfl rfl rfl hX5 (by decide) (by decide +kernel) rfl ?_
  refine z_iln C dX5_would_32 2 rfl ?_
  refine z_iln C dX5_would_33 3 rfl ?_
  refine z_cVi (As := [.int (nI k), .int (nI w)]) (rest := []) C (mX3_tellOf l X b u1 k w (by omega) (by omega)) gX5_would_X3_tellOf rfl ⟨rfl, by decide, by decide, (by decide : (parseMethodDescriptor yX3_tellOf.desc).map (fun d => d.parameters.length) = some 2)⟩ ⟨by decide, by decide⟩ ⟨by decide, by decide⟩ 0 3 rfl rfl [14, 15, 16, 17, 18, 19, 20, 21, 22, 23, 24, 25, 26] [0, 1, 2, 3, 4, 5, 6, 7, 8, 9, 10, 11, 12, 13, 27, 28, 29, 30, 31, 32, 33, 34, 35, 36] [0, 1, 2, 3, 4, 5, 6, 7, 8, 9, 10, 11, 12, 13, 24, 25, 26, 27, 28, 29, 30, 31, 32, 33, 34, 35, 36, 14, 15, 16, 17, 18, 19, 20, 21, 22, 23] rfl rfl (by decide) (by decide) (by decide) (by decide) (IW h a b na nf X gP u1 gA gF) rfl (Nat.le_of_ble_eq_true rfl) dX5_would_34 rfl ?_
  exact z_iret C hQ dX5_would_37 (by rw [hF]; first | done | rfl) (by rw [hF]; first | done | rfl) (by decide) (by decide)
set_option maxHeartbeats 4000000 in
set_option maxRecDepth 100000 in
theorem mX5_would_x1 (l : Launch) (hl : l.stackTraces = false) (X : zX) (h : Nat → Nat) (a : Nat → Nat) (b : Nat → Nat) (na : Nat → Nat) (nf : Nat → Nat) (gP : zG) (gT : zG) (gA : zG) (gF : zG) (pa : Int32) (ka : Int32) (wa : Int32) (hy0 : ¬ vp_in ka 12) : CXi l yX5_would wsX5_would 7 136 1 6 X (IW h a b na nf X gP gT gA gF) [.ref (h 0), .int pa, .int ka, .int wa] (xIOB) := by
  refine xi_intro (cc := cX5_would) (ret := (some .int)) (maxL := 4) (by decide +kernel) rfl (Nat.le_of_ble_eq_true rfl) ?_
  intro p e s m args below meth c A Q C hxw hxs hT hQ
  show Z p l e { frames := 7, cells := 1, slots := 6, locals := 136 } s m args below meth c X A 4 Q 0 0 (IW h a b na nf X gP gT gA gF) [(0, .ref (h 0)), (1, .int pa), (2, .int ka), (3, .int wa)] 0 []
  refine z_iln C dX5_would_0 2 rfl ?_
  exact z_xS0 (As := [.int ka]) (rest := []) C hxw hxs hT hQ (mX5_needCell_x l hl X ka hy0) gX5_would_X5_needCell rfl ⟨by decide, by decide, (by decide : (parseMethodDescriptor yX5_needCell.desc).map (fun d => d.parameters.length) = some 1)⟩ ⟨by decide, by decide⟩ ⟨by decide, by decide⟩ (Nat.le_of_ble_eq_true rfl) dX5_would_1 rfl (Nat.le_of_ble_eq_true rfl) (Nat.le_of_ble_eq_true rfl)
set_option maxHeartbeats 4000000 in
set_option maxRecDepth 100000 in
theorem mX5_would_x2 (l : Launch) (hl : l.stackTraces = false) (X : zX) (h : Nat → Nat) (a : Nat → Nat) (b : Nat → Nat) (na : Nat → Nat) (nf : Nat → Nat) (gP : zG) (gT : zG) (gA : zG) (gF : zG) (pa : Int32) (k : Nat) (wa : Int32) (hy0 : k < 12) (hy1 : pa < 1 ∨ 20 < pa) : CXi l yX5_would wsX5_would 7 136 1 6 X (IW h a b na nf X gP gT gA gF) [.ref (h 0), .int pa, .int (nI k), .int wa] (xIAE) := by
  refine xi_intro (cc := cX5_would) (ret := (some .int)) (maxL := 4) (by decide +kernel) rfl (Nat.le_of_ble_eq_true rfl) ?_
  intro p e s m args below meth c A Q C hxw hxs hT hQ
  show Z p l e { frames := 7, cells := 1, slots := 6, locals := 136 } s m args below meth c X A 4 Q 0 0 (IW h a b na nf X gP gT gA gF) [(0, .ref (h 0)), (1, .int pa), (2, .int (nI k)), (3, .int wa)] 0 []
  refine z_iln C dX5_would_0 2 rfl ?_
  refine z_cSv0 (As := [.int (nI k)]) (rest := []) C (mX5_needCell l X k (by omega)) gX5_would_X5_needCell rfl ⟨by decide, by decide, (by decide : (parseMethodDescriptor yX5_needCell.desc).map (fun d => d.parameters.length) = some 1)⟩ ⟨by decide, by decide⟩ ⟨by decide, by decide⟩ (Nat.le_of_ble_eq_true rfl) dX5_would_1 rfl ?_
  refine z_iln C dX5_would_4 1 rfl ?_
  refine z_ic C dX5_would_5 1 (by decide) ?_
  refine z_bp C dX5_would_6 20 (by decide) ?_
  exact z_xS0 (As := [.int pa, .int 1, .int 20]) (rest := []) C hxw hxs hT hQ (mX5_needWithin_x l hl X pa 1 20 hy1) gX5_would_X5_needWithin rfl ⟨by decide, by decide, (by decide : (parseMethodDescriptor yX5_needWithin.desc).map (fun d => d.parameters.length) = some 3)⟩ ⟨by decide, by decide⟩ ⟨by decide, by decide⟩ (Nat.le_of_ble_eq_true rfl) dX5_would_8 rfl (Nat.le_of_ble_eq_true rfl) (Nat.le_of_ble_eq_true rfl)
set_option maxHeartbeats 4000000 in
set_option maxRecDepth 100000 in
theorem mX5_would_x3 (l : Launch) (hl : l.stackTraces = false) (X : zX) (h : Nat → Nat) (a : Nat → Nat) (b : Nat → Nat) (na : Nat → Nat) (nf : Nat → Nat) (gP : zG) (gT : zG) (gA : zG) (gF : zG) (pa : Int32) (k : Nat) (wa : Int32) (hy0 : k < 12) (hy1 : ¬ pa < 1) (hy2 : ¬ 20 < pa) (hy3 : wa < 0 ∨ 9 < wa) : CXi l yX5_would wsX5_would 7 136 1 6 X (IW h a b na nf X gP gT gA gF) [.ref (h 0), .int pa, .int (nI k), .int wa] (xIAE) := by
  refine xi_intro (cc := cX5_would) (ret := (some .int)) (maxL := 4) (by decide +kernel) rfl (Nat.le_of_ble_eq_true rfl) ?_
  intro p e s m args below meth c A Q C hxw hxs hT hQ
  show Z p l e { frames := 7, cells := 1, slots := 6, locals := 136 } s m args below meth c X A 4 Q 0 0 (IW h a b na nf X gP gT gA gF) [(0, .ref (h 0)), (1, .int pa), (2, .int (nI k)), (3, .int wa)] 0 []
  refine z_iln C dX5_would_0 2 rfl ?_
  refine z_cSv0 (As := [.int (nI k)]) (rest := []) C (mX5_needCell l X k (by omega)) gX5_would_X5_needCell rfl ⟨by decide, by decide, (by decide : (parseMethodDescriptor yX5_needCell.desc).map (fun d => d.parameters.length) = some 1)⟩ ⟨by decide, by decide⟩ ⟨by decide, by decide⟩ (Nat.le_of_ble_eq_true rfl) dX5_would_1 rfl ?_
  refine z_iln C dX5_would_4 1 rfl ?_
  refine z_ic C dX5_would_5 1 (by decide) ?_
  refine z_bp C dX5_would_6 20 (by decide) ?_
  refine z_cSv0 (As := [.int pa, .int 1, .int 20]) (rest := []) C (mX5_needWithin l X pa 1 20 hy1 hy2) gX5_would_X5_needWithin rfl ⟨by decide, by decide, (by decide : (parseMethodDescriptor yX5_needWithin.desc).map (fun d => d.parameters.length) = some 3)⟩ ⟨by decide, by decide⟩ ⟨by decide, by decide⟩ (Nat.le_of_ble_eq_true rfl) dX5_would_8 rfl ?_
  refine z_iln C dX5_would_11 3 rfl ?_
  refine z_ic C dX5_would_12 0 (by decide) ?_
  refine z_bp C dX5_would_13 9 (by decide) ?_
  exact z_xS0 (As := [.int wa, .int 0, .int 9]) (rest := []) C hxw hxs hT hQ (mX5_needWithin_x l hl X wa 0 9 hy3) gX5_would_X5_needWithin rfl ⟨by decide, by decide, (by decide : (parseMethodDescriptor yX5_needWithin.desc).map (fun d => d.parameters.length) = some 3)⟩ ⟨by decide, by decide⟩ ⟨by decide, by decide⟩ (Nat.le_of_ble_eq_true rfl) dX5_would_15 rfl (Nat.le_of_ble_eq_true rfl) (Nat.le_of_ble_eq_true rfl)
set_option maxHeartbeats 4000000 in
set_option maxRecDepth 100000 in
theorem mX5_would_x4 (l : Launch) (hl : l.stackTraces = false) (X : zX) (h : Nat → Nat) (a : Nat → Nat) (b : Nat → Nat) (na : Nat → Nat) (nf : Nat → Nat) (gP : zG) (gT : zG) (gA : zG) (gF : zG) (pa : Int32) (k : Nat) (wa : Int32) (hy0 : k < 12) (hy1 : ¬ pa < 1) (hy2 : ¬ 20 < pa) (hy3 : ¬ wa < 0) (hy4 : ¬ 9 < wa) (hy5 : 60 < gP 10 0 + pa) : CXi l yX5_would wsX5_would 7 136 1 6 X (IW h a b na nf X gP gT gA gF) [.ref (h 0), .int pa, .int (nI k), .int wa] (xISE) := by
  refine xi_intro (cc := cX5_would) (ret := (some .int)) (maxL := 4) (by decide +kernel) rfl (Nat.le_of_ble_eq_true rfl) ?_
  intro p e s m args below meth c A Q C hxw hxs hT hQ
  show Z p l e { frames := 7, cells := 1, slots := 6, locals := 136 } s m args below meth c X A 4 Q 0 0 (IW h a b na nf X gP gT gA gF) [(0, .ref (h 0)), (1, .int pa), (2, .int (nI k)), (3, .int wa)] 0 []
  refine z_iln C dX5_would_0 2 rfl ?_
  refine z_cSv0 (As := [.int (nI k)]) (rest := []) C (mX5_needCell l X k (by omega)) gX5_would_X5_needCell rfl ⟨by decide, by decide, (by decide : (parseMethodDescriptor yX5_needCell.desc).map (fun d => d.parameters.length) = some 1)⟩ ⟨by decide, by decide⟩ ⟨by decide, by decide⟩ (Nat.le_of_ble_eq_true rfl) dX5_would_1 rfl ?_
  refine z_iln C dX5_would_4 1 rfl ?_
  refine z_ic C dX5_would_5 1 (by decide) ?_
  refine z_bp C dX5_would_6 20 (by decide) ?_
  refine z_cSv0 (As := [.int pa, .int 1, .int 20]) (rest := []) C (mX5_needWithin l X pa 1 20 hy1 hy2) gX5_would_X5_needWithin rfl ⟨by decide, by decide, (by decide : (parseMethodDescriptor yX5_needWithin.desc).map (fun d => d.parameters.length) = some 3)⟩ ⟨by decide, by decide⟩ ⟨by decide, by decide⟩ (Nat.le_of_ble_eq_true rfl) dX5_would_8 rfl ?_
  refine z_iln C dX5_would_11 3 rfl ?_
  refine z_ic C dX5_would_12 0 (by decide) ?_
  refine z_bp C dX5_would_13 9 (by decide) ?_
  refine z_cSv0 (As := [.int wa, .int 0, .int 9]) (rest := []) C (mX5_needWithin l X wa 0 9 hy3 hy4) gX5_would_X5_needWithin rfl ⟨by decide, by decide, (by decide : (parseMethodDescriptor yX5_needWithin.desc).map (fun d => d.parameters.length) = some 3)⟩ ⟨by decide, by decide⟩ ⟨by decide, by decide⟩ (Nat.le_of_ble_eq_true rfl) dX5_would_15 rfl ?_
  refine z_aln C dX5_would_18 0 rfl ?_
  refine z_iln C dX5_would_19 1 rfl ?_
  exact z_xV0 (As := [.int pa]) (rest := []) C hxw hxs hT hQ (mX5_needNotTooLate_x l hl X h a b na nf gP gT gA gF pa hy5) gX5_would_X5_needNotTooLate rfl ⟨rfl, by decide, by decide, (by decide : (parseMethodDescriptor yX5_needNotTooLate.desc).map (fun d => d.parameters.length) = some 1)⟩ ⟨by decide, by decide⟩ ⟨by decide, by decide⟩ 0 5 rfl rfl (Nat.le_of_ble_eq_true rfl) dX5_would_20 rfl (Nat.le_of_ble_eq_true rfl) (Nat.le_of_ble_eq_true rfl)
set_option maxHeartbeats 4000000 in
set_option maxRecDepth 100000 in
theorem mX5_forecast (l : Launch) (X : zX) (h : Nat → Nat) (a : Nat → Nat) (b : Nat → Nat) (na : Nat → Nat) (nf : Nat → Nat) (gP : zG) (gT : zG) (gA : zG) (gF : zG) (pa : Nat) (yr : Nat) (hy0 : 1 ≤ pa) (hy1 : pa ≤ 20) (hy2 : gP 10 0 = nI yr) (hy3 : yr + pa ≤ 60) (hy4 : ∃ fl, fl ≤ 10 ∧ gF 2 0 = nI fl) (hy5 : gF 2 0 < 10) : CI l yX5_forecast wsX5_forecast 6 136 0 0 X (IW h a b na nf X gP gT gA gF) [.ref (h 0), .int (nI pa)] ((fX5_forecast gP gT gA gF pa).1) (IW h a b na nf X gP ((fX5_forecast gP gT gA gF pa).2.1) gA ((fX5_forecast gP gT gA gF pa).2.2)) := by
  obtain ⟨res, hF⟩ : ∃ z9r, z9r = fX5_forecast gP gT gA gF pa := ⟨_, rfl⟩
  rw [← hF]
  refine ci_intro (cc := cX5_forecast) (ret := (some .int)) (maxL := 3) (by decide +kernel) rfl (Nat.le_of_ble_eq_true rfl) ?_
  intro p e s m args below meth c A Q C hQ
  have hX2 : ∀ w ∈ wsX20, w ∈ wsX5_forecast := by decide +kernel
  have hX3 : ∀ w ∈ wsX30, w ∈ wsX5_forecast := by decide +kernel
  have hX5 : ∀ w ∈ wsX50, w ∈ wsX5_forecast := by decide +kernel
  show Z p l e { frames := 6, cells := 0, slots := 0, locals := 136 } s m args below meth c X A 3 Q 0 0 (IW h a b na nf X gP gT gA gF) [(0, .ref (h 0)), (1, .int (nI pa))] 0 []
  refine z_iln C dX5_forecast_0 1 rfl ?_
  refine z_ic C dX5_forecast_1 1 (by decide) ?_
  refine z_bp C dX5_forecast_2 20 (by decide) ?_
  refine z_cSv0 (As := [.int (nI pa), .int 1, .int 20]) (rest := []) C (mX5_needWithin l X (nI pa) 1 20 (nI_nlt (b := 1) hy0 (by omega)) (nI_nlt (a := 20) hy1 (by decide))) gX5_forecast_X5_needWithin rfl ⟨by decide, by decide, (by decide : (parseMethodDescriptor yX5_needWithin.desc).map (fun d => d.parameters.length) = some 3)⟩ ⟨by decide, by decide⟩ ⟨by decide, by decide⟩ (Nat.le_of_ble_eq_true rfl) dX5_forecast_4 rfl ?_
  refine z_aln C dX5_forecast_7 0 rfl ?_
  refine z_iln C dX5_forecast_8 1 rfl ?_
  refine z_cVv0 (As := [.int (nI pa)]) (rest := []) C (mX5_needNotTooLate l X h a b na nf gP gT gA gF (nI pa) (by rw [hy2, nI_add]; exact nI_nlt (a := 60) hy3 (by decide))) gX5_forecast_X5_needNotTooLate rfl ⟨rfl, by decide, by decide, (by decide : (parseMethodDescriptor yX5_needNotTooLate.desc).map (fun d => d.parameters.length) = some 1)⟩ ⟨by decide, by decide⟩ ⟨by decide, by decide⟩ 0 5 rfl rfl (Nat.le_of_ble_eq_true rfl) dX5_forecast_9 rfl ?_
  refine z_aln C dX5_forecast_12 0 rfl ?_
  refine z_get (v := .ref (nf 0)) C 0 3 dX5_forecast_13 rfl rfl rfl hX5 (by decide) (by decide +kernel) rfl ?_
  refine z_get (v := .int (gF 2 0)) C 34 2 dX5_forecast_16 rfl rfl rfl hX2 (by decide) (by decide +kernel) rfl ?_
  refine z_bp C dX5_forecast_19 10 (by decide) ?_
  refine z_ic_lt C 34 dX5_forecast_21 (by decide) (fun c1 => ?_) (fun c1 => ?_)
  rotate_left
  · exact absurd hy5 c1
  refine z_aln C dX5_forecast_34 0 rfl ?_
  refine z_iln C dX5_forecast_35 1 rfl ?_
  refine z_cVv0 (As := [.int (nI pa)]) (rest := []) C (mX5_tryOut l X h a b na nf gP gT gA gF pa yr hy2 hy3) gX5_forecast_X5_tryOut rfl ⟨rfl, by decide, by decide, (by decide : (parseMethodDescriptor yX5_tryOut.desc).map (fun d => d.parameters.length) = some 1)⟩ ⟨by decide, by decide⟩ ⟨by decide, by decide⟩ 0 5 rfl rfl (Nat.le_of_ble_eq_true rfl) dX5_forecast_36 rfl ?_
  obtain ⟨u2, hu2⟩ : ∃ z9u, z9u = (fX5_tryOut gP gT gA gF pa) := ⟨_, rfl⟩
  rw [← hu2]
  have hF := hF.trans (jn_at hu2)
  refine z_aln C dX5_forecast_39 0 rfl ?_
  refine z_get (v := .ref (b 0)) C 0 1 dX5_forecast_40 rfl rfl rfl hX5 (by decide) (by decide +kernel) rfl ?_
  refine z_get (v := .ref (b 1)) C 14 5 dX5_forecast_43 rfl rfl rfl hX3 (by decide) (by decide +kernel) rfl ?_
  refine z_cVi (As := []) (rest := []) C (mX1_allIce l X b (u2 8) (u2 9) ) gX5_forecast_X1_allIce rfl ⟨rfl, by decide, by decide, (by decide : (parseMethodDescriptor yX1_allIce.desc).map (fun d => d.parameters.length) = some 0)⟩ ⟨by decide, by decide⟩ ⟨by decide, by decide⟩ 0 1 rfl rfl [15, 25, 26] [0, 1, 2, 3, 4, 5, 6, 7, 8, 9, 10, 11, 12, 13, 14, 16, 17, 18, 19, 20, 21, 22, 23, 24, 27, 28, 29, 30, 31, 32, 33, 34, 35, 36] [0, 1, 2, 3, 4, 5, 6, 7, 8, 9, 10, 11, 12, 13, 14, 34, 15, 16, 17, 18, 19, 20, 21, 22, 23, 35, 36, 24, 25, 26, 27, 28, 29, 30, 31, 32, 33] rfl rfl (by decide) (by decide) (by decide) (by decide) (IW h a b na nf X gP u2 gA gF) rfl (Nat.le_of_ble_eq_true rfl) dX5_forecast_46 rfl ?_
  obtain ⟨v3, hv3⟩ : ∃ z9v, z9v = ((fX1_allIce (u2 8) (u2 9)) : Int32) := ⟨_, rfl⟩
  have hF := hF.trans (jn_at hv3)
  refine z_nm hv3 ?_
  refine z_isn C 2 [(2, .int v3), (0, .ref (h 0)), (1, .int (nI pa))] dX5_forecast_49 rfl (by decide) rfl ?_
  refine z_aln C dX5_forecast_50 1 rfl ?_
  refine z_get (v := .ref (nf 0)) C 0 3 dX5_forecast_51 rfl rfl rfl hX5 (by decide) (by decide +kernel) rfl ?_
  refine z_aln C dX5_forecast_54 1 rfl ?_
  refine z_get (v := .ref (b 0)) C 0 1 dX5_forecast_55 rfl rfl rfl hX5 (by decide) (by decide +kernel) rfl ?_
  refine z_get (v := .int (u2 10 0)) C 14 0 dX5_forecast_58 rfl rfl rfl hX3 (by decide) (by decide +kernel) rfl ?_
  refine z_iln C dX5_forecast_61 0 rfl ?_
  refine z_cVu (As := [.int (u2 10 0), .int v3]) (rest := []) C (mX2_keep l X nf gF (u2 10 0) v3 hy4) gX5_forecast_X2_keep rfl ⟨rfl, by decide, by decide, (by decide : (parseMethodDescriptor yX2_keep.desc).map (fun d => d.parameters.length) = some 2)⟩ ⟨by decide, by decide⟩ ⟨by decide, by decide⟩ 0 2 rfl rfl [34, 35, 36] [0, 1, 2, 3, 4, 5, 6, 7, 8, 9, 10, 11, 12, 13, 14, 15, 16, 17, 18, 19, 20, 21, 22, 23, 24, 25, 26, 27, 28, 29, 30, 31, 32, 33] [0, 1, 2, 3, 4, 5, 6, 7, 8, 9, 10, 11, 12, 13, 14, 15, 16, 17, 18, 19, 20, 21, 22, 23, 24, 25, 26, 27, 28, 29, 30, 31, 32, 33, 34, 35, 36] rfl rfl (by decide) (by decide) (by decide) (by decide) (fun _ => (IW h a b na nf X gP u2 gA (fX2_keep gF (u2 10 0) v3))) (fun _ => rfl) (Nat.le_of_ble_eq_true rfl) dX5_forecast_62 rfl (fun _ => ?_)
  obtain ⟨u4, hu4⟩ : ∃ z9u, z9u = (fX2_keep gF (u2 10 0) v3) := ⟨_, rfl⟩
  rw [← hu4]
  have hF := hF.trans (jn_at hu4)
  refine z_iln C dX5_forecast_65 0 rfl ?_
  exact z_iret C hQ dX5_forecast_66 (by rw [hF]; first | done | rfl) (by rw [hF]; first | done | rfl) (by decide) (by decide)
set_option maxHeartbeats 4000000 in
set_option maxRecDepth 100000 in
theorem mX5_forecast_x1 (l : Launch) (hl : l.stackTraces = false) (X : zX) (h : Nat → Nat) (a : Nat → Nat) (b : Nat → Nat) (na : Nat → Nat) (nf : Nat → Nat) (gP : zG) (gT : zG) (gA : zG) (gF : zG) (pa : Int32) (hy0 : pa < 1 ∨ 20 < pa) : CXi l yX5_forecast wsX5_forecast 7 136 1 6 X (IW h a b na nf X gP gT gA gF) [.ref (h 0), .int pa] (xIAE) := by
  refine xi_intro (cc := cX5_forecast) (ret := (some .int)) (maxL := 3) (by decide +kernel) rfl (Nat.le_of_ble_eq_true rfl) ?_
  intro p e s m args below meth c A Q C hxw hxs hT hQ
  show Z p l e { frames := 7, cells := 1, slots := 6, locals := 136 } s m args below meth c X A 3 Q 0 0 (IW h a b na nf X gP gT gA gF) [(0, .ref (h 0)), (1, .int pa)] 0 []
  refine z_iln C dX5_forecast_0 1 rfl ?_
  refine z_ic C dX5_forecast_1 1 (by decide) ?_
  refine z_bp C dX5_forecast_2 20 (by decide) ?_
  exact z_xS0 (As := [.int pa, .int 1, .int 20]) (rest := []) C hxw hxs hT hQ (mX5_needWithin_x l hl X pa 1 20 hy0) gX5_forecast_X5_needWithin rfl ⟨by decide, by decide, (by decide : (parseMethodDescriptor yX5_needWithin.desc).map (fun d => d.parameters.length) = some 3)⟩ ⟨by decide, by decide⟩ ⟨by decide, by decide⟩ (Nat.le_of_ble_eq_true rfl) dX5_forecast_4 rfl (Nat.le_of_ble_eq_true rfl) (Nat.le_of_ble_eq_true rfl)
set_option maxHeartbeats 4000000 in
set_option maxRecDepth 100000 in
theorem mX5_forecast_x2 (l : Launch) (hl : l.stackTraces = false) (X : zX) (h : Nat → Nat) (a : Nat → Nat) (b : Nat → Nat) (na : Nat → Nat) (nf : Nat → Nat) (gP : zG) (gT : zG) (gA : zG) (gF : zG) (pa : Int32) (hy0 : ¬ pa < 1) (hy1 : ¬ 20 < pa) (hy2 : 60 < gP 10 0 + pa) : CXi l yX5_forecast wsX5_forecast 7 136 1 6 X (IW h a b na nf X gP gT gA gF) [.ref (h 0), .int pa] (xISE) := by
  refine xi_intro (cc := cX5_forecast) (ret := (some .int)) (maxL := 3) (by decide +kernel) rfl (Nat.le_of_ble_eq_true rfl) ?_
  intro p e s m args below meth c A Q C hxw hxs hT hQ
  show Z p l e { frames := 7, cells := 1, slots := 6, locals := 136 } s m args below meth c X A 3 Q 0 0 (IW h a b na nf X gP gT gA gF) [(0, .ref (h 0)), (1, .int pa)] 0 []
  refine z_iln C dX5_forecast_0 1 rfl ?_
  refine z_ic C dX5_forecast_1 1 (by decide) ?_
  refine z_bp C dX5_forecast_2 20 (by decide) ?_
  refine z_cSv0 (As := [.int pa, .int 1, .int 20]) (rest := []) C (mX5_needWithin l X pa 1 20 hy0 hy1) gX5_forecast_X5_needWithin rfl ⟨by decide, by decide, (by decide : (parseMethodDescriptor yX5_needWithin.desc).map (fun d => d.parameters.length) = some 3)⟩ ⟨by decide, by decide⟩ ⟨by decide, by decide⟩ (Nat.le_of_ble_eq_true rfl) dX5_forecast_4 rfl ?_
  refine z_aln C dX5_forecast_7 0 rfl ?_
  refine z_iln C dX5_forecast_8 1 rfl ?_
  exact z_xV0 (As := [.int pa]) (rest := []) C hxw hxs hT hQ (mX5_needNotTooLate_x l hl X h a b na nf gP gT gA gF pa hy2) gX5_forecast_X5_needNotTooLate rfl ⟨rfl, by decide, by decide, (by decide : (parseMethodDescriptor yX5_needNotTooLate.desc).map (fun d => d.parameters.length) = some 1)⟩ ⟨by decide, by decide⟩ ⟨by decide, by decide⟩ 0 5 rfl rfl (Nat.le_of_ble_eq_true rfl) dX5_forecast_9 rfl (Nat.le_of_ble_eq_true rfl) (Nat.le_of_ble_eq_true rfl)
set_option maxHeartbeats 4000000 in
set_option maxRecDepth 100000 in
theorem mX5_forecast_x3 (l : Launch) (hl : l.stackTraces = false) (X : zX) (h : Nat → Nat) (a : Nat → Nat) (b : Nat → Nat) (na : Nat → Nat) (nf : Nat → Nat) (gP : zG) (gT : zG) (gA : zG) (gF : zG) (pa : Int32) (hy0 : ¬ pa < 1) (hy1 : ¬ 20 < pa) (hy2 : ¬ 60 < gP 10 0 + pa) (hy3 : ¬ gF 2 0 < 10) : CXi l yX5_forecast wsX5_forecast 6 136 1 6 X (IW h a b na nf X gP gT gA gF) [.ref (h 0), .int pa] (xISE) := by
  refine xi_intro (cc := cX5_forecast) (ret := (some .int)) (maxL := 3) (by decide +kernel) rfl (Nat.le_of_ble_eq_true rfl) ?_
  intro p e s m args below meth c A Q C hxw hxs hT hQ
  have hX2 : ∀ w ∈ wsX20, w ∈ wsX5_forecast := by decide +kernel
  have hX5 : ∀ w ∈ wsX50, w ∈ wsX5_forecast := by decide +kernel
  show Z p l e { frames := 6, cells := 1, slots := 6, locals := 136 } s m args below meth c X A 3 Q 0 0 (IW h a b na nf X gP gT gA gF) [(0, .ref (h 0)), (1, .int pa)] 0 []
  refine z_iln C dX5_forecast_0 1 rfl ?_
  refine z_ic C dX5_forecast_1 1 (by decide) ?_
  refine z_bp C dX5_forecast_2 20 (by decide) ?_
  refine z_cSv0 (As := [.int pa, .int 1, .int 20]) (rest := []) C (mX5_needWithin l X pa 1 20 hy0 hy1) gX5_forecast_X5_needWithin rfl ⟨by decide, by decide, (by decide : (parseMethodDescriptor yX5_needWithin.desc).map (fun d => d.parameters.length) = some 3)⟩ ⟨by decide, by decide⟩ ⟨by decide, by decide⟩ (Nat.le_of_ble_eq_true rfl) dX5_forecast_4 rfl ?_
  refine z_aln C dX5_forecast_7 0 rfl ?_
  refine z_iln C dX5_forecast_8 1 rfl ?_
  refine z_cVv0 (As := [.int pa]) (rest := []) C (mX5_needNotTooLate l X h a b na nf gP gT gA gF pa hy2) gX5_forecast_X5_needNotTooLate rfl ⟨rfl, by decide, by decide, (by decide : (parseMethodDescriptor yX5_needNotTooLate.desc).map (fun d => d.parameters.length) = some 1)⟩ ⟨by decide, by decide⟩ ⟨by decide, by decide⟩ 0 5 rfl rfl (Nat.le_of_ble_eq_true rfl) dX5_forecast_9 rfl ?_
  refine z_aln C dX5_forecast_12 0 rfl ?_
  refine z_get (v := .ref (nf 0)) C 0 3 dX5_forecast_13 rfl rfl rfl hX5 (by decide) (by decide +kernel) rfl ?_
  refine z_get (v := .int (gF 2 0)) C 34 2 dX5_forecast_16 rfl rfl rfl hX2 (by decide) (by decide +kernel) rfl ?_
  refine z_bp C dX5_forecast_19 10 (by decide) ?_
  refine z_ic_lt C 34 dX5_forecast_21 (by decide) (fun c1 => ?_) (fun c1 => ?_)
  · exact absurd c1 hy3
  exact z_throw C hl hxw hxs hT hQ "there are 10 forecasts" dX5_forecast_24 dX5_forecast_27 dX5_forecast_28 dX5_forecast_30 dX5_forecast_33 rfl (by decide +kernel) (by decide +kernel) (by decide +kernel) (by decide +kernel) (by decide) (by decide) (by decide +kernel) (by decide +kernel) (by decide) (Nat.le_of_ble_eq_true rfl) (Nat.le_of_ble_eq_true rfl) (Nat.le_of_ble_eq_true rfl) (Nat.le_of_ble_eq_true rfl) (Nat.le_of_ble_eq_true rfl)
set_option maxHeartbeats 4000000 in
set_option maxRecDepth 100000 in
theorem mX5_miss (l : Launch) (X : zX) (h : Nat → Nat) (a : Nat → Nat) (b : Nat → Nat) (na : Nat → Nat) (nf : Nat → Nat) (gP : zG) (gT : zG) (gA : zG) (gF : zG) (fa : Nat) (hy0 : fa < 10) (hy1 : nI fa < gF 2 0) (hy2 : vp_in (gF 0 fa) 61) : CI l yX5_miss wsX5_miss 1 23 0 0 X (IW h a b na nf X gP gT gA gF) [.ref (h 0), .int (nI fa)] (fX5_miss gP gT gA gF fa) (IW h a b na nf X gP gT gA gF) := by
  obtain ⟨res, hF⟩ : ∃ z9r, z9r = fX5_miss gP gT gA gF fa := ⟨_, rfl⟩
  rw [← hF]
  refine ci_intro (cc := cX5_miss) (ret := (some .int)) (maxL := 3) (by decide +kernel) rfl (Nat.le_of_ble_eq_true rfl) ?_
  intro p e s m args below meth c A Q C hQ
  have hX0 : ∀ w ∈ wsX00, w ∈ wsX5_miss := by decide +kernel
  have hX2 : ∀ w ∈ wsX20, w ∈ wsX5_miss := by decide +kernel
  have hX3 : ∀ w ∈ wsX30, w ∈ wsX5_miss := by decide +kernel
  have hX5 : ∀ w ∈ wsX50, w ∈ wsX5_miss := by decide +kernel
  show Z p l e { frames := 1, cells := 0, slots := 0, locals := 23 } s m args below meth c X A 3 Q 0 0 (IW h a b na nf X gP gT gA gF) [(0, .ref (h 0)), (1, .int (nI fa))] 0 []
  refine z_iln C dX5_miss_0 1 rfl ?_
  refine z_if_lt C 15 dX5_miss_1 (by decide) (fun c1 => ?_) (fun c1 => ?_)
  · exact absurd c1 (nI_pos (by omega))
  refine z_iln C dX5_miss_4 1 rfl ?_
  refine z_aln C dX5_miss_5 0 rfl ?_
  refine z_get (v := .ref (nf 0)) C 0 3 dX5_miss_6 rfl rfl rfl hX5 (by decide) (by decide +kernel) rfl ?_
  refine z_get (v := .int (gF 2 0)) C 34 2 dX5_miss_9 rfl rfl rfl hX2 (by decide) (by decide +kernel) rfl ?_
  refine z_ic_lt C 25 dX5_miss_12 (by decide) (fun c2 => ?_) (fun c2 => ?_)
  rotate_left
  · exact absurd hy1 c2
  refine z_aln C dX5_miss_25 0 rfl ?_
  refine z_get (v := .ref (nf 0)) C 0 3 dX5_miss_26 rfl rfl rfl hX5 (by decide) (by decide +kernel) rfl ?_
  refine z_get (v := .ref (nf 1)) C 34 0 dX5_miss_29 rfl rfl rfl hX2 (by decide) (by decide +kernel) rfl ?_
  refine z_iln C dX5_miss_32 1 rfl ?_
  refine z_iald (f := (gF 0)) C 35 fa dX5_miss_33 rfl (by decide) rfl (by omega) ?_
  refine z_isn C 2 [(2, .int ((gF 0) fa)), (0, .ref (h 0)), (1, .int (nI fa))] dX5_miss_34 rfl (by decide) rfl ?_
  refine z_iln C dX5_miss_35 0 rfl ?_
  refine z_aln C dX5_miss_36 1 rfl ?_
  refine z_get (v := .ref (a 0)) C 0 0 dX5_miss_37 rfl rfl rfl hX5 (by decide) (by decide +kernel) rfl ?_
  refine z_get (v := .int (gP 10 0)) C 1 0 dX5_miss_40 rfl rfl rfl hX3 (by decide) (by decide +kernel) rfl ?_
  refine z_ic_le C 48 dX5_miss_43 (by decide) (fun c3 => ?_) (fun c3 => ?_)
  · have hF := hF.trans (if_pos c3)
    refine z_aln C dX5_miss_48 1 rfl ?_
    refine z_get (v := .ref (nf 0)) C 0 3 dX5_miss_49 rfl rfl rfl hX5 (by decide) (by decide +kernel) rfl ?_
    refine z_get (v := .ref (nf 2)) C 34 1 dX5_miss_52 rfl rfl rfl hX2 (by decide) (by decide +kernel) rfl ?_
    refine z_iln C dX5_miss_55 2 rfl ?_
    refine z_iald (f := (gF 1)) C 36 fa dX5_miss_56 rfl (by decide) rfl (by omega) ?_
    refine z_aln C dX5_miss_57 1 rfl ?_
    refine z_get (v := .ref (na 0)) C 0 2 dX5_miss_58 rfl rfl rfl hX5 (by decide) (by decide +kernel) rfl ?_
    refine z_get (v := .ref (na 3)) C 27 2 dX5_miss_61 rfl rfl rfl hX0 (by decide) (by decide +kernel) rfl ?_
    refine z_iln C dX5_miss_64 0 rfl ?_
    refine z_nm (show nI ((gF 0 fa).toNatClampNeg) = ((gF 0) fa) from (zn_in hy2)) ?_
    refine z_iald (f := (gA 2)) C 30 ((gF 0 fa).toNatClampNeg) dX5_miss_65 rfl (by decide) rfl (zn_lt hy2) ?_
    refine z_isub C dX5_miss_66 (((gF 1) fa) - ((gA 2) ((gF 0 fa).toNatClampNeg))) rfl ?_
    refine z_mabs C dX5_miss_67 (by decide +kernel) (by decide +kernel) (by decide +kernel) (by decide +kernel) (Nat.le_of_ble_eq_true rfl) (Nat.le_of_ble_eq_true rfl) (Nat.le_of_ble_eq_true rfl) (Nat.le_of_ble_eq_true rfl) ?_
    exact z_iret C hQ dX5_miss_70 (by rw [hF]; first | done | rfl) rfl (by decide) (by decide)
  · have hF := hF.trans (if_neg c3)
    refine z_ic C dX5_miss_46 (-1) (by decide) ?_
    exact z_iret C hQ dX5_miss_47 (by rw [hF]; first | done | rfl) rfl (by decide) (by decide)
set_option maxHeartbeats 4000000 in
set_option maxRecDepth 100000 in
theorem mX5_miss_x1 (l : Launch) (hl : l.stackTraces = false) (X : zX) (h : Nat → Nat) (a : Nat → Nat) (b : Nat → Nat) (na : Nat → Nat) (nf : Nat → Nat) (gP : zG) (gT : zG) (gA : zG) (gF : zG) (fa : Int32) (hy0 : fa < 0 ∨ gF 2 0 ≤ fa) : CXi l yX5_miss wsX5_miss 6 90 1 6 X (IW h a b na nf X gP gT gA gF) [.ref (h 0), .int fa] (xIOB) := by
  refine xi_intro (cc := cX5_miss) (ret := (some .int)) (maxL := 3) (by decide +kernel) rfl (Nat.le_of_ble_eq_true rfl) ?_
  intro p e s m args below meth c A Q C hxw hxs hT hQ
  have hX2 : ∀ w ∈ wsX20, w ∈ wsX5_miss := by decide +kernel
  have hX5 : ∀ w ∈ wsX50, w ∈ wsX5_miss := by decide +kernel
  show Z p l e { frames := 6, cells := 1, slots := 6, locals := 90 } s m args below meth c X A 3 Q 0 0 (IW h a b na nf X gP gT gA gF) [(0, .ref (h 0)), (1, .int fa)] 0 []
  refine z_iln C dX5_miss_0 1 rfl ?_
  refine z_if_lt C 15 dX5_miss_1 (by decide) (fun c1 => ?_) (fun c1 => ?_)
  · skip
    exact z_throw C hl hxw hxs hT hQ "there is no such forecast" dX5_miss_15 dX5_miss_18 dX5_miss_19 dX5_miss_21 dX5_miss_24 rfl (by decide +kernel) (by decide +kernel) (by decide +kernel) (by decide +kernel) (by decide) (by decide) (by decide +kernel) (by decide +kernel) (by decide) (Nat.le_of_ble_eq_true rfl) (Nat.le_of_ble_eq_true rfl) (Nat.le_of_ble_eq_true rfl) (Nat.le_of_ble_eq_true rfl) (Nat.le_of_ble_eq_true rfl)
  · skip
    refine z_iln C dX5_miss_4 1 rfl ?_
    refine z_aln C dX5_miss_5 0 rfl ?_
    refine z_get (v := .ref (nf 0)) C 0 3 dX5_miss_6 rfl rfl rfl hX5 (by decide) (by decide +kernel) rfl ?_
    refine z_get (v := .int (gF 2 0)) C 34 2 dX5_miss_9 rfl rfl rfl hX2 (by decide) (by decide +kernel) rfl ?_
    refine z_ic_lt C 25 dX5_miss_12 (by decide) (fun c2 => ?_) (fun c2 => ?_)
    · exact absurd c2 (fldx hy0 c1)
    exact z_throw C hl hxw hxs hT hQ "there is no such forecast" dX5_miss_15 dX5_miss_18 dX5_miss_19 dX5_miss_21 dX5_miss_24 rfl (by decide +kernel) (by decide +kernel) (by decide +kernel) (by decide +kernel) (by decide) (by decide) (by decide +kernel) (by decide +kernel) (by decide) (Nat.le_of_ble_eq_true rfl) (Nat.le_of_ble_eq_true rfl) (Nat.le_of_ble_eq_true rfl) (Nat.le_of_ble_eq_true rfl) (Nat.le_of_ble_eq_true rfl)
