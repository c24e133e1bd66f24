def fX1_unitsOf (fI : Nat → Int32) (fU : Nat → Int32) (k : Nat) (y : Nat) : Int32 := (fU ((k * 61) + y))
set_option maxHeartbeats 4000000 in
set_option maxRecDepth 100000 in
theorem mX1_unitsOf (l : Launch) (X : zX) (a : Nat → Nat) (fI : Nat → Int32) (fU : Nat → Int32) (k : Nat) (y : Nat) (hy0 : k < 12) (hy1 : y < 61) : CI l yX1_unitsOf wsX1_unitsOf 0 0 0 0 X (CW a X fI fU) [.ref (a 1), .int (nI k), .int (nI y)] (fX1_unitsOf fI fU k y) (CW a X fI fU) := by
  obtain ⟨res, hF⟩ : ∃ z9r, z9r = fX1_unitsOf fI fU k y := ⟨_, rfl⟩
  rw [← hF]
  refine ci_intro (cc := cX1_unitsOf) (ret := (some .int)) (maxL := 3) (by decide +kernel) rfl (Nat.le_of_ble_eq_true rfl) ?_
  intro p e s m args below meth c A Q C hQ
  have hX1 : ∀ w ∈ wsX10, w ∈ wsX1_unitsOf := by decide +kernel
  show Z p l e { frames := 0, cells := 0, slots := 0, locals := 0 } s m args below meth c X A 3 Q 0 0 (CW a X fI fU) [(0, .ref (a 1)), (1, .int (nI k)), (2, .int (nI y))] 0 []
  refine z_aln C dX1_unitsOf_0 0 rfl ?_
  refine z_get (v := .ref (a 12)) C 0 1 dX1_unitsOf_1 rfl rfl rfl hX1 (by decide) (by decide +kernel) rfl ?_
  refine z_iln C dX1_unitsOf_4 1 rfl ?_
  refine z_bp C dX1_unitsOf_5 61 (by decide) ?_
  refine z_imul C dX1_unitsOf_7 (nI (k * 61)) (pk_mul k 61) ?_
  refine z_iln C dX1_unitsOf_8 2 rfl ?_
  refine z_iadd C dX1_unitsOf_9 (nI ((k * 61) + y)) (nI_add (k * 61) y) ?_
  refine z_iald (f := fU) C 2 ((k * 61) + y) dX1_unitsOf_10 rfl (by decide) rfl (by omega) ?_
  exact z_iret C hQ dX1_unitsOf_11 (by rw [hF]; first | done | rfl) rfl (by decide) (by decide)
def fX1_lay (fI : Nat → Int32) (fU : Nat → Int32) (k : Nat) (y : Nat) (v : Int32) : (Nat → Int32) × (Nat → Int32) := ((upd fI k ((fI k) + v)), (upd fU ((k * 61) + y) ((fU ((k * 61) + y)) + v)))
set_option maxHeartbeats 4000000 in
set_option maxRecDepth 100000 in
theorem mX1_lay (l : Launch) (X : zX) (a : Nat → Nat) (fI : Nat → Int32) (fU : Nat → Int32) (k : Nat) (y : Nat) (v : Int32) (hy0 : k < 12) (hy1 : y < 61) : CV l yX1_lay wsX1_lay 0 0 0 0 X (CW a X fI fU) [.ref (a 1), .int (nI k), .int (nI y), .int v] (CW a X ((fX1_lay fI fU k y v).1) ((fX1_lay fI fU k y v).2)) := by
  obtain ⟨res, hF⟩ : ∃ z9r, z9r = fX1_lay fI fU k y v := ⟨_, rfl⟩
  rw [← hF]
  refine cu_intro (cc := cX1_lay) (ret := none) (maxL := 4) (by decide +kernel) rfl (Nat.le_of_ble_eq_true rfl) ?_
  intro p e s m args below meth c A Q C hQ
  have hX1 : ∀ w ∈ wsX10, w ∈ wsX1_lay := by decide +kernel
  show Z p l e { frames := 0, cells := 0, slots := 0, locals := 0 } s m args below meth c X A 4 Q 0 0 (CW a X fI fU) [(0, .ref (a 1)), (1, .int (nI k)), (2, .int (nI y)), (3, .int v)] 0 []
  refine z_aln C dX1_lay_0 0 rfl ?_
  refine z_get (v := .ref (a 12)) C 0 1 dX1_lay_1 rfl rfl rfl hX1 (by decide) (by decide +kernel) rfl ?_
  refine z_iln C dX1_lay_4 1 rfl ?_
  refine z_bp C dX1_lay_5 61 (by decide) ?_
  refine z_imul C dX1_lay_7 (nI (k * 61)) (pk_mul k 61) ?_
  refine z_iln C dX1_lay_8 2 rfl ?_
  refine z_iadd C dX1_lay_9 (nI ((k * 61) + y)) (nI_add (k * 61) y) ?_
  refine z_dup2 C dX1_lay_10 rfl rfl ?_
  refine z_iald (f := fU) C 2 ((k * 61) + y) dX1_lay_11 rfl (by decide) rfl (by omega) ?_
  refine z_iln C dX1_lay_12 3 rfl ?_
  refine z_iadd C dX1_lay_13 ((fU ((k * 61) + y)) + v) rfl ?_
  refine z_iast (f := fU) C 2 ((k * 61) + y) (CW a X fI (upd fU ((k * 61) + y) ((fU ((k * 61) + y)) + v))) dX1_lay_14 rfl (by decide) rfl (by omega) rfl ?_
  refine z_aln C dX1_lay_15 0 rfl ?_
  refine z_get (v := .ref (a 11)) C 0 0 dX1_lay_16 rfl rfl rfl hX1 (by decide) (by decide +kernel) rfl ?_
  refine z_iln C dX1_lay_19 1 rfl ?_
  refine z_dup2 C dX1_lay_20 rfl rfl ?_
  refine z_iald (f := fI) C 1 k dX1_lay_21 rfl (by decide) rfl (by omega) ?_
  refine z_iln C dX1_lay_22 3 rfl ?_
  refine z_iadd C dX1_lay_23 ((fI k) + v) rfl ?_
  refine z_iast (f := fI) C 1 k (CW a X (upd fI k ((fI k) + v)) (upd fU ((k * 61) + y) ((fU ((k * 61) + y)) + v))) dX1_lay_24 rfl (by decide) rfl (by omega) rfl ?_
  exact z_vret C hQ () dX1_lay_25 (by rw [hF]; first | done | rfl) (by decide) (by decide)
def fX1_allIce_L4 (fI : Nat → Int32) : Nat → Nat → Int32 → Int32
  | 0, k2, x1 => x1
  | nk2 + 1, k2, x1 => (fX1_allIce_L4 fI nk2 (k2 + 1) (x1 + (fI k2)))
def fX1_allIce (fI : Nat → Int32) (fU : Nat → Int32) : Int32 := (fX1_allIce_L4 fI 12 0 0)
set_option maxHeartbeats 4000000 in
set_option maxRecDepth 100000 in
theorem mX1_allIce (l : Launch) (X : zX) (a : Nat → Nat) (fI : Nat → Int32) (fU : Nat → Int32) : CI l yX1_allIce wsX1_allIce 0 0 0 0 X (CW a X fI fU) [.ref (a 1)] (fX1_allIce fI fU) (CW a X fI fU) := by
  obtain ⟨res, hF⟩ : ∃ z9r, z9r = fX1_allIce fI fU := ⟨_, rfl⟩
  rw [← hF]
  refine ci_intro (cc := cX1_allIce) (ret := (some .int)) (maxL := 3) (by decide +kernel) rfl (Nat.le_of_ble_eq_true rfl) ?_
  intro p e s m args below meth c A Q C hQ
  have hX1 : ∀ w ∈ wsX10, w ∈ wsX1_allIce := by decide +kernel
  show Z p l e { frames := 0, cells := 0, slots := 0, locals := 0 } s m args below meth c X A 3 Q 0 0 (CW a X fI fU) [(0, .ref (a 1))] 0 []
  refine z_ic C dX1_allIce_0 0 (by decide) ?_
  refine z_isn C 1 [(1, .int 0), (0, .ref (a 1))] dX1_allIce_1 rfl (by decide) rfl ?_
  refine z_ic C dX1_allIce_2 0 (by decide) ?_
  refine z_isn C 2 [(2, .int 0), (1, .int 0), (0, .ref (a 1))] dX1_allIce_3 rfl (by decide) rfl ?_
  refine z_lv [2, 1, 0] [(0, .ref (a 1)), (1, .int 0), (2, .int 0)] rfl ?_
  have LPk2 : ∀ (nk2 k2 : Nat) (x1 : Int32), k2 + nk2 = 12 → res = fX1_allIce_L4 fI nk2 k2 x1 → Z p l e { frames := 0, cells := 0, slots := 0, locals := 0 } s m args below meth c X A 3 Q 0 0 (CW a X fI fU) [(0, .ref (a 1)), (1, .int x1), (2, .int (nI k2))] 4 [] := by
    intro nk2
    induction nk2 with
    | zero =>
      intro k2 x1 hkk2 hF
      refine z_iln C dX1_allIce_4 2 rfl ?_
      refine z_bp C dX1_allIce_5 12 (by decide) ?_
      refine z_ic_geN C k2 12 25 dX1_allIce_7 (by decide) rfl rfl (by omega) (by omega) (fun c3 => ?_) (fun c3 => ?_)
      rotate_left
      · exact absurd c3 (by omega)
      refine z_iln C dX1_allIce_25 1 rfl ?_
      exact z_iret C hQ dX1_allIce_26 (by rw [hF]; first | done | rfl) rfl (by decide) (by decide)
    | succ nk2 ihk2 =>
      intro k2 x1 hkk2 hF
      refine z_iln C dX1_allIce_4 2 rfl ?_
      refine z_bp C dX1_allIce_5 12 (by decide) ?_
      refine z_ic_geN C k2 12 25 dX1_allIce_7 (by decide) rfl rfl (by omega) (by omega) (fun c4 => ?_) (fun c4 => ?_)
      · exact absurd c4 (by omega)
      refine z_iln C dX1_allIce_10 1 rfl ?_
      refine z_aln C dX1_allIce_11 0 rfl ?_
      refine z_get (v := .ref (a 11)) C 0 0 dX1_allIce_12 rfl rfl rfl hX1 (by decide) (by decide +kernel) rfl ?_
      refine z_iln C dX1_allIce_15 2 rfl ?_
      refine z_iald (f := fI) C 1 k2 dX1_allIce_16 rfl (by decide) rfl (by omega) ?_
      refine z_iadd C dX1_allIce_17 (x1 + (fI k2)) rfl ?_
      refine z_isn C 1 [(1, .int (x1 + (fI k2))), (0, .ref (a 1)), (2, .int (nI k2))] dX1_allIce_18 rfl (by decide) rfl ?_
      refine z_inc C 2 (nI (k2 + 1)) [(2, .int (nI (k2 + 1))), (1, .int (x1 + (fI k2))), (0, .ref (a 1))] dX1_allIce_19 rfl (nI_add k2 1) (by decide) rfl ?_
      refine z_go C 4 dX1_allIce_22 (by decide) ?_
      refine z_lv [2, 1, 0] [(0, .ref (a 1)), (1, .int (x1 + (fI k2))), (2, .int (nI (k2 + 1)))] rfl ?_
      exact ihk2 (k2 + 1) (x1 + (fI k2)) (by omega) hF
  exact LPk2 12 0 0 (by omega) hF
def fX1_takeLatest_L6 (k : Nat) : Nat → Int32 → (Nat → Int32) → (Nat → Int32) → (Nat → Int32) × (Nat → Int32)
  | 0, x1, x2, x3 => (x2, x3)
  | nk4 + 1, x1, x2, x3 => (if x1 ≤ 0 then (x2, x3) else (jn (fX1_lay x2 x3 k nk4 (-(if (fX1_unitsOf x2 x3 k nk4) < x1 then (fX1_unitsOf x2 x3 k nk4) else x1))) (fun u8 => (fX1_takeLatest_L6 k nk4 (x1 - (if (fX1_unitsOf x2 x3 k nk4) < x1 then (fX1_unitsOf x2 x3 k nk4) else x1)) u8.1 u8.2))))
def fX1_takeLatest (fI : Nat → Int32) (fU : Nat → Int32) (k : Nat) (v : Int32) : (Nat → Int32) × (Nat → Int32) := (fX1_takeLatest_L6 k 61 v fI fU)
set_option maxHeartbeats 4000000 in
set_option maxRecDepth 100000 in
theorem mX1_takeLatest (l : Launch) (X : zX) (a : Nat → Nat) (fI : Nat → Int32) (fU : Nat → Int32) (k : Nat) (v : Int32) (hy0 : k < 12) : CV l yX1_takeLatest wsX1_takeLatest 1 23 0 0 X (CW a X fI fU) [.ref (a 1), .int (nI k), .int v] (CW a X ((fX1_takeLatest fI fU k v).1) ((fX1_takeLatest fI fU k v).2)) := by
  obtain ⟨res, hF⟩ : ∃ z9r, z9r = fX1_takeLatest fI fU k v := ⟨_, rfl⟩
  rw [← hF]
  refine cu_intro (cc := cX1_takeLatest) (ret := none) (maxL := 6) (by decide +kernel) rfl (Nat.le_of_ble_eq_true rfl) ?_
  intro p e s m args below meth c A Q C hQ
  show Z p l e { frames := 1, cells := 0, slots := 0, locals := 23 } s m args below meth c X A 6 Q 0 0 (CW a X fI fU) [(0, .ref (a 1)), (1, .int (nI k)), (2, .int v)] 0 []
  refine z_iln C dX1_takeLatest_0 2 rfl ?_
  refine z_isn C 3 [(3, .int v), (0, .ref (a 1)), (1, .int (nI k)), (2, .int v)] dX1_takeLatest_1 rfl (by decide) rfl ?_
  refine z_bp C dX1_takeLatest_2 60 (by decide) ?_
  refine z_is C [(4, .int 60), (3, .int v), (0, .ref (a 1)), (1, .int (nI k)), (2, .int v)] dX1_takeLatest_4 (by decide) rfl ?_
  refine z_lv [2, 3, 1, 0] [(0, .ref (a 1)), (1, .int (nI k)), (3, .int v), (4, .int 60)] rfl ?_
  have LPk4 : ∀ (nk4 : Nat) (x1 : Int32) (x2 : Nat → Int32) (x3 : Nat → Int32), nk4 ≤ 61 → res = fX1_takeLatest_L6 k nk4 x1 x2 x3 → Z p l e { frames := 1, cells := 0, slots := 0, locals := 23 } s m args below meth c X A 6 Q 0 0 (CW a X x2 x3) [(0, .ref (a 1)), (1, .int (nI k)), (3, .int x1), (4, .int (nI nk4 - 1))] 6 [] := by
    intro nk4
    induction nk4 with
    | zero =>
      intro x1 x2 x3 hkk4 hF
      show Z p l e { frames := 1, cells := 0, slots := 0, locals := 23 } s m args below meth c X A 6 Q 0 0 (CW a X x2 x3) [(0, .ref (a 1)), (1, .int (nI k)), (3, .int x1), (4, .int (-1))] 6 []
      refine z_il C dX1_takeLatest_6 3 rfl ?_
      refine z_if_lt C 49 dX1_takeLatest_8 (by decide) (fun c5 => ?_) (fun c5 => ?_)
      rotate_left
      · exact absurd (by decide) c5
      exact z_vret C hQ () dX1_takeLatest_49 (by rw [hF]; first | done | rfl) (by decide) (by decide)
    | succ nk4 ihk4 =>
      intro x1 x2 x3 hkk4 hF
      rw [nI_pred]
      refine z_il C dX1_takeLatest_6 3 rfl ?_
      refine z_if_lt C 49 dX1_takeLatest_8 (by decide) (fun c6 => ?_) (fun c6 => ?_)
      · exact absurd c6 (nI_pos (by omega))
      refine z_iln C dX1_takeLatest_11 2 rfl ?_
      refine z_if_le C 49 dX1_takeLatest_12 (by decide) (fun c7 => ?_) (fun c7 => ?_)
      · have hF := hF.trans (if_pos c7)
        exact z_vret C hQ () dX1_takeLatest_49 (by rw [hF]; first | done | rfl) (by decide) (by decide)
      · have hF := hF.trans (if_neg c7)
        refine z_iln C dX1_takeLatest_15 2 rfl ?_
        refine z_aln C dX1_takeLatest_16 0 rfl ?_
        refine z_iln C dX1_takeLatest_17 1 rfl ?_
        refine z_il C dX1_takeLatest_18 3 rfl ?_
        refine z_cVi0 (As := [.int (nI k), .int (nI nk4)]) (rest := [.int x1]) C (mX1_unitsOf l X a x2 x3 k nk4 (by omega) (by omega)) gX1_takeLatest_X1_unitsOf rfl ⟨rfl, by decide, by decide, (by decide : (parseMethodDescriptor yX1_unitsOf.desc).map (fun d => d.parameters.length) = some 2)⟩ ⟨by decide, by decide⟩ ⟨by decide, by decide⟩ 0 1 rfl rfl (Nat.le_of_ble_eq_true rfl) dX1_takeLatest_20 rfl ?_
        refine z_mmin C dX1_takeLatest_23 (by decide +kernel) (by decide +kernel) (by decide +kernel) (by decide +kernel) (Nat.le_of_ble_eq_true rfl) (Nat.le_of_ble_eq_true rfl) (Nat.le_of_ble_eq_true rfl) (Nat.le_of_ble_eq_true rfl) ?_
        refine z_is C [(5, .int (if (fX1_unitsOf x2 x3 k nk4) < x1 then (fX1_unitsOf x2 x3 k nk4) else x1)), (0, .ref (a 1)), (1, .int (nI k)), (3, .int x1), (4, .int (nI nk4))] dX1_takeLatest_26 (by decide) rfl ?_
        refine z_aln C dX1_takeLatest_28 1 rfl ?_
        refine z_iln C dX1_takeLatest_29 2 rfl ?_
        refine z_il C dX1_takeLatest_30 4 rfl ?_
        refine z_il C dX1_takeLatest_32 0 rfl ?_
        refine z_ineg C dX1_takeLatest_34 (-(if (fX1_unitsOf x2 x3 k nk4) < x1 then (fX1_unitsOf x2 x3 k nk4) else x1)) rfl ?_
        refine z_cVv0 (As := [.int (nI k), .int (nI nk4), .int (-(if (fX1_unitsOf x2 x3 k nk4) < x1 then (fX1_unitsOf x2 x3 k nk4) else x1))]) (rest := []) C (mX1_lay l X a x2 x3 k nk4 (-(if (fX1_unitsOf x2 x3 k nk4) < x1 then (fX1_unitsOf x2 x3 k nk4) else x1)) (by omega) (by omega)) gX1_takeLatest_X1_lay rfl ⟨rfl, by decide, by decide, (by decide : (parseMethodDescriptor yX1_lay.desc).map (fun d => d.parameters.length) = some 3)⟩ ⟨by decide, by decide⟩ ⟨by decide, by decide⟩ 0 1 rfl rfl (Nat.le_of_ble_eq_true rfl) dX1_takeLatest_35 rfl ?_
        obtain ⟨u8, hu8⟩ : ∃ z9u, z9u = (fX1_lay x2 x3 k nk4 (-(if (fX1_unitsOf x2 x3 k nk4) < x1 then (fX1_unitsOf x2 x3 k nk4) else x1))) := ⟨_, rfl⟩
        rw [← hu8]
        have hF := hF.trans (jn_at hu8)
        refine z_iln C dX1_takeLatest_38 3 rfl ?_
        refine z_il C dX1_takeLatest_39 0 rfl ?_
        refine z_isub C dX1_takeLatest_41 (x1 - (if (fX1_unitsOf x2 x3 k nk4) < x1 then (fX1_unitsOf x2 x3 k nk4) else x1)) rfl ?_
        refine z_isn C 3 [(3, .int (x1 - (if (fX1_unitsOf x2 x3 k nk4) < x1 then (fX1_unitsOf x2 x3 k nk4) else x1))), (5, .int (if (fX1_unitsOf x2 x3 k nk4) < x1 then (fX1_unitsOf x2 x3 k nk4) else x1)), (0, .ref (a 1)), (1, .int (nI k)), (4, .int (nI nk4))] dX1_takeLatest_42 rfl (by decide) rfl ?_
        refine z_inc C 4 (nI nk4 - 1) [(4, .int (nI nk4 - 1)), (3, .int (x1 - (if (fX1_unitsOf x2 x3 k nk4) < x1 then (fX1_unitsOf x2 x3 k nk4) else x1))), (5, .int (if (fX1_unitsOf x2 x3 k nk4) < x1 then (fX1_unitsOf x2 x3 k nk4) else x1)), (0, .ref (a 1)), (1, .int (nI k))] dX1_takeLatest_43 rfl (zn_dn nk4) (by decide) rfl ?_
        refine z_go C 6 dX1_takeLatest_46 (by decide) ?_
        refine z_lv [3, 4, 1, 0] [(0, .ref (a 1)), (1, .int (nI k)), (3, .int (x1 - (if (fX1_unitsOf x2 x3 k nk4) < x1 then (fX1_unitsOf x2 x3 k nk4) else x1))), (4, .int (nI nk4 - 1))] rfl ?_
        exact ihk4 (x1 - (if (fX1_unitsOf x2 x3 k nk4) < x1 then (fX1_unitsOf x2 x3 k nk4) else x1)) u8.1 u8.2 (by omega) hF
  exact LPk4 61 v fI fU (by omega) hF
def fX1_carryEarliest_L6 (k : Nat) (j : Nat) : Nat → Nat → Int32 → (Nat → Int32) → (Nat → Int32) → (Nat → Int32) × (Nat → Int32)
  | 0, k4, x1, x2, x3 => (x2, x3)
  | nk4 + 1, k4, x1, x2, x3 => (if x1 ≤ 0 then (x2, x3) else (jn (fX1_lay x2 x3 k k4 (-(if (fX1_unitsOf x2 x3 k k4) < x1 then (fX1_unitsOf x2 x3 k k4) else x1))) (fun u8 => (jn (fX1_lay u8.1 u8.2 j k4 (if (fX1_unitsOf x2 x3 k k4) < x1 then (fX1_unitsOf x2 x3 k k4) else x1)) (fun u9 => (fX1_carryEarliest_L6 k j nk4 (k4 + 1) (x1 - (if (fX1_unitsOf x2 x3 k k4) < x1 then (fX1_unitsOf x2 x3 k k4) else x1)) u9.1 u9.2))))))
def fX1_carryEarliest (fI : Nat → Int32) (fU : Nat → Int32) (k : Nat) (j : Nat) (v : Int32) : (Nat → Int32) × (Nat → Int32) := (fX1_carryEarliest_L6 k j 61 0 v fI fU)
set_option maxHeartbeats 4000000 in
set_option maxRecDepth 100000 in
theorem mX1_carryEarliest (l : Launch) (X : zX) (a : Nat → Nat) (fI : Nat → Int32) (fU : Nat → Int32) (k : Nat) (j : Nat) (v : Int32) (hy0 : k < 12) (hy1 : j < 12) : CV l yX1_carryEarliest wsX1_carryEarliest 1 23 0 0 X (CW a X fI fU) [.ref (a 1), .int (nI k), .int (nI j), .int v] (CW a X ((fX1_carryEarliest fI fU k j v).1) ((fX1_carryEarliest fI fU k j v).2)) := by
  obtain ⟨res, hF⟩ : ∃ z9r, z9r = fX1_carryEarliest fI fU k j v := ⟨_, rfl⟩
  rw [← hF]
  refine cu_intro (cc := cX1_carryEarliest) (ret := none) (maxL := 7) (by decide +kernel) rfl (Nat.le_of_ble_eq_true rfl) ?_
  intro p e s m args below meth c A Q C hQ
  show Z p l e { frames := 1, cells := 0, slots := 0, locals := 23 } s m args below meth c X A 7 Q 0 0 (CW a X fI fU) [(0, .ref (a 1)), (1, .int (nI k)), (2, .int (nI j)), (3, .int v)] 0 []
  refine z_iln C dX1_carryEarliest_0 3 rfl ?_
  refine z_is C [(4, .int v), (0, .ref (a 1)), (1, .int (nI k)), (2, .int (nI j)), (3, .int v)] dX1_carryEarliest_1 (by decide) rfl ?_
  refine z_ic C dX1_carryEarliest_3 0 (by decide) ?_
  refine z_is C [(5, .int 0), (4, .int v), (0, .ref (a 1)), (1, .int (nI k)), (2, .int (nI j)), (3, .int v)] dX1_carryEarliest_4 (by decide) rfl ?_
  refine z_lv [2, 3, 4, 1, 0] [(0, .ref (a 1)), (1, .int (nI k)), (2, .int (nI j)), (4, .int v), (5, .int 0)] rfl ?_
  have LPk4 : ∀ (nk4 k4 : Nat) (x1 : Int32) (x2 : Nat → Int32) (x3 : Nat → Int32), k4 + nk4 = 61 → res = fX1_carryEarliest_L6 k j nk4 k4 x1 x2 x3 → Z p l e { frames := 1, cells := 0, slots := 0, locals := 23 } s m args below meth c X A 7 Q 0 0 (CW a X x2 x3) [(0, .ref (a 1)), (1, .int (nI k)), (2, .int (nI j)), (4, .int x1), (5, .int (nI k4))] 6 [] := by
    intro nk4
    induction nk4 with
    | zero =>
      intro k4 x1 x2 x3 hkk4 hF
      refine z_il C dX1_carryEarliest_6 4 rfl ?_
      refine z_bp C dX1_carryEarliest_8 61 (by decide) ?_
      refine z_ic_geN C k4 61 64 dX1_carryEarliest_10 (by decide) rfl rfl (by omega) (by omega) (fun c5 => ?_) (fun c5 => ?_)
      rotate_left
      · exact absurd c5 (by omega)
      exact z_vret C hQ () dX1_carryEarliest_64 (by rw [hF]; first | done | rfl) (by decide) (by decide)
    | succ nk4 ihk4 =>
      intro k4 x1 x2 x3 hkk4 hF
      refine z_il C dX1_carryEarliest_6 4 rfl ?_
      refine z_bp C dX1_carryEarliest_8 61 (by decide) ?_
      refine z_ic_geN C k4 61 64 dX1_carryEarliest_10 (by decide) rfl rfl (by omega) (by omega) (fun c6 => ?_) (fun c6 => ?_)
      · exact absurd c6 (by omega)
      refine z_il C dX1_carryEarliest_13 3 rfl ?_
      refine z_if_le C 64 dX1_carryEarliest_15 (by decide) (fun c7 => ?_) (fun c7 => ?_)
      · have hF := hF.trans (if_pos c7)
        exact z_vret C hQ () dX1_carryEarliest_64 (by rw [hF]; first | done | rfl) (by decide) (by decide)
      · have hF := hF.trans (if_neg c7)
        refine z_il C dX1_carryEarliest_18 3 rfl ?_
        refine z_aln C dX1_carryEarliest_20 0 rfl ?_
        refine z_iln C dX1_carryEarliest_21 1 rfl ?_
        refine z_il C dX1_carryEarliest_22 4 rfl ?_
        refine z_cVi0 (As := [.int (nI k), .int (nI k4)]) (rest := [.int x1]) C (mX1_unitsOf l X a x2 x3 k k4 (by omega) (by omega)) gX1_carryEarliest_X1_unitsOf rfl ⟨rfl, by decide, by decide, (by decide : (parseMethodDescriptor yX1_unitsOf.desc).map (fun d => d.parameters.length) = some 2)⟩ ⟨by decide, by decide⟩ ⟨by decide, by decide⟩ 0 1 rfl rfl (Nat.le_of_ble_eq_true rfl) dX1_carryEarliest_24 rfl ?_
        refine z_mmin C dX1_carryEarliest_27 (by decide +kernel) (by decide +kernel) (by decide +kernel) (by decide +kernel) (Nat.le_of_ble_eq_true rfl) (Nat.le_of_ble_eq_true rfl) (Nat.le_of_ble_eq_true rfl) (Nat.le_of_ble_eq_true rfl) ?_
        refine z_is C [(6, .int (if (fX1_unitsOf x2 x3 k k4) < x1 then (fX1_unitsOf x2 x3 k k4) else x1)), (0, .ref (a 1)), (1, .int (nI k)), (2, .int (nI j)), (4, .int x1), (5, .int (nI k4))] dX1_carryEarliest_30 (by decide) rfl ?_
        refine z_aln C dX1_carryEarliest_32 1 rfl ?_
        refine z_iln C dX1_carryEarliest_33 2 rfl ?_
        refine z_il C dX1_carryEarliest_34 5 rfl ?_
        refine z_il C dX1_carryEarliest_36 0 rfl ?_
        refine z_ineg C dX1_carryEarliest_38 (-(if (fX1_unitsOf x2 x3 k k4) < x1 then (fX1_unitsOf x2 x3 k k4) else x1)) rfl ?_
        refine z_cVv0 (As := [.int (nI k), .int (nI k4), .int (-(if (fX1_unitsOf x2 x3 k k4) < x1 then (fX1_unitsOf x2 x3 k k4) else x1))]) (rest := []) C (mX1_lay l X a x2 x3 k k4 (-(if (fX1_unitsOf x2 x3 k k4) < x1 then (fX1_unitsOf x2 x3 k k4) else x1)) (by omega) (by omega)) gX1_carryEarliest_X1_lay rfl ⟨rfl, by decide, by decide, (by decide : (parseMethodDescriptor yX1_lay.desc).map (fun d => d.parameters.length) = some 3)⟩ ⟨by decide, by decide⟩ ⟨by decide, by decide⟩ 0 1 rfl rfl (Nat.le_of_ble_eq_true rfl) dX1_carryEarliest_39 rfl ?_
        obtain ⟨u8, hu8⟩ : ∃ z9u, z9u = (fX1_lay x2 x3 k k4 (-(if (fX1_unitsOf x2 x3 k k4) < x1 then (fX1_unitsOf x2 x3 k k4) else x1))) := ⟨_, rfl⟩
        rw [← hu8]
        have hF := hF.trans (jn_at hu8)
        refine z_aln C dX1_carryEarliest_42 1 rfl ?_
        refine z_iln C dX1_carryEarliest_43 3 rfl ?_
        refine z_il C dX1_carryEarliest_44 5 rfl ?_
        refine z_il C dX1_carryEarliest_46 0 rfl ?_
        refine z_cVv0 (As := [.int (nI j), .int (nI k4), .int (if (fX1_unitsOf x2 x3 k k4) < x1 then (fX1_unitsOf x2 x3 k k4) else x1)]) (rest := []) C (mX1_lay l X a u8.1 u8.2 j k4 (if (fX1_unitsOf x2 x3 k k4) < x1 then (fX1_unitsOf x2 x3 k k4) else x1) (by omega) (by omega)) gX1_carryEarliest_X1_lay rfl ⟨rfl, by decide, by decide, (by decide : (parseMethodDescriptor yX1_lay.desc).map (fun d => d.parameters.length) = some 3)⟩ ⟨by decide, by decide⟩ ⟨by decide, by decide⟩ 0 1 rfl rfl (Nat.le_of_ble_eq_true rfl) dX1_carryEarliest_48 rfl ?_
        obtain ⟨u9, hu9⟩ : ∃ z9u, z9u = (fX1_lay u8.1 u8.2 j k4 (if (fX1_unitsOf x2 x3 k k4) < x1 then (fX1_unitsOf x2 x3 k k4) else x1)) := ⟨_, rfl⟩
        rw [← hu9]
        have hF := hF.trans (jn_at hu9)
        refine z_il C dX1_carryEarliest_51 4 rfl ?_
        refine z_il C dX1_carryEarliest_53 0 rfl ?_
        refine z_isub C dX1_carryEarliest_55 (x1 - (if (fX1_unitsOf x2 x3 k k4) < x1 then (fX1_unitsOf x2 x3 k k4) else x1)) rfl ?_
        refine z_is C [(4, .int (x1 - (if (fX1_unitsOf x2 x3 k k4) < x1 then (fX1_unitsOf x2 x3 k k4) else x1))), (6, .int (if (fX1_unitsOf x2 x3 k k4) < x1 then (fX1_unitsOf x2 x3 k k4) else x1)), (0, .ref (a 1)), (1, .int (nI k)), (2, .int (nI j)), (5, .int (nI k4))] dX1_carryEarliest_56 (by decide) rfl ?_
        refine z_inc C 5 (nI (k4 + 1)) [(5, .int (nI (k4 + 1))), (4, .int (x1 - (if (fX1_unitsOf x2 x3 k k4) < x1 then (fX1_unitsOf x2 x3 k k4) else x1))), (6, .int (if (fX1_unitsOf x2 x3 k k4) < x1 then (fX1_unitsOf x2 x3 k k4) else x1)), (0, .ref (a 1)), (1, .int (nI k)), (2, .int (nI j))] dX1_carryEarliest_58 rfl (nI_add k4 1) (by decide) rfl ?_
        refine z_go C 6 dX1_carryEarliest_61 (by decide) ?_
        refine z_lv [3, 4, 5, 1, 0] [(0, .ref (a 1)), (1, .int (nI k)), (2, .int (nI j)), (4, .int (x1 - (if (fX1_unitsOf x2 x3 k k4) < x1 then (fX1_unitsOf x2 x3 k k4) else x1))), (5, .int (nI (k4 + 1)))] rfl ?_
        exact ihk4 (k4 + 1) (x1 - (if (fX1_unitsOf x2 x3 k k4) < x1 then (fX1_unitsOf x2 x3 k k4) else x1)) u9.1 u9.2 (by omega) hF
  exact LPk4 61 0 v fI fU (by omega) hF
def fX1_yearBelow_L6 (fI : Nat → Int32) (fU : Nat → Int32) (k : Nat) : Nat → Int32 → Int32
  | 0, x1 => (-1)
  | nk2 + 1, x1 => (if (fX1_unitsOf fI fU k nk2) ≤ x1 then (fX1_yearBelow_L6 fI fU k nk2 (x1 - (fX1_unitsOf fI fU k nk2))) else (nI nk2))
def fX1_yearBelow (fI : Nat → Int32) (fU : Nat → Int32) (k : Nat) (v : Int32) : Int32 := (fX1_yearBelow_L6 fI fU k 61 v)
set_option maxHeartbeats 4000000 in
set_option maxRecDepth 100000 in
theorem mX1_yearBelow (l : Launch) (X : zX) (a : Nat → Nat) (fI : Nat → Int32) (fU : Nat → Int32) (k : Nat) (v : Int32) (hy0 : k < 12) : CI l yX1_yearBelow wsX1_yearBelow 1 22 0 0 X (CW a X fI fU) [.ref (a 1), .int (nI k), .int v] (fX1_yearBelow fI fU k v) (CW a X fI fU) := by
  obtain ⟨res, hF⟩ : ∃ z9r, z9r = fX1_yearBelow fI fU k v := ⟨_, rfl⟩
  rw [← hF]
  refine ci_intro (cc := cX1_yearBelow) (ret := (some .int)) (maxL := 6) (by decide +kernel) rfl (Nat.le_of_ble_eq_true rfl) ?_
  intro p e s m args below meth c A Q C hQ
  show Z p l e { frames := 1, cells := 0, slots := 0, locals := 22 } s m args below meth c X A 6 Q 0 0 (CW a X fI fU) [(0, .ref (a 1)), (1, .int (nI k)), (2, .int v)] 0 []
  refine z_iln C dX1_yearBelow_0 2 rfl ?_
  refine z_isn C 3 [(3, .int v), (0, .ref (a 1)), (1, .int (nI k)), (2, .int v)] dX1_yearBelow_1 rfl (by decide) rfl ?_
  refine z_bp C dX1_yearBelow_2 60 (by decide) ?_
  refine z_is C [(4, .int 60), (3, .int v), (0, .ref (a 1)), (1, .int (nI k)), (2, .int v)] dX1_yearBelow_4 (by decide) rfl ?_
  refine z_lv [2, 3, 1, 0] [(0, .ref (a 1)), (1, .int (nI k)), (3, .int v), (4, .int 60)] rfl ?_
  have LPk2 : ∀ (nk2 : Nat) (x1 : Int32), nk2 ≤ 61 → res = fX1_yearBelow_L6 fI fU k nk2 x1 → Z p l e { frames := 1, cells := 0, slots := 0, locals := 22 } s m args below meth c X A 6 Q 0 0 (CW a X fI fU) [(0, .ref (a 1)), (1, .int (nI k)), (3, .int x1), (4, .int (nI nk2 - 1))] 6 [] := by
    intro nk2
    induction nk2 with
    | zero =>
      intro x1 hkk2 hF
      show Z p l e { frames := 1, cells := 0, slots := 0, locals := 22 } s m args below meth c X A 6 Q 0 0 (CW a X fI fU) [(0, .ref (a 1)), (1, .int (nI k)), (3, .int x1), (4, .int (-1))] 6 []
      refine z_il C dX1_yearBelow_6 3 rfl ?_
      refine z_if_lt C 40 dX1_yearBelow_8 (by decide) (fun c3 => ?_) (fun c3 => ?_)
      rotate_left
      · exact absurd (by decide) c3
      refine z_ic C dX1_yearBelow_40 (-1) (by decide) ?_
      exact z_iret C hQ dX1_yearBelow_41 (by rw [hF]; first | done | rfl) rfl (by decide) (by decide)
    | succ nk2 ihk2 =>
      intro x1 hkk2 hF
      rw [nI_pred]
      refine z_il C dX1_yearBelow_6 3 rfl ?_
      refine z_if_lt C 40 dX1_yearBelow_8 (by decide) (fun c4 => ?_) (fun c4 => ?_)
      · exact absurd c4 (nI_pos (by omega))
      refine z_aln C dX1_yearBelow_11 0 rfl ?_
      refine z_iln C dX1_yearBelow_12 1 rfl ?_
      refine z_il C dX1_yearBelow_13 3 rfl ?_
      refine z_cVi0 (As := [.int (nI k), .int (nI nk2)]) (rest := []) C (mX1_unitsOf l X a fI fU k nk2 (by omega) (by omega)) gX1_yearBelow_X1_unitsOf rfl ⟨rfl, by decide, by decide, (by decide : (parseMethodDescriptor yX1_unitsOf.desc).map (fun d => d.parameters.length) = some 2)⟩ ⟨by decide, by decide⟩ ⟨by decide, by decide⟩ 0 1 rfl rfl (Nat.le_of_ble_eq_true rfl) dX1_yearBelow_15 rfl ?_
      refine z_is C [(5, .int (fX1_unitsOf fI fU k nk2)), (0, .ref (a 1)), (1, .int (nI k)), (3, .int x1), (4, .int (nI nk2))] dX1_yearBelow_18 (by decide) rfl ?_
      refine z_iln C dX1_yearBelow_20 3 rfl ?_
      refine z_il C dX1_yearBelow_21 0 rfl ?_
      refine z_ic_ge C 29 dX1_yearBelow_23 (by decide) (fun c5 => ?_) (fun c5 => ?_)
      · have hF := hF.trans (if_pos c5)
        refine z_iln C dX1_yearBelow_29 3 rfl ?_
        refine z_il C dX1_yearBelow_30 0 rfl ?_
        refine z_isub C dX1_yearBelow_32 (x1 - (fX1_unitsOf fI fU k nk2)) rfl ?_
        refine z_isn C 3 [(3, .int (x1 - (fX1_unitsOf fI fU k nk2))), (5, .int (fX1_unitsOf fI fU k nk2)), (0, .ref (a 1)), (1, .int (nI k)), (4, .int (nI nk2))] dX1_yearBelow_33 rfl (by decide) rfl ?_
        refine z_inc C 4 (nI nk2 - 1) [(4, .int (nI nk2 - 1)), (3, .int (x1 - (fX1_unitsOf fI fU k nk2))), (5, .int (fX1_unitsOf fI fU k nk2)), (0, .ref (a 1)), (1, .int (nI k))] dX1_yearBelow_34 rfl (zn_dn nk2) (by decide) rfl ?_
        refine z_go C 6 dX1_yearBelow_37 (by decide) ?_
        refine z_lv [3, 4, 1, 0] [(0, .ref (a 1)), (1, .int (nI k)), (3, .int (x1 - (fX1_unitsOf fI fU k nk2))), (4, .int (nI nk2 - 1))] rfl ?_
        exact ihk2 (x1 - (fX1_unitsOf fI fU k nk2)) (by omega) hF
      · have hF := hF.trans (if_neg c5)
        refine z_il C dX1_yearBelow_26 4 rfl ?_
        exact z_iret C hQ dX1_yearBelow_28 (by rw [hF]; first | done | rfl) rfl (by decide) (by decide)
  exact LPk2 61 v (by omega) hF
def fX1_becomeLike (fI : Nat → Int32) (fU : Nat → Int32) (hI : Nat → Int32) (hU : Nat → Int32) : (Nat → Int32) × (Nat → Int32) := ((va_cpy hI fI 0 0 12), (va_cpy hU fU 0 0 732))
set_option maxHeartbeats 4000000 in
set_option maxRecDepth 100000 in
theorem mX1_becomeLike (l : Launch) (X : zX) (a : Nat → Nat) (b : Nat → Nat) (fI : Nat → Int32) (fU : Nat → Int32) (hI : Nat → Int32) (hU : Nat → Int32) : CV l yX1_becomeLike wsX1_becomeLike 1 40 0 0 X (C2 a b X fI fU hI hU) [.ref (a 1), .ref (b 1)] (C2 a b X ((fX1_becomeLike fI fU hI hU).1) ((fX1_becomeLike fI fU hI hU).2) hI hU) := by
  obtain ⟨res, hF⟩ : ∃ z9r, z9r = fX1_becomeLike fI fU hI hU := ⟨_, rfl⟩
  rw [← hF]
  refine cu_intro (cc := cX1_becomeLike) (ret := none) (maxL := 2) (by decide +kernel) rfl (Nat.le_of_ble_eq_true rfl) ?_
  intro p e s m args below meth c A Q C hQ
  have hX1 : ∀ w ∈ wsX10, w ∈ wsX1_becomeLike := by decide +kernel
  show Z p l e { frames := 1, cells := 0, slots := 0, locals := 40 } s m args below meth c X A 2 Q 0 0 (C2 a b X fI fU hI hU) [(0, .ref (a 1)), (1, .ref (b 1))] 0 []
  refine z_aln C dX1_becomeLike_0 1 rfl ?_
  refine z_get (v := .ref (b 11)) C 3 0 dX1_becomeLike_1 rfl rfl rfl hX1 (by decide) (by decide +kernel) rfl ?_
  refine z_ic C dX1_becomeLike_4 0 (by decide) ?_
  refine z_aln C dX1_becomeLike_5 0 rfl ?_
  refine z_get (v := .ref (a 11)) C 0 0 dX1_becomeLike_6 rfl rfl rfl hX1 (by decide) (by decide +kernel) rfl ?_
  refine z_ic C dX1_becomeLike_9 0 (by decide) ?_
  refine z_bp C dX1_becomeLike_10 12 (by decide) ?_
  refine z_copy (f := hI) (g := fI) C 4 1 (C2 a b X (va_cpy hI fI 0 0 12) fU hI hU) dX1_becomeLike_12 (by decide +kernel) (by decide +kernel) (by decide +kernel) (by decide +kernel) rfl rfl (by decide) (by decide) (by decide) (by decide) (by decide) (Nat.le_of_ble_eq_true rfl) (Nat.le_of_ble_eq_true rfl) rfl ?_
  refine z_aln C dX1_becomeLike_15 1 rfl ?_
  refine z_get (v := .ref (b 12)) C 3 1 dX1_becomeLike_16 rfl rfl rfl hX1 (by decide) (by decide +kernel) rfl ?_
  refine z_ic C dX1_becomeLike_19 0 (by decide) ?_
  refine z_aln C dX1_becomeLike_20 0 rfl ?_
  refine z_get (v := .ref (a 12)) C 0 1 dX1_becomeLike_21 rfl rfl rfl hX1 (by decide) (by decide +kernel) rfl ?_
  refine z_ic C dX1_becomeLike_24 0 (by decide) ?_
  refine z_sp C dX1_becomeLike_25 732 (by decide) ?_
  refine z_copy (f := hU) (g := fU) C 5 2 (C2 a b X (va_cpy hI fI 0 0 12) (va_cpy hU fU 0 0 732) hI hU) dX1_becomeLike_28 (by decide +kernel) (by decide +kernel) (by decide +kernel) (by decide +kernel) rfl rfl (by decide) (by decide) (by decide) (by decide) (by decide) (Nat.le_of_ble_eq_true rfl) (Nat.le_of_ble_eq_true rfl) rfl ?_
  exact z_vret C hQ () dX1_becomeLike_31 (by rw [hF]; first | done | rfl) (by decide) (by decide)
