set_option maxHeartbeats 4000000 in
set_option maxRecDepth 100000 in
theorem mX6_thrown (l : Launch) (X : zX) (a : Nat → Nat) (g : zG) : CI l yX6_thrown wsX6_thrown 0 0 0 0 X (MW a X g) [.ref (a 0)] (fX6_thrown g) (MW a X g) := by
  obtain ⟨res, hF⟩ : ∃ z9r, z9r = fX6_thrown g := ⟨_, rfl⟩
  rw [← hF]
  refine ci_intro (cc := cX6_thrown) (ret := (some .int)) (maxL := 1) (by decide +kernel) rfl (Nat.le_of_ble_eq_true rfl) ?_
  intro p e s m args below meth c A Q C hQ
  have hX6 : ∀ w ∈ wsX60, w ∈ wsX6_thrown := by decide +kernel
  show Z p l e { frames := 0, cells := 0, slots := 0, locals := 0 } s m args below meth c X A 1 Q 0 0 (MW a X g) [(0, .ref (a 0))] 0 []
  refine z_aln C dX6_thrown_0 0 rfl ?_
  refine z_get (v := .int (g 10 0)) C 0 0 dX6_thrown_1 rfl rfl rfl hX6 (by decide) (by decide +kernel) rfl ?_
  exact z_iret C hQ dX6_thrown_4 (by rw [hF]; first | done | rfl) rfl (by decide) (by decide)
set_option maxHeartbeats 4000000 in
set_option maxRecDepth 100000 in
theorem mX6_asked (l : Launch) (X : zX) (a : Nat → Nat) (g : zG) (pa : Int32) (hy0 : pa = 0 ∨ pa = 1) : CI l yX6_asked wsX6_asked 0 0 0 0 X (MW a X g) [.ref (a 0), .int pa] ((fX6_asked g pa).1) (MW a X ((fX6_asked g pa).2)) := by
  obtain ⟨res, hF⟩ : ∃ z9r, z9r = fX6_asked g pa := ⟨_, rfl⟩
  rw [← hF]
  refine ci_intro (cc := cX6_asked) (ret := (some .boolean)) (maxL := 2) (by decide +kernel) rfl (Nat.le_of_ble_eq_true rfl) ?_
  intro p e s m args below meth c A Q C hQ
  have hX6 : ∀ w ∈ wsX60, w ∈ wsX6_asked := by decide +kernel
  show Z p l e { frames := 0, cells := 0, slots := 0, locals := 0 } s m args below meth c X A 2 Q 0 0 (MW a X g) [(0, .ref (a 0)), (1, .int pa)] 0 []
  refine z_aln C dX6_asked_0 0 rfl ?_
  obtain ⟨v1, hv1⟩ : ∃ z9v, z9v = ((if pa = 0 then 1 else 0) : Int32) := ⟨_, rfl⟩
  have hF := hF.trans (jn_at hv1)
  have Jv1 : Z p l e { frames := 0, cells := 0, slots := 0, locals := 0 } s m args below meth c X A 2 Q 0 0 (MW a X g) [(0, .ref (a 0)), (1, .int pa)] 10 [.int v1, .ref (a 0)] := by
    refine z_put C 0 0 (MW a X (va_up g 10 (upd (g 10) 0 v1))) dX6_asked_10 rfl rfl hX6 tyX6_ok nmX6 (by decide) (by decide +kernel) rfl rfl rfl rfl rfl (Nat.le_of_ble_eq_true rfl) rfl ?_
    refine z_iln C dX6_asked_13 1 rfl ?_
    exact z_zret C hQ dX6_asked_14 hy0 (by rw [hF]; first | done | rfl) (by rw [hF]; first | done | rfl) (by decide) (by decide)
  refine z_iln C dX6_asked_1 1 rfl ?_
  refine z_if_eq C 9 dX6_asked_2 (by decide) (fun c2 => ?_) (fun c2 => ?_)
  · have hv1 := hv1.trans (if_pos c2)
    refine z_ic C dX6_asked_9 1 (by decide) ?_
    rw [hv1] at Jv1
    exact Jv1
  · have hv1 := hv1.trans (if_neg c2)
    refine z_ic C dX6_asked_5 0 (by decide) ?_
    refine z_go C 10 dX6_asked_6 (by decide) ?_
    rw [hv1] at Jv1
    exact Jv1
set_option maxHeartbeats 4000000 in
set_option maxRecDepth 100000 in
theorem mX6_asked_ (l : Launch) (X : zX) (a : Nat → Nat) (g : zG) (pa : Int32) (qa : Int32) : CI l yX6_asked_ wsX6_asked_ 0 0 0 0 X (MW a X g) [.ref (a 0), .int pa, .int qa] ((fX6_asked_ g pa qa).1) (MW a X ((fX6_asked_ g pa qa).2)) := by
  obtain ⟨res, hF⟩ : ∃ z9r, z9r = fX6_asked_ g pa qa := ⟨_, rfl⟩
  rw [← hF]
  refine ci_intro (cc := cX6_asked_) (ret := (some .boolean)) (maxL := 3) (by decide +kernel) rfl (Nat.le_of_ble_eq_true rfl) ?_
  intro p e s m args below meth c A Q C hQ
  have hX6 : ∀ w ∈ wsX60, w ∈ wsX6_asked_ := by decide +kernel
  show Z p l e { frames := 0, cells := 0, slots := 0, locals := 0 } s m args below meth c X A 3 Q 0 0 (MW a X g) [(0, .ref (a 0)), (1, .int pa), (2, .int qa)] 0 []
  refine z_aln C dX6_asked__0 0 rfl ?_
  obtain ⟨v1, hv1⟩ : ∃ z9v, z9v = ((if pa = 0 then 1 else (if qa = 0 then 2 else 0)) : Int32) := ⟨_, rfl⟩
  have hF := hF.trans (jn_at hv1)
  have Jv1 : Z p l e { frames := 0, cells := 0, slots := 0, locals := 0 } s m args below meth c X A 3 Q 0 0 (MW a X g) [(0, .ref (a 0)), (1, .int pa), (2, .int qa)] 18 [.int v1, .ref (a 0)] := by
    refine z_put C 0 0 (MW a X (va_up g 10 (upd (g 10) 0 v1))) dX6_asked__18 rfl rfl hX6 tyX6_ok nmX6 (by decide) (by decide +kernel) rfl rfl rfl rfl rfl (Nat.le_of_ble_eq_true rfl) rfl ?_
    refine z_aln C dX6_asked__21 0 rfl ?_
    refine z_get (v := .int v1) C 0 0 dX6_asked__22 rfl rfl rfl hX6 (by decide) (by decide +kernel) rfl ?_
    refine z_if_ne C 32 dX6_asked__25 (by decide) (fun c4 => ?_) (fun c4 => ?_)
    · have hF := hF.trans (if_neg c4)
      refine z_ic C dX6_asked__32 0 (by decide) ?_
      exact z_zret C hQ dX6_asked__33 (Or.inl rfl) (by rw [hF]; first | done | rfl) (by rw [hF]; first | done | rfl) (by decide) (by decide)
    · have hF := hF.trans (if_pos c4)
      refine z_ic C dX6_asked__28 1 (by decide) ?_
      refine z_go C 33 dX6_asked__29 (by decide) ?_
      exact z_zret C hQ dX6_asked__33 (Or.inr rfl) (by rw [hF]; first | done | rfl) (by rw [hF]; first | done | rfl) (by decide) (by decide)
  refine z_iln C dX6_asked__1 1 rfl ?_
  refine z_if_ne C 9 dX6_asked__2 (by decide) (fun c2 => ?_) (fun c2 => ?_)
  · have hv1 := hv1.trans (if_neg c2)
    refine z_iln C dX6_asked__9 2 rfl ?_
    refine z_if_eq C 17 dX6_asked__10 (by decide) (fun c3 => ?_) (fun c3 => ?_)
    · have hv1 := hv1.trans (if_pos c3)
      refine z_ic C dX6_asked__17 2 (by decide) ?_
      rw [hv1] at Jv1
      exact Jv1
    · have hv1 := hv1.trans (if_neg c3)
      refine z_ic C dX6_asked__13 0 (by decide) ?_
      refine z_go C 18 dX6_asked__14 (by decide) ?_
      rw [hv1] at Jv1
      exact Jv1
  · have hv1 := hv1.trans (if_pos c2)
    refine z_ic C dX6_asked__5 1 (by decide) ?_
    refine z_go C 18 dX6_asked__6 (by decide) ?_
    rw [hv1] at Jv1
    exact Jv1
set_option maxHeartbeats 4000000 in
set_option maxRecDepth 100000 in
theorem mX6_asked__ (l : Launch) (X : zX) (a : Nat → Nat) (g : zG) (pa : Int32) (qa : Int32) (ra : Int32) : CI l yX6_asked__ wsX6_asked__ 0 0 0 0 X (MW a X g) [.ref (a 0), .int pa, .int qa, .int ra] ((fX6_asked__ g pa qa ra).1) (MW a X ((fX6_asked__ g pa qa ra).2)) := by
  obtain ⟨res, hF⟩ : ∃ z9r, z9r = fX6_asked__ g pa qa ra := ⟨_, rfl⟩
  rw [← hF]
  refine ci_intro (cc := cX6_asked__) (ret := (some .boolean)) (maxL := 4) (by decide +kernel) rfl (Nat.le_of_ble_eq_true rfl) ?_
  intro p e s m args below meth c A Q C hQ
  have hX6 : ∀ w ∈ wsX60, w ∈ wsX6_asked__ := by decide +kernel
  show Z p l e { frames := 0, cells := 0, slots := 0, locals := 0 } s m args below meth c X A 4 Q 0 0 (MW a X g) [(0, .ref (a 0)), (1, .int pa), (2, .int qa), (3, .int ra)] 0 []
  refine z_aln C dX6_asked___0 0 rfl ?_
  obtain ⟨v1, hv1⟩ : ∃ z9v, z9v = ((if pa = 0 then 1 else (if qa = 0 then 2 else (if ra = 0 then 3 else 0))) : Int32) := ⟨_, rfl⟩
  have hF := hF.trans (jn_at hv1)
  have Jv1 : Z p l e { frames := 0, cells := 0, slots := 0, locals := 0 } s m args below meth c X A 4 Q 0 0 (MW a X g) [(0, .ref (a 0)), (1, .int pa), (2, .int qa), (3, .int ra)] 26 [.int v1, .ref (a 0)] := by
    refine z_put C 0 0 (MW a X (va_up g 10 (upd (g 10) 0 v1))) dX6_asked___26 rfl rfl hX6 tyX6_ok nmX6 (by decide) (by decide +kernel) rfl rfl rfl rfl rfl (Nat.le_of_ble_eq_true rfl) rfl ?_
    refine z_aln C dX6_asked___29 0 rfl ?_
    refine z_get (v := .int v1) C 0 0 dX6_asked___30 rfl rfl rfl hX6 (by decide) (by decide +kernel) rfl ?_
    refine z_if_ne C 40 dX6_asked___33 (by decide) (fun c5 => ?_) (fun c5 => ?_)
    · have hF := hF.trans (if_neg c5)
      refine z_ic C dX6_asked___40 0 (by decide) ?_
      exact z_zret C hQ dX6_asked___41 (Or.inl rfl) (by rw [hF]; first | done | rfl) (by rw [hF]; first | done | rfl) (by decide) (by decide)
    · have hF := hF.trans (if_pos c5)
      refine z_ic C dX6_asked___36 1 (by decide) ?_
      refine z_go C 41 dX6_asked___37 (by decide) ?_
      exact z_zret C hQ dX6_asked___41 (Or.inr rfl) (by rw [hF]; first | done | rfl) (by rw [hF]; first | done | rfl) (by decide) (by decide)
  refine z_iln C dX6_asked___1 1 rfl ?_
  refine z_if_ne C 9 dX6_asked___2 (by decide) (fun c2 => ?_) (fun c2 => ?_)
  · have hv1 := hv1.trans (if_neg c2)
    refine z_iln C dX6_asked___9 2 rfl ?_
    refine z_if_ne C 17 dX6_asked___10 (by decide) (fun c3 => ?_) (fun c3 => ?_)
    · have hv1 := hv1.trans (if_neg c3)
      refine z_iln C dX6_asked___17 3 rfl ?_
      refine z_if_eq C 25 dX6_asked___18 (by decide) (fun c4 => ?_) (fun c4 => ?_)
      · have hv1 := hv1.trans (if_pos c4)
        refine z_ic C dX6_asked___25 3 (by decide) ?_
        rw [hv1] at Jv1
        exact Jv1
      · have hv1 := hv1.trans (if_neg c4)
        refine z_ic C dX6_asked___21 0 (by decide) ?_
        refine z_go C 26 dX6_asked___22 (by decide) ?_
        rw [hv1] at Jv1
        exact Jv1
    · have hv1 := hv1.trans (if_pos c3)
      refine z_ic C dX6_asked___13 2 (by decide) ?_
      refine z_go C 26 dX6_asked___14 (by decide) ?_
      rw [hv1] at Jv1
      exact Jv1
  · have hv1 := hv1.trans (if_pos c2)
    refine z_ic C dX6_asked___5 1 (by decide) ?_
    refine z_go C 26 dX6_asked___6 (by decide) ?_
    rw [hv1] at Jv1
    exact Jv1
set_option maxHeartbeats 4000000 in
set_option maxRecDepth 100000 in
theorem mX6_in (l : Launch) (X : zX) (v : Int32) (lo : Int32) (hi : Int32) : CI l yX6_in wsX6_in 0 0 0 0 X [] [.int v, .int lo, .int hi] (fX6_in v lo hi) [] := by
  obtain ⟨res, hF⟩ : ∃ z9r, z9r = fX6_in v lo hi := ⟨_, rfl⟩
  rw [← hF]
  refine ci_intro (cc := cX6_in) (ret := (some .boolean)) (maxL := 3) (by decide +kernel) rfl (Nat.le_of_ble_eq_true rfl) ?_
  intro p e s m args below meth c A Q C hQ
  show Z p l e { frames := 0, cells := 0, slots := 0, locals := 0 } s m args below meth c X A 3 Q 0 0 [] [(0, .int v), (1, .int lo), (2, .int hi)] 0 []
  refine z_iln C dX6_in_0 0 rfl ?_
  refine z_iln C dX6_in_1 1 rfl ?_
  refine z_ic_lt C 14 dX6_in_2 (by decide) (fun c1 => ?_) (fun c1 => ?_)
  · have hF := hF.trans (if_pos c1)
    refine z_ic C dX6_in_14 0 (by decide) ?_
    exact z_zret C hQ dX6_in_15 (Or.inl rfl) (by rw [hF]; first | done | rfl) rfl (by decide) (by decide)
  · have hF := hF.trans (if_neg c1)
    refine z_iln C dX6_in_5 0 rfl ?_
    refine z_iln C dX6_in_6 2 rfl ?_
    refine z_ic_gt C 14 dX6_in_7 (by decide) (fun c2 => ?_) (fun c2 => ?_)
    · have hF := hF.trans (if_pos c2)
      refine z_ic C dX6_in_14 0 (by decide) ?_
      exact z_zret C hQ dX6_in_15 (Or.inl rfl) (by rw [hF]; first | done | rfl) rfl (by decide) (by decide)
    · have hF := hF.trans (if_neg c2)
      refine z_ic C dX6_in_10 1 (by decide) ?_
      refine z_go C 15 dX6_in_11 (by decide) ?_
      exact z_zret C hQ dX6_in_15 (Or.inr rfl) (by rw [hF]; first | done | rfl) rfl (by decide) (by decide)
set_option maxHeartbeats 4000000 in
set_option maxRecDepth 100000 in
theorem mX6_isCell (l : Launch) (X : zX) (v : Int32) : CI l yX6_isCell wsX6_isCell 1 22 0 0 X [] [.int v] (fX6_isCell v) [] := by
  obtain ⟨res, hF⟩ : ∃ z9r, z9r = fX6_isCell v := ⟨_, rfl⟩
  rw [← hF]
  refine ci_intro (cc := cX6_isCell) (ret := (some .boolean)) (maxL := 1) (by decide +kernel) rfl (Nat.le_of_ble_eq_true rfl) ?_
  intro p e s m args below meth c A Q C hQ
  show Z p l e { frames := 1, cells := 0, slots := 0, locals := 22 } s m args below meth c X A 1 Q 0 0 [] [(0, .int v)] 0 []
  refine z_iln C dX6_isCell_0 0 rfl ?_
  refine z_ic C dX6_isCell_1 0 (by decide) ?_
  refine z_bp C dX6_isCell_2 11 (by decide) ?_
  refine z_cSi0 (As := [.int v, .int 0, .int 11]) (rest := []) C (mX6_in l X v 0 11 ) gX6_isCell_X6_in rfl ⟨by decide, by decide, (by decide : (parseMethodDescriptor yX6_in.desc).map (fun d => d.parameters.length) = some 3)⟩ ⟨by decide, by decide⟩ ⟨by decide, by decide⟩ (Nat.le_of_ble_eq_true rfl) dX6_isCell_4 rfl ?_
  exact z_zret C hQ dX6_isCell_7 (in_01 _ _ _) (by rw [hF]; first | done | rfl) rfl (by decide) (by decide)
set_option maxHeartbeats 4000000 in
set_option maxRecDepth 100000 in
theorem mX6_iceOf (l : Launch) (X : zX) (a : Nat → Nat) (g : zG) (k : Nat) (hy0 : k < 12) : CI l yX6_iceOf wsX6_iceOf 0 0 0 0 X (MW a X g) [.ref (a 0), .int (nI k)] (fX6_iceOf g k) (MW a X g) := by
  obtain ⟨res, hF⟩ : ∃ z9r, z9r = fX6_iceOf g k := ⟨_, rfl⟩
  rw [← hF]
  refine ci_intro (cc := cX6_iceOf) (ret := (some .int)) (maxL := 4) (by decide +kernel) rfl (Nat.le_of_ble_eq_true rfl) ?_
  intro p e s m args below meth c A Q C hQ
  have hX6 : ∀ w ∈ wsX60, w ∈ wsX6_iceOf := by decide +kernel
  show Z p l e { frames := 0, cells := 0, slots := 0, locals := 0 } s m args below meth c X A 4 Q 0 0 (MW a X g) [(0, .ref (a 0)), (1, .int (nI k))] 0 []
  refine z_ic C dX6_iceOf_0 0 (by decide) ?_
  refine z_isn C 2 [(2, .int 0), (0, .ref (a 0)), (1, .int (nI k))] dX6_iceOf_1 rfl (by decide) rfl ?_
  refine z_ic C dX6_iceOf_2 0 (by decide) ?_
  refine z_isn C 3 [(3, .int 0), (2, .int 0), (0, .ref (a 0)), (1, .int (nI k))] dX6_iceOf_3 rfl (by decide) rfl ?_
  refine z_lv [2, 3, 1, 0] [(0, .ref (a 0)), (1, .int (nI k)), (2, .int 0), (3, .int 0)] rfl ?_
  have LPk2 : ∀ (nk2 k2 : Nat) (x1 : Int32), k2 + nk2 = 61 → res = fX6_iceOf_L4 g k nk2 k2 x1 → Z p l e { frames := 0, cells := 0, slots := 0, locals := 0 } s m args below meth c X A 4 Q 0 0 (MW a X g) [(0, .ref (a 0)), (1, .int (nI k)), (2, .int x1), (3, .int (nI k2))] 4 [] := by
    intro nk2
    induction nk2 with
    | zero =>
      intro k2 x1 hkk2 hF
      refine z_iln C dX6_iceOf_4 3 rfl ?_
      refine z_bp C dX6_iceOf_5 61 (by decide) ?_
      refine z_ic_geN C k2 61 33 dX6_iceOf_7 (by decide) rfl rfl (by omega) (by omega) (fun c3 => ?_) (fun c3 => ?_)
      rotate_left
      · exact absurd c3 (by omega)
      refine z_iln C dX6_iceOf_33 2 rfl ?_
      exact z_iret C hQ dX6_iceOf_34 (by rw [hF]; first | done | rfl) rfl (by decide) (by decide)
    | succ nk2 ihk2 =>
      intro k2 x1 hkk2 hF
      refine z_iln C dX6_iceOf_4 3 rfl ?_
      refine z_bp C dX6_iceOf_5 61 (by decide) ?_
      refine z_ic_geN C k2 61 33 dX6_iceOf_7 (by decide) rfl rfl (by omega) (by omega) (fun c4 => ?_) (fun c4 => ?_)
      · exact absurd c4 (by omega)
      refine z_iln C dX6_iceOf_10 2 rfl ?_
      refine z_aln C dX6_iceOf_11 0 rfl ?_
      refine z_get (v := .ref (a 1)) C 0 5 dX6_iceOf_12 rfl rfl rfl hX6 (by decide) (by decide +kernel) rfl ?_
      refine z_bp C dX6_iceOf_15 100 (by decide) ?_
      refine z_bp C dX6_iceOf_17 61 (by decide) ?_
      refine z_iln C dX6_iceOf_19 1 rfl ?_
      refine z_imul C dX6_iceOf_20 (nI (61 * k)) (pk_mul 61 k) ?_
      refine z_iadd C dX6_iceOf_21 (nI (100 + (61 * k))) (nI_add 100 (61 * k)) ?_
      refine z_iln C dX6_iceOf_22 3 rfl ?_
      refine z_iadd C dX6_iceOf_23 (nI ((100 + (61 * k)) + k2)) (nI_add (100 + (61 * k)) k2) ?_
      refine z_iald (f := (g 0)) C 1 ((100 + (61 * k)) + k2) dX6_iceOf_24 rfl (by decide) rfl (by omega) ?_
      refine z_iadd C dX6_iceOf_25 (x1 + ((g 0) ((100 + (61 * k)) + k2))) rfl ?_
      refine z_isn C 2 [(2, .int (x1 + ((g 0) ((100 + (61 * k)) + k2)))), (0, .ref (a 0)), (1, .int (nI k)), (3, .int (nI k2))] dX6_iceOf_26 rfl (by decide) rfl ?_
      refine z_inc C 3 (nI (k2 + 1)) [(3, .int (nI (k2 + 1))), (2, .int (x1 + ((g 0) ((100 + (61 * k)) + k2)))), (0, .ref (a 0)), (1, .int (nI k))] dX6_iceOf_27 rfl (nI_add k2 1) (by decide) rfl ?_
      refine z_go C 4 dX6_iceOf_30 (by decide) ?_
      refine z_lv [2, 3, 1, 0] [(0, .ref (a 0)), (1, .int (nI k)), (2, .int (x1 + ((g 0) ((100 + (61 * k)) + k2)))), (3, .int (nI (k2 + 1)))] rfl ?_
      exact ihk2 (k2 + 1) (x1 + ((g 0) ((100 + (61 * k)) + k2))) (by omega) hF
  exact LPk2 61 0 0 (by omega) hF
set_option maxHeartbeats 4000000 in
set_option maxRecDepth 100000 in
theorem mX6_allIce (l : Launch) (X : zX) (a : Nat → Nat) (g : zG) : CI l yX6_allIce wsX6_allIce 1 23 0 0 X (MW a X g) [.ref (a 0)] (fX6_allIce g) (MW a X g) := by
  obtain ⟨res, hF⟩ : ∃ z9r, z9r = fX6_allIce g := ⟨_, rfl⟩
  rw [← hF]
  refine ci_intro (cc := cX6_allIce) (ret := (some .int)) (maxL := 3) (by decide +kernel) rfl (Nat.le_of_ble_eq_true rfl) ?_
  intro p e s m args below meth c A Q C hQ
  show Z p l e { frames := 1, cells := 0, slots := 0, locals := 23 } s m args below meth c X A 3 Q 0 0 (MW a X g) [(0, .ref (a 0))] 0 []
  refine z_ic C dX6_allIce_0 0 (by decide) ?_
  refine z_isn C 1 [(1, .int 0), (0, .ref (a 0))] dX6_allIce_1 rfl (by decide) rfl ?_
  refine z_ic C dX6_allIce_2 0 (by decide) ?_
  refine z_isn C 2 [(2, .int 0), (1, .int 0), (0, .ref (a 0))] dX6_allIce_3 rfl (by decide) rfl ?_
  refine z_lv [2, 1, 0] [(0, .ref (a 0)), (1, .int 0), (2, .int 0)] rfl ?_
  have LPk2 : ∀ (nk2 k2 : Nat) (x1 : Int32), k2 + nk2 = 12 → res = fX6_allIce_L4 g nk2 k2 x1 → Z p l e { frames := 1, cells := 0, slots := 0, locals := 23 } s m args below meth c X A 3 Q 0 0 (MW a X g) [(0, .ref (a 0)), (1, .int x1), (2, .int (nI k2))] 4 [] := by
    intro nk2
    induction nk2 with
    | zero =>
      intro k2 x1 hkk2 hF
      refine z_iln C dX6_allIce_4 2 rfl ?_
      refine z_bp C dX6_allIce_5 12 (by decide) ?_
      refine z_ic_geN C k2 12 24 dX6_allIce_7 (by decide) rfl rfl (by omega) (by omega) (fun c3 => ?_) (fun c3 => ?_)
      rotate_left
      · exact absurd c3 (by omega)
      refine z_iln C dX6_allIce_24 1 rfl ?_
      exact z_iret C hQ dX6_allIce_25 (by rw [hF]; first | done | rfl) rfl (by decide) (by decide)
    | succ nk2 ihk2 =>
      intro k2 x1 hkk2 hF
      refine z_iln C dX6_allIce_4 2 rfl ?_
      refine z_bp C dX6_allIce_5 12 (by decide) ?_
      refine z_ic_geN C k2 12 24 dX6_allIce_7 (by decide) rfl rfl (by omega) (by omega) (fun c4 => ?_) (fun c4 => ?_)
      · exact absurd c4 (by omega)
      refine z_iln C dX6_allIce_10 1 rfl ?_
      refine z_aln C dX6_allIce_11 0 rfl ?_
      refine z_iln C dX6_allIce_12 2 rfl ?_
      refine z_cVi0 (As := [.int (nI k2)]) (rest := [.int x1]) C (mX6_iceOf l X a g k2 (by omega)) gX6_allIce_X6_iceOf rfl ⟨rfl, by decide, by decide, (by decide : (parseMethodDescriptor yX6_iceOf.desc).map (fun d => d.parameters.length) = some 1)⟩ ⟨by decide, by decide⟩ ⟨by decide, by decide⟩ 0 6 rfl rfl (Nat.le_of_ble_eq_true rfl) dX6_allIce_13 rfl ?_
      refine z_iadd C dX6_allIce_16 (x1 + (fX6_iceOf g k2)) rfl ?_
      refine z_isn C 1 [(1, .int (x1 + (fX6_iceOf g k2))), (0, .ref (a 0)), (2, .int (nI k2))] dX6_allIce_17 rfl (by decide) rfl ?_
      refine z_inc C 2 (nI (k2 + 1)) [(2, .int (nI (k2 + 1))), (1, .int (x1 + (fX6_iceOf g k2))), (0, .ref (a 0))] dX6_allIce_18 rfl (nI_add k2 1) (by decide) rfl ?_
      refine z_go C 4 dX6_allIce_21 (by decide) ?_
      refine z_lv [2, 1, 0] [(0, .ref (a 0)), (1, .int (x1 + (fX6_iceOf g k2))), (2, .int (nI (k2 + 1)))] rfl ?_
      exact ihk2 (k2 + 1) (x1 + (fX6_iceOf g k2)) (by omega) hF
  exact LPk2 12 0 0 (by omega) hF
set_option maxHeartbeats 4000000 in
set_option maxRecDepth 100000 in
theorem mX6_surfaceOf (l : Launch) (X : zX) (a : Nat → Nat) (g : zG) (k : Nat) (hy0 : k < 12) : CI l yX6_surfaceOf wsX6_surfaceOf 1 23 0 0 X (MW a X g) [.ref (a 0), .int (nI k)] (fX6_surfaceOf g k) (MW a X g) := by
  obtain ⟨res, hF⟩ : ∃ z9r, z9r = fX6_surfaceOf g k := ⟨_, rfl⟩
  rw [← hF]
  refine ci_intro (cc := cX6_surfaceOf) (ret := (some .int)) (maxL := 2) (by decide +kernel) rfl (Nat.le_of_ble_eq_true rfl) ?_
  intro p e s m args below meth c A Q C hQ
  have hX6 : ∀ w ∈ wsX60, w ∈ wsX6_surfaceOf := by decide +kernel
  show Z p l e { frames := 1, cells := 0, slots := 0, locals := 23 } s m args below meth c X A 2 Q 0 0 (MW a X g) [(0, .ref (a 0)), (1, .int (nI k))] 0 []
  refine z_aln C dX6_surfaceOf_0 0 rfl ?_
  refine z_get (v := .ref (a 1)) C 0 5 dX6_surfaceOf_1 rfl rfl rfl hX6 (by decide) (by decide +kernel) rfl ?_
  refine z_ic C dX6_surfaceOf_4 0 (by decide) ?_
  refine z_iln C dX6_surfaceOf_5 1 rfl ?_
  refine z_iadd C dX6_surfaceOf_6 (nI (0 + k)) (nI_add 0 k) ?_
  refine z_iald (f := (g 0)) C 1 (0 + k) dX6_surfaceOf_7 rfl (by decide) rfl (by omega) ?_
  refine z_aln C dX6_surfaceOf_8 0 rfl ?_
  refine z_iln C dX6_surfaceOf_9 1 rfl ?_
  refine z_cVi0 (As := [.int (nI k)]) (rest := [.int ((g 0) (0 + k))]) C (mX6_iceOf l X a g k (by omega)) gX6_surfaceOf_X6_iceOf rfl ⟨rfl, by decide, by decide, (by decide : (parseMethodDescriptor yX6_iceOf.desc).map (fun d => d.parameters.length) = some 1)⟩ ⟨by decide, by decide⟩ ⟨by decide, by decide⟩ 0 6 rfl rfl (Nat.le_of_ble_eq_true rfl) dX6_surfaceOf_10 rfl ?_
  refine z_iadd C dX6_surfaceOf_13 (((g 0) (0 + k)) + (fX6_iceOf g k)) rfl ?_
  exact z_iret C hQ dX6_surfaceOf_14 (by rw [hF]; first | done | rfl) rfl (by decide) (by decide)
set_option maxHeartbeats 4000000 in
set_option maxRecDepth 100000 in
theorem mX6_isInSea (l : Launch) (X : zX) (a : Nat → Nat) (g : zG) (k : Nat) (hy0 : k < 12) : CI l yX6_isInSea wsX6_isInSea 0 0 0 0 X (MW a X g) [.ref (a 0), .int (nI k)] (fX6_isInSea g k) (MW a X g) := by
  obtain ⟨res, hF⟩ : ∃ z9r, z9r = fX6_isInSea g k := ⟨_, rfl⟩
  rw [← hF]
  refine ci_intro (cc := cX6_isInSea) (ret := (some .boolean)) (maxL := 2) (by decide +kernel) rfl (Nat.le_of_ble_eq_true rfl) ?_
  intro p e s m args below meth c A Q C hQ
  have hX6 : ∀ w ∈ wsX60, w ∈ wsX6_isInSea := by decide +kernel
  show Z p l e { frames := 0, cells := 0, slots := 0, locals := 0 } s m args below meth c X A 2 Q 0 0 (MW a X g) [(0, .ref (a 0)), (1, .int (nI k))] 0 []
  refine z_aln C dX6_isInSea_0 0 rfl ?_
  refine z_get (v := .ref (a 1)) C 0 5 dX6_isInSea_1 rfl rfl rfl hX6 (by decide) (by decide +kernel) rfl ?_
  refine z_ic C dX6_isInSea_4 0 (by decide) ?_
  refine z_iln C dX6_isInSea_5 1 rfl ?_
  refine z_iadd C dX6_isInSea_6 (nI (0 + k)) (nI_add 0 k) ?_
  refine z_iald (f := (g 0)) C 1 (0 + k) dX6_isInSea_7 rfl (by decide) rfl (by omega) ?_
  refine z_aln C dX6_isInSea_8 0 rfl ?_
  refine z_get (v := .int (g 10 1)) C 0 1 dX6_isInSea_9 rfl rfl rfl hX6 (by decide) (by decide +kernel) rfl ?_
  refine z_ic_ge C 19 dX6_isInSea_12 (by decide) (fun c1 => ?_) (fun c1 => ?_)
  · have hF := hF.trans (if_pos c1)
    refine z_ic C dX6_isInSea_19 0 (by decide) ?_
    exact z_zret C hQ dX6_isInSea_20 (Or.inl rfl) (by rw [hF]; first | done | rfl) rfl (by decide) (by decide)
  · have hF := hF.trans (if_neg c1)
    refine z_ic C dX6_isInSea_15 1 (by decide) ?_
    refine z_go C 20 dX6_isInSea_16 (by decide) ?_
    exact z_zret C hQ dX6_isInSea_20 (Or.inr rfl) (by rw [hF]; first | done | rfl) rfl (by decide) (by decide)
set_option maxHeartbeats 4000000 in
set_option maxRecDepth 100000 in
theorem mX6_potentialOf (l : Launch) (X : zX) (a : Nat → Nat) (g : zG) (k : Nat) (hy0 : k < 12) : CI l yX6_potentialOf wsX6_potentialOf 1 23 0 0 X (MW a X g) [.ref (a 0), .int (nI k)] (fX6_potentialOf g k) (MW a X g) := by
  obtain ⟨res, hF⟩ : ∃ z9r, z9r = fX6_potentialOf g k := ⟨_, rfl⟩
  rw [← hF]
  refine ci_intro (cc := cX6_potentialOf) (ret := (some .int)) (maxL := 2) (by decide +kernel) rfl (Nat.le_of_ble_eq_true rfl) ?_
  intro p e s m args below meth c A Q C hQ
  have hX6 : ∀ w ∈ wsX60, w ∈ wsX6_potentialOf := by decide +kernel
  show Z p l e { frames := 1, cells := 0, slots := 0, locals := 23 } s m args below meth c X A 2 Q 0 0 (MW a X g) [(0, .ref (a 0)), (1, .int (nI k))] 0 []
  refine z_bp C dX6_potentialOf_0 10 (by decide) ?_
  refine z_aln C dX6_potentialOf_2 0 rfl ?_
  refine z_get (v := .ref (a 1)) C 0 5 dX6_potentialOf_3 rfl rfl rfl hX6 (by decide) (by decide +kernel) rfl ?_
  refine z_ic C dX6_potentialOf_6 0 (by decide) ?_
  refine z_iln C dX6_potentialOf_7 1 rfl ?_
  refine z_iadd C dX6_potentialOf_8 (nI (0 + k)) (nI_add 0 k) ?_
  refine z_iald (f := (g 0)) C 1 (0 + k) dX6_potentialOf_9 rfl (by decide) rfl (by omega) ?_
  refine z_imul C dX6_potentialOf_10 (10 * ((g 0) (0 + k))) rfl ?_
  refine z_bp C dX6_potentialOf_11 9 (by decide) ?_
  refine z_aln C dX6_potentialOf_13 0 rfl ?_
  refine z_iln C dX6_potentialOf_14 1 rfl ?_
  refine z_cVi0 (As := [.int (nI k)]) (rest := [.int 9, .int (10 * ((g 0) (0 + k)))]) C (mX6_iceOf l X a g k (by omega)) gX6_potentialOf_X6_iceOf rfl ⟨rfl, by decide, by decide, (by decide : (parseMethodDescriptor yX6_iceOf.desc).map (fun d => d.parameters.length) = some 1)⟩ ⟨by decide, by decide⟩ ⟨by decide, by decide⟩ 0 6 rfl rfl (Nat.le_of_ble_eq_true rfl) dX6_potentialOf_15 rfl ?_
  refine z_imul C dX6_potentialOf_18 (9 * (fX6_iceOf g k)) rfl ?_
  refine z_iadd C dX6_potentialOf_19 ((10 * ((g 0) (0 + k))) + (9 * (fX6_iceOf g k))) rfl ?_
  exact z_iret C hQ dX6_potentialOf_20 (by rw [hF]; first | done | rfl) rfl (by decide) (by decide)
set_option maxHeartbeats 4000000 in
set_option maxRecDepth 100000 in
theorem mX6_snows (l : Launch) (X : zX) (a : Nat → Nat) (g : zG) (b yr fb bb : Nat) (hy0 : MP g b yr fb bb) (hy1 : b + 240 ≤ 1000000) : CV l yX6_snows wsX6_snows 2 44 0 0 X (MW a X g) [.ref (a 0)] (MW a X (fX6_snows g)) := by
  obtain ⟨res, hF⟩ : ∃ z9r, z9r = fX6_snows g := ⟨_, rfl⟩
  rw [← hF]
  refine cu_intro (cc := cX6_snows) (ret := none) (maxL := 8) (by decide +kernel) rfl (Nat.le_of_ble_eq_true rfl) ?_
  intro p e s m args below meth c A Q C hQ
  have hX6 : ∀ w ∈ wsX60, w ∈ wsX6_snows := by decide +kernel
  show Z p l e { frames := 2, cells := 0, slots := 0, locals := 44 } s m args below meth c X A 8 Q 0 0 (MW a X g) [(0, .ref (a 0))] 0 []
  refine z_ic C dX6_snows_0 0 (by decide) ?_
  refine z_isn C 1 [(1, .int 0), (0, .ref (a 0))] dX6_snows_1 rfl (by decide) rfl ?_
  refine z_lv [1, 0] [(0, .ref (a 0)), (1, .int 0)] rfl ?_
  have LPk2 : ∀ (nk2 k2 : Nat) (x1 : zG), k2 + nk2 = 12 → (MP x1 (b + 20 * k2) yr fb bb) → res = fX6_snows_L2 nk2 k2 x1 → Z p l e { frames := 2, cells := 0, slots := 0, locals := 44 } s m args below meth c X A 8 Q 0 0 (MW a X x1) [(0, .ref (a 0)), (1, .int (nI k2))] 2 [] := by
    intro nk2
    induction nk2 with
    | zero =>
      intro k2 x1 hkk2 hik2 hF
      refine z_iln C dX6_snows_2 1 rfl ?_
      refine z_bp C dX6_snows_3 12 (by decide) ?_
      refine z_ic_geN C k2 12 256 dX6_snows_5 (by decide) rfl rfl (by omega) (by omega) (fun c3 => ?_) (fun c3 => ?_)
      rotate_left
      · exact absurd c3 (by omega)
      exact z_vret C hQ () dX6_snows_256 (by rw [hF]; first | done | rfl) (by decide) (by decide)
    | succ nk2 ihk2 =>
      intro k2 x1 hkk2 hik2 hF
      refine z_iln C dX6_snows_2 1 rfl ?_
      refine z_bp C dX6_snows_3 12 (by decide) ?_
      refine z_ic_geN C k2 12 256 dX6_snows_5 (by decide) rfl rfl (by omega) (by omega) (fun c4 => ?_) (fun c4 => ?_)
      · exact absurd c4 (by omega)
      obtain ⟨v5, hv5⟩ : ∃ z9v, z9v = ((mSnow k2 x1) : zG) := ⟨_, rfl⟩
      have hF := hF.trans (jn_at hv5)
      have Jv5 : Z p l e { frames := 2, cells := 0, slots := 0, locals := 44 } s m args below meth c X A 8 Q 0 0 (MW a X v5) [(0, .ref (a 0)), (1, .int (nI k2))] 250 [] := by
        refine z_inc C 1 (nI (k2 + 1)) [(1, .int (nI (k2 + 1))), (0, .ref (a 0))] dX6_snows_250 rfl (nI_add k2 1) (by decide) rfl ?_
        refine z_go C 2 dX6_snows_253 (by decide) ?_
        refine z_lv [1, 0] [(0, .ref (a 0)), (1, .int (nI (k2 + 1)))] rfl ?_
        exact ihk2 (k2 + 1) v5 (by omega) (by rw [hv5]; exact mp_snow hik2 (by omega) (by omega)) hF
      refine z_aln C dX6_snows_8 0 rfl ?_
      refine z_iln C dX6_snows_9 1 rfl ?_
      refine z_cVi0 (As := [.int (nI k2)]) (rest := []) C (mX6_iceOf l X a x1 k2 (by omega)) gX6_snows_X6_iceOf rfl ⟨rfl, by decide, by decide, (by decide : (parseMethodDescriptor yX6_iceOf.desc).map (fun d => d.parameters.length) = some 1)⟩ ⟨by decide, by decide⟩ ⟨by decide, by decide⟩ 0 6 rfl rfl (Nat.le_of_ble_eq_true rfl) dX6_snows_10 rfl ?_
      obtain ⟨v6, hv6⟩ : ∃ z9v, z9v = ((fX6_iceOf x1 k2) : Int32) := ⟨_, rfl⟩
      have hv5 := hv5.trans (jn_at hv6)
      refine z_nm hv6 ?_
      refine z_isn C 2 [(2, .int v6), (0, .ref (a 0)), (1, .int (nI k2))] dX6_snows_13 rfl (by decide) rfl ?_
      refine z_aln C dX6_snows_14 1 rfl ?_
      refine z_get (v := .int (x1 10 2)) C 0 2 dX6_snows_15 rfl rfl rfl hX6 (by decide) (by decide +kernel) rfl ?_
      refine z_aln C dX6_snows_18 1 rfl ?_
      refine z_iln C dX6_snows_19 2 rfl ?_
      refine z_cVi0 (As := [.int (nI k2)]) (rest := [.int (x1 10 2)]) C (mX6_surfaceOf l X a x1 k2 (by omega)) gX6_snows_X6_surfaceOf rfl ⟨rfl, by decide, by decide, (by decide : (parseMethodDescriptor yX6_surfaceOf.desc).map (fun d => d.parameters.length) = some 1)⟩ ⟨by decide, by decide⟩ ⟨by decide, by decide⟩ 0 6 rfl rfl (Nat.le_of_ble_eq_true rfl) dX6_snows_20 rfl ?_
      refine z_ic C dX6_snows_23 1 (by decide) ?_
      refine z_ishr C dX6_snows_24 ((fX6_surfaceOf x1 k2) >>> (1 &&& 31)) rfl ?_
      refine z_isub C dX6_snows_25 ((x1 10 2) - ((fX6_surfaceOf x1 k2) >>> (1 &&& 31))) rfl ?_
      obtain ⟨v7, hv7⟩ : ∃ z9v, z9v = (((x1 10 2) - ((fX6_surfaceOf x1 k2) >>> (1 &&& 31))) : Int32) := ⟨_, rfl⟩
      have hv5 := hv5.trans (jn_at hv7)
      refine z_nm hv7 ?_
      refine z_isn C 3 [(3, .int v7), (2, .int v6), (0, .ref (a 0)), (1, .int (nI k2))] dX6_snows_26 rfl (by decide) rfl ?_
      refine z_aln C dX6_snows_27 2 rfl ?_
      refine z_get (v := .ref (a 1)) C 0 5 dX6_snows_28 rfl rfl rfl hX6 (by decide) (by decide +kernel) rfl ?_
      refine z_bp C dX6_snows_31 48 (by decide) ?_
      refine z_iln C dX6_snows_33 3 rfl ?_
      refine z_iadd C dX6_snows_34 (nI (48 + k2)) (nI_add 48 k2) ?_
      obtain ⟨v8, hv8⟩ : ∃ z9v, z9v = ((if 0 ≤ v7 then 0 else (if 0 < v6 then (x1 10 3) else (if (fX6_isInSea x1 k2) = 0 then (x1 10 3) else 0))) : Int32) := ⟨_, rfl⟩
      have hv5 := hv5.trans (jn_at hv8)
      have Jv8 : Z p l e { frames := 2, cells := 0, slots := 0, locals := 44 } s m args below meth c X A 8 Q 0 0 (MW a X x1) [(0, .ref (a 0)), (1, .int (nI k2)), (2, .int v6), (3, .int v7)] 59 [.int v8, .int (nI (48 + k2)), .ref (a 1)] := by
        refine z_iast (f := (x1 0)) C 1 (48 + k2) (MW a X (va_up x1 0 (upd (x1 0) (48 + k2) v8))) dX6_snows_59 rfl (by decide) rfl (by omega) rfl ?_
        obtain ⟨g12, hg12⟩ : ∃ z9v : zG, z9v = (va_up x1 0 (upd (x1 0) (48 + k2) v8)) := ⟨_, rfl⟩
        rw [← hg12]
        have hv5 := hv5.trans (jn_at hg12)
        refine z_aln C dX6_snows_60 0 rfl ?_
        refine z_get (v := .ref (a 1)) C 0 5 dX6_snows_61 rfl rfl rfl hX6 (by decide) (by decide +kernel) rfl ?_
        refine z_bp C dX6_snows_64 86 (by decide) ?_
        refine z_dup2 C dX6_snows_66 rfl rfl ?_
        refine z_iald (f := (g12 0)) C 1 86 dX6_snows_67 rfl (by decide) rfl (by omega) ?_
        refine z_aln C dX6_snows_68 0 rfl ?_
        refine z_get (v := .ref (a 1)) C 0 5 dX6_snows_69 rfl rfl rfl hX6 (by decide) (by decide +kernel) rfl ?_
        refine z_bp C dX6_snows_72 48 (by decide) ?_
        refine z_iln C dX6_snows_74 1 rfl ?_
        refine z_iadd C dX6_snows_75 (nI (48 + k2)) (nI_add 48 k2) ?_
        refine z_iald (f := (g12 0)) C 1 (48 + k2) dX6_snows_76 rfl (by decide) rfl (by omega) ?_
        refine z_iadd C dX6_snows_77 (((g12 0) 86) + ((g12 0) (48 + k2))) rfl ?_
        refine z_iast (f := (g12 0)) C 1 86 (MW a X (va_up g12 0 (upd (g12 0) 86 (((g12 0) 86) + ((g12 0) (48 + k2)))))) dX6_snows_78 rfl (by decide) rfl (by omega) rfl ?_
        obtain ⟨g13, hg13⟩ : ∃ z9v : zG, z9v = (va_up g12 0 (upd (g12 0) 86 (((g12 0) 86) + ((g12 0) (48 + k2))))) := ⟨_, rfl⟩
        rw [← hg13]
        have hv5 := hv5.trans (jn_at hg13)
        refine z_aln C dX6_snows_79 0 rfl ?_
        refine z_get (v := .ref (a 1)) C 0 5 dX6_snows_80 rfl rfl rfl hX6 (by decide) (by decide +kernel) rfl ?_
        refine z_bp C dX6_snows_83 100 (by decide) ?_
        refine z_bp C dX6_snows_85 61 (by decide) ?_
        refine z_iln C dX6_snows_87 1 rfl ?_
        refine z_imul C dX6_snows_88 (nI (61 * k2)) (pk_mul 61 k2) ?_
        refine z_iadd C dX6_snows_89 (nI (100 + (61 * k2))) (nI_add 100 (61 * k2)) ?_
        have hyr : g13 0 89 = nI yr := snow_yr hik2 hg12 hg13 (by omega)
        have hyr9 := mp_yr hik2
        refine z_aln C dX6_snows_90 0 rfl ?_
        refine z_get (v := .ref (a 1)) C 0 5 dX6_snows_91 rfl rfl rfl hX6 (by decide) (by decide +kernel) rfl ?_
        refine z_bp C dX6_snows_94 89 (by decide) ?_
        refine z_iald (f := (g13 0)) C 1 89 dX6_snows_96 rfl (by decide) rfl (by omega) ?_
        refine z_nm (show nI ((g13 0 89).toNatClampNeg) = ((g13 0) 89) from (by rw [hyr, nI_clamp (by omega)])) ?_
        refine z_iadd C dX6_snows_97 (nI ((100 + (61 * k2)) + (g13 0 89).toNatClampNeg)) (nI_add (100 + (61 * k2)) ((g13 0 89).toNatClampNeg)) ?_
        refine z_dup2 C dX6_snows_98 rfl rfl ?_
        refine z_iald (f := (g13 0)) C 1 ((100 + (61 * k2)) + (g13 0 89).toNatClampNeg) dX6_snows_99 rfl (by decide) rfl (by rw [hyr, nI_clamp (by omega)]; omega) ?_
        refine z_aln C dX6_snows_100 0 rfl ?_
        refine z_get (v := .ref (a 1)) C 0 5 dX6_snows_101 rfl rfl rfl hX6 (by decide) (by decide +kernel) rfl ?_
        refine z_bp C dX6_snows_104 48 (by decide) ?_
        refine z_iln C dX6_snows_106 1 rfl ?_
        refine z_iadd C dX6_snows_107 (nI (48 + k2)) (nI_add 48 k2) ?_
        refine z_iald (f := (g13 0)) C 1 (48 + k2) dX6_snows_108 rfl (by decide) rfl (by omega) ?_
        refine z_iadd C dX6_snows_109 (((g13 0) ((100 + (61 * k2)) + (g13 0 89).toNatClampNeg)) + ((g13 0) (48 + k2))) rfl ?_
        refine z_iast (f := (g13 0)) C 1 ((100 + (61 * k2)) + (g13 0 89).toNatClampNeg) (MW a X (va_up g13 0 (upd (g13 0) ((100 + (61 * k2)) + (g13 0 89).toNatClampNeg) (((g13 0) ((100 + (61 * k2)) + (g13 0 89).toNatClampNeg)) + ((g13 0) (48 + k2)))))) dX6_snows_110 rfl (by decide) rfl (by rw [hyr, nI_clamp (by omega)]; omega) rfl ?_
        obtain ⟨g14, hg14⟩ : ∃ z9v : zG, z9v = (va_up g13 0 (upd (g13 0) ((100 + (61 * k2)) + (g13 0 89).toNatClampNeg) (((g13 0) ((100 + (61 * k2)) + (g13 0 89).toNatClampNeg)) + ((g13 0) (48 + k2))))) := ⟨_, rfl⟩
        rw [← hg14]
        have hv5 := hv5.trans (jn_at hg14)
        obtain ⟨v15, hv15⟩ : ∃ z9v, z9v = ((if v7 ≤ 0 then 0 else ((v7 * (g14 10 4)) / 10)) : Int32) := ⟨_, rfl⟩
        have hv5 := hv5.trans (jn_at hv15)
        have Jv15 : Z p l e { frames := 2, cells := 0, slots := 0, locals := 44 } s m args below meth c X A 8 Q 0 0 (MW a X g14) [(0, .ref (a 0)), (1, .int (nI k2)), (2, .int v6), (3, .int v7)] 128 [.int v15] := by
          refine z_is C [(4, .int v15), (0, .ref (a 0)), (1, .int (nI k2)), (2, .int v6), (3, .int v7)] dX6_snows_128 (by decide) rfl ?_
          obtain ⟨v17, hv17⟩ : ∃ z9v, z9v = ((if v6 ≤ v15 then (if v7 ≤ 0 then 0 else v6) else v15) : Int32) := ⟨_, rfl⟩
          have hv5 := hv5.trans (jn_at hv17)
          have Jv17 : Z p l e { frames := 2, cells := 0, slots := 0, locals := 44 } s m args below meth c X A 8 Q 0 0 (MW a X g14) [(0, .ref (a 0)), (1, .int (nI k2)), (2, .int v6), (3, .int v7), (4, .int v15)] 150 [.int v17] := by
            refine z_is C [(4, .int v17), (0, .ref (a 0)), (1, .int (nI k2)), (2, .int v6), (3, .int v7)] dX6_snows_150 (by decide) rfl ?_
            refine z_aln C dX6_snows_152 1 rfl ?_
            refine z_get (v := .ref (a 1)) C 0 5 dX6_snows_153 rfl rfl rfl hX6 (by decide) (by decide +kernel) rfl ?_
            refine z_bp C dX6_snows_156 24 (by decide) ?_
            refine z_iln C dX6_snows_158 2 rfl ?_
            refine z_iadd C dX6_snows_159 (nI (24 + k2)) (nI_add 24 k2) ?_
            refine z_dup2 C dX6_snows_160 rfl rfl ?_
            refine z_iald (f := (g14 0)) C 1 (24 + k2) dX6_snows_161 rfl (by decide) rfl (by omega) ?_
            refine z_il C dX6_snows_162 0 rfl ?_
            refine z_iadd C dX6_snows_164 (((g14 0) (24 + k2)) + v17) rfl ?_
            refine z_iast (f := (g14 0)) C 1 (24 + k2) (MW a X (va_up g14 0 (upd (g14 0) (24 + k2) (((g14 0) (24 + k2)) + v17)))) dX6_snows_165 rfl (by decide) rfl (by omega) rfl ?_
            obtain ⟨g20, hg20⟩ : ∃ z9v : zG, z9v = (va_up g14 0 (upd (g14 0) (24 + k2) (((g14 0) (24 + k2)) + v17))) := ⟨_, rfl⟩
            rw [← hg20]
            have hv5 := hv5.trans (jn_at hg20)
            refine z_aln C dX6_snows_166 1 rfl ?_
            refine z_get (v := .ref (a 1)) C 0 5 dX6_snows_167 rfl rfl rfl hX6 (by decide) (by decide +kernel) rfl ?_
            refine z_bp C dX6_snows_170 88 (by decide) ?_
            refine z_dup2 C dX6_snows_172 rfl rfl ?_
            refine z_iald (f := (g20 0)) C 1 88 dX6_snows_173 rfl (by decide) rfl (by omega) ?_
            refine z_il C dX6_snows_174 0 rfl ?_
            refine z_iadd C dX6_snows_176 (((g20 0) 88) + v17) rfl ?_
            refine z_iast (f := (g20 0)) C 1 88 (MW a X (va_up g20 0 (upd (g20 0) 88 (((g20 0) 88) + v17)))) dX6_snows_177 rfl (by decide) rfl (by omega) rfl ?_
            obtain ⟨g21, hg21⟩ : ∃ z9v : zG, z9v = (va_up g20 0 (upd (g20 0) 88 (((g20 0) 88) + v17))) := ⟨_, rfl⟩
            rw [← hg21]
            have hv5 := hv5.trans (jn_at hg21)
            refine z_bp C dX6_snows_178 60 (by decide) ?_
            refine z_is C [(5, .int 60), (4, .int v17), (0, .ref (a 0)), (1, .int (nI k2)), (2, .int v6), (3, .int v7)] dX6_snows_180 (by decide) rfl ?_
            obtain ⟨v22, hv22⟩ : ∃ z9v, z9v = ((fX6_snows_L182 k2 61 v17 g21) : zG) := ⟨_, rfl⟩
            have hv5 := hv5.trans (jn_at hv22)
            have Jv22 : Z p l e { frames := 2, cells := 0, slots := 0, locals := 44 } s m args below meth c X A 8 Q 0 0 (MW a X v22) [(0, .ref (a 0)), (1, .int (nI k2))] 250 [] := by
              rw [hv5] at Jv5
              exact Jv5
            refine z_lv [2, 3, 4, 5, 1, 0] [(0, .ref (a 0)), (1, .int (nI k2)), (2, .int v6), (3, .int v7), (4, .int v17), (5, .int 60)] rfl ?_
            have LPk25 : ∀ (nk25 : Nat) (x23 : Int32) (x24 : zG), nk25 ≤ 61 → (TD (x24 0) k2 nk25 x23) → v22 = fX6_snows_L182 k2 nk25 x23 x24 → Z p l e { frames := 2, cells := 0, slots := 0, locals := 44 } s m args below meth c X A 8 Q 0 0 (MW a X x24) [(0, .ref (a 0)), (1, .int (nI k2)), (2, .int v6), (3, .int v7), (4, .int x23), (5, .int (nI nk25 - 1))] 182 [] := by
              intro nk25
              induction nk25 with
              | zero =>
                intro x23 x24 hkk25 hik25 hv22
                show Z p l e { frames := 2, cells := 0, slots := 0, locals := 44 } s m args below meth c X A 8 Q 0 0 (MW a X x24) [(0, .ref (a 0)), (1, .int (nI k2)), (2, .int v6), (3, .int v7), (4, .int x23), (5, .int (-1))] 182 []
                refine z_il C dX6_snows_182 4 rfl ?_
                refine z_if_le C 250 dX6_snows_184 (by decide) (fun c26 => ?_) (fun c26 => ?_)
                rotate_left
                · exact absurd (td_zero hik25) c26
                refine z_lv [0, 1] [(0, .ref (a 0)), (1, .int (nI k2))] rfl ?_
                rw [hv22] at Jv22
                exact Jv22
              | succ nk25 ihk25 =>
                intro x23 x24 hkk25 hik25 hv22
                rw [nI_pred]
                refine z_il C dX6_snows_182 4 rfl ?_
                refine z_if_le C 250 dX6_snows_184 (by decide) (fun c27 => ?_) (fun c27 => ?_)
                · have hv22 := hv22.trans (if_pos c27)
                  refine z_lv [0, 1] [(0, .ref (a 0)), (1, .int (nI k2))] rfl ?_
                  rw [hv22] at Jv22
                  exact Jv22
                · have hv22 := hv22.trans (if_neg c27)
                  refine z_bp C dX6_snows_187 100 (by decide) ?_
                  refine z_bp C dX6_snows_189 61 (by decide) ?_
                  refine z_iln C dX6_snows_191 1 rfl ?_
                  refine z_imul C dX6_snows_192 (nI (61 * k2)) (pk_mul 61 k2) ?_
                  refine z_iadd C dX6_snows_193 (nI (100 + (61 * k2))) (nI_add 100 (61 * k2)) ?_
                  refine z_il C dX6_snows_194 5 rfl ?_
                  refine z_iadd C dX6_snows_196 (nI ((100 + (61 * k2)) + nk25)) (nI_add (100 + (61 * k2)) nk25) ?_
                  refine z_is C [(6, .int (nI ((100 + (61 * k2)) + nk25))), (0, .ref (a 0)), (1, .int (nI k2)), (2, .int v6), (3, .int v7), (4, .int x23), (5, .int (nI nk25))] dX6_snows_197 (by decide) rfl ?_
                  obtain ⟨v28, hv28⟩ : ∃ z9v, z9v = ((if x23 ≤ ((x24 0) ((100 + (61 * k2)) + nk25)) then x23 else ((x24 0) ((100 + (61 * k2)) + nk25))) : Int32) := ⟨_, rfl⟩
                  have hv22 := hv22.trans (jn_at hv28)
                  have Jv28 : Z p l e { frames := 2, cells := 0, slots := 0, locals := 44 } s m args below meth c X A 8 Q 0 0 (MW a X x24) [(0, .ref (a 0)), (1, .int (nI k2)), (2, .int v6), (3, .int v7), (4, .int x23), (5, .int (nI nk25)), (6, .int (nI ((100 + (61 * k2)) + nk25)))] 223 [.int v28] := by
                    refine z_is C [(7, .int v28), (0, .ref (a 0)), (1, .int (nI k2)), (2, .int v6), (3, .int v7), (4, .int x23), (5, .int (nI nk25)), (6, .int (nI ((100 + (61 * k2)) + nk25)))] dX6_snows_223 (by decide) rfl ?_
                    refine z_aln C dX6_snows_225 1 rfl ?_
                    refine z_get (v := .ref (a 1)) C 0 5 dX6_snows_226 rfl rfl rfl hX6 (by decide) (by decide +kernel) rfl ?_
                    refine z_il C dX6_snows_229 7 rfl ?_
                    refine z_dup2 C dX6_snows_231 rfl rfl ?_
                    refine z_iald (f := (x24 0)) C 1 ((100 + (61 * k2)) + nk25) dX6_snows_232 rfl (by decide) rfl (by omega) ?_
                    refine z_il C dX6_snows_233 0 rfl ?_
                    refine z_isub C dX6_snows_235 (((x24 0) ((100 + (61 * k2)) + nk25)) - v28) rfl ?_
                    refine z_iast (f := (x24 0)) C 1 ((100 + (61 * k2)) + nk25) (MW a X (va_up x24 0 (upd (x24 0) ((100 + (61 * k2)) + nk25) (((x24 0) ((100 + (61 * k2)) + nk25)) - v28)))) dX6_snows_236 rfl (by decide) rfl (by omega) rfl ?_
                    refine z_il C dX6_snows_237 5 rfl ?_
                    refine z_il C dX6_snows_239 0 rfl ?_
                    refine z_isub C dX6_snows_241 (x23 - v28) rfl ?_
                    refine z_is C [(4, .int (x23 - v28)), (7, .int v28), (0, .ref (a 0)), (1, .int (nI k2)), (2, .int v6), (3, .int v7), (5, .int (nI nk25)), (6, .int (nI ((100 + (61 * k2)) + nk25)))] dX6_snows_242 (by decide) rfl ?_
                    refine z_inc C 6 (nI nk25 - 1) [(5, .int (nI nk25 - 1)), (4, .int (x23 - v28)), (7, .int v28), (0, .ref (a 0)), (1, .int (nI k2)), (2, .int v6), (3, .int v7), (6, .int (nI ((100 + (61 * k2)) + nk25)))] dX6_snows_244 rfl (zn_dn nk25) (by decide) rfl ?_
                    refine z_go C 182 dX6_snows_247 (by decide) ?_
                    refine z_lv [3, 4, 5, 6, 1, 0] [(0, .ref (a 0)), (1, .int (nI k2)), (2, .int v6), (3, .int v7), (4, .int (x23 - v28)), (5, .int (nI nk25 - 1))] rfl ?_
                    exact ihk25 (x23 - v28) (va_up x24 0 (upd (x24 0) ((100 + (61 * k2)) + nk25) (((x24 0) ((100 + (61 * k2)) + nk25)) - v28))) (by omega) (td_step hik25 c27 hv28) hv22
                  refine z_aln C dX6_snows_199 1 rfl ?_
                  refine z_get (v := .ref (a 1)) C 0 5 dX6_snows_200 rfl rfl rfl hX6 (by decide) (by decide +kernel) rfl ?_
                  refine z_il C dX6_snows_203 0 rfl ?_
                  refine z_iald (f := (x24 0)) C 1 ((100 + (61 * k2)) + nk25) dX6_snows_205 rfl (by decide) rfl (by omega) ?_
                  refine z_il C dX6_snows_206 5 rfl ?_
                  refine z_ic_ge C 221 dX6_snows_208 (by decide) (fun c29 => ?_) (fun c29 => ?_)
                  · have hv28 := hv28.trans (if_pos c29)
                    refine z_il C dX6_snows_221 5 rfl ?_
                    refine z_lv [1, 2, 3, 4, 5, 6, 0] [(0, .ref (a 0)), (1, .int (nI k2)), (2, .int v6), (3, .int v7), (4, .int x23), (5, .int (nI nk25)), (6, .int (nI ((100 + (61 * k2)) + nk25)))] rfl ?_
                    rw [hv28] at Jv28
                    exact Jv28
                  · have hv28 := hv28.trans (if_neg c29)
                    refine z_aln C dX6_snows_211 1 rfl ?_
                    refine z_get (v := .ref (a 1)) C 0 5 dX6_snows_212 rfl rfl rfl hX6 (by decide) (by decide +kernel) rfl ?_
                    refine z_il C dX6_snows_215 0 rfl ?_
                    refine z_iald (f := (x24 0)) C 1 ((100 + (61 * k2)) + nk25) dX6_snows_217 rfl (by decide) rfl (by omega) ?_
                    refine z_go C 223 dX6_snows_218 (by decide) ?_
                    refine z_lv [1, 2, 3, 4, 5, 6, 0] [(0, .ref (a 0)), (1, .int (nI k2)), (2, .int v6), (3, .int v7), (4, .int x23), (5, .int (nI nk25)), (6, .int (nI ((100 + (61 * k2)) + nk25)))] rfl ?_
                    rw [hv28] at Jv28
                    exact Jv28
            exact LPk25 61 v17 g21 (by omega) (snow_td hik2 (by omega) (by omega) hg12 hg13 hg14 hg20 hg21 hv6 hv7 hv8 hv15 hv17) hv22
          refine z_il C dX6_snows_130 0 rfl ?_
          refine z_iln C dX6_snows_132 3 rfl ?_
          refine z_ic_ge C 141 dX6_snows_133 (by decide) (fun c18 => ?_) (fun c18 => ?_)
          · have hv17 := hv17.trans (if_pos c18)
            refine z_iln C dX6_snows_141 4 rfl ?_
            refine z_if_le C 149 dX6_snows_142 (by decide) (fun c19 => ?_) (fun c19 => ?_)
            · have hv17 := hv17.trans (if_pos c19)
              refine z_ic C dX6_snows_149 0 (by decide) ?_
              refine z_lv [1, 2, 3, 4, 0] [(0, .ref (a 0)), (1, .int (nI k2)), (2, .int v6), (3, .int v7), (4, .int v15)] rfl ?_
              rw [hv17] at Jv17
              exact Jv17
            · have hv17 := hv17.trans (if_neg c19)
              refine z_iln C dX6_snows_145 3 rfl ?_
              refine z_go C 150 dX6_snows_146 (by decide) ?_
              refine z_lv [1, 2, 3, 4, 0] [(0, .ref (a 0)), (1, .int (nI k2)), (2, .int v6), (3, .int v7), (4, .int v15)] rfl ?_
              rw [hv17] at Jv17
              exact Jv17
          · have hv17 := hv17.trans (if_neg c18)
            refine z_il C dX6_snows_136 0 rfl ?_
            refine z_go C 150 dX6_snows_138 (by decide) ?_
            refine z_lv [1, 2, 3, 4, 0] [(0, .ref (a 0)), (1, .int (nI k2)), (2, .int v6), (3, .int v7), (4, .int v15)] rfl ?_
            rw [hv17] at Jv17
            exact Jv17
        refine z_iln C dX6_snows_111 3 rfl ?_
        refine z_if_le C 127 dX6_snows_112 (by decide) (fun c16 => ?_) (fun c16 => ?_)
        · have hv15 := hv15.trans (if_pos c16)
          refine z_ic C dX6_snows_127 0 (by decide) ?_
          rw [hv15] at Jv15
          exact Jv15
        · have hv15 := hv15.trans (if_neg c16)
          refine z_iln C dX6_snows_115 3 rfl ?_
          refine z_aln C dX6_snows_116 0 rfl ?_
          refine z_get (v := .int (g14 10 4)) C 0 4 dX6_snows_117 rfl rfl rfl hX6 (by decide) (by decide +kernel) rfl ?_
          refine z_imul C dX6_snows_120 (v7 * (g14 10 4)) rfl ?_
          refine z_bp C dX6_snows_121 10 (by decide) ?_
          refine z_idiv C dX6_snows_123 (by decide) ((v7 * (g14 10 4)) / 10) rfl ?_
          refine z_go C 128 dX6_snows_124 (by decide) ?_
          rw [hv15] at Jv15
          exact Jv15
      refine z_iln C dX6_snows_35 0 rfl ?_
      refine z_if_ge C 58 dX6_snows_36 (by decide) (fun c9 => ?_) (fun c9 => ?_)
      · have hv8 := hv8.trans (if_pos c9)
        refine z_ic C dX6_snows_58 0 (by decide) ?_
        refine z_lv [2, 3, 1, 0] [(0, .ref (a 0)), (1, .int (nI k2)), (2, .int v6), (3, .int v7)] rfl ?_
        rw [hv8] at Jv8
        exact Jv8
      · have hv8 := hv8.trans (if_neg c9)
        refine z_iln C dX6_snows_39 1 rfl ?_
        refine z_if_gt C 51 dX6_snows_40 (by decide) (fun c10 => ?_) (fun c10 => ?_)
        · have hv8 := hv8.trans (if_pos c10)
          refine z_aln C dX6_snows_51 2 rfl ?_
          refine z_get (v := .int (x1 10 3)) C 0 3 dX6_snows_52 rfl rfl rfl hX6 (by decide) (by decide +kernel) rfl ?_
          refine z_go C 59 dX6_snows_55 (by decide) ?_
          refine z_lv [2, 3, 1, 0] [(0, .ref (a 0)), (1, .int (nI k2)), (2, .int v6), (3, .int v7)] rfl ?_
          rw [hv8] at Jv8
          exact Jv8
        · have hv8 := hv8.trans (if_neg c10)
          refine z_aln C dX6_snows_43 2 rfl ?_
          refine z_iln C dX6_snows_44 3 rfl ?_
          refine z_cVi0 (As := [.int (nI k2)]) (rest := [.int (nI (48 + k2)), .ref (a 1)]) C (mX6_isInSea l X a x1 k2 (by omega)) gX6_snows_X6_isInSea rfl ⟨rfl, by decide, by decide, (by decide : (parseMethodDescriptor yX6_isInSea.desc).map (fun d => d.parameters.length) = some 1)⟩ ⟨by decide, by decide⟩ ⟨by decide, by decide⟩ 0 6 rfl rfl (Nat.le_of_ble_eq_true rfl) dX6_snows_45 rfl ?_
          refine z_if_ne C 58 dX6_snows_48 (by decide) (fun c11 => ?_) (fun c11 => ?_)
          · have hv8 := hv8.trans (if_neg c11)
            refine z_ic C dX6_snows_58 0 (by decide) ?_
            refine z_lv [2, 3, 1, 0] [(0, .ref (a 0)), (1, .int (nI k2)), (2, .int v6), (3, .int v7)] rfl ?_
            rw [hv8] at Jv8
            exact Jv8
          · have hv8 := hv8.trans (if_pos c11)
            refine z_aln C dX6_snows_51 2 rfl ?_
            refine z_get (v := .int (x1 10 3)) C 0 3 dX6_snows_52 rfl rfl rfl hX6 (by decide) (by decide +kernel) rfl ?_
            refine z_go C 59 dX6_snows_55 (by decide) ?_
            refine z_lv [2, 3, 1, 0] [(0, .ref (a 0)), (1, .int (nI k2)), (2, .int v6), (3, .int v7)] rfl ?_
            rw [hv8] at Jv8
            exact Jv8
  exact LPk2 12 0 g (by omega) hy0 hF
set_option maxHeartbeats 4000000 in
set_option maxRecDepth 100000 in
theorem mX6_flowOf (l : Launch) (X : zX) (a : Nat → Nat) (g : zG) (k : Nat) (j : Nat) (hy0 : k < 12) (hy1 : j < 12) : CI l yX6_flowOf wsX6_flowOf 2 44 0 0 X (MW a X g) [.ref (a 0), .int (nI k), .int (nI j)] (fX6_flowOf g k j) (MW a X g) := by
  obtain ⟨res, hF⟩ : ∃ z9r, z9r = fX6_flowOf g k j := ⟨_, rfl⟩
  rw [← hF]
  refine ci_intro (cc := cX6_flowOf) (ret := (some .int)) (maxL := 6) (by decide +kernel) rfl (Nat.le_of_ble_eq_true rfl) ?_
  intro p e s m args below meth c A Q C hQ
  have hX6 : ∀ w ∈ wsX60, w ∈ wsX6_flowOf := by decide +kernel
  show Z p l e { frames := 2, cells := 0, slots := 0, locals := 44 } s m args below meth c X A 6 Q 0 0 (MW a X g) [(0, .ref (a 0)), (1, .int (nI k)), (2, .int (nI j))] 0 []
  refine z_aln C dX6_flowOf_0 0 rfl ?_
  refine z_iln C dX6_flowOf_1 1 rfl ?_
  refine z_cVi0 (As := [.int (nI k)]) (rest := []) C (mX6_iceOf l X a g k (by omega)) gX6_flowOf_X6_iceOf rfl ⟨rfl, by decide, by decide, (by decide : (parseMethodDescriptor yX6_iceOf.desc).map (fun d => d.parameters.length) = some 1)⟩ ⟨by decide, by decide⟩ ⟨by decide, by decide⟩ 0 6 rfl rfl (Nat.le_of_ble_eq_true rfl) dX6_flowOf_2 rfl ?_
  obtain ⟨v1, hv1⟩ : ∃ z9v, z9v = ((fX6_iceOf g k) : Int32) := ⟨_, rfl⟩
  have hF := hF.trans (jn_at hv1)
  refine z_nm hv1 ?_
  refine z_isn C 3 [(3, .int v1), (0, .ref (a 0)), (1, .int (nI k)), (2, .int (nI j))] dX6_flowOf_5 rfl (by decide) rfl ?_
  refine z_aln C dX6_flowOf_6 1 rfl ?_
  refine z_iln C dX6_flowOf_7 2 rfl ?_
  refine z_cVi0 (As := [.int (nI k)]) (rest := []) C (mX6_surfaceOf l X a g k (by omega)) gX6_flowOf_X6_surfaceOf rfl ⟨rfl, by decide, by decide, (by decide : (parseMethodDescriptor yX6_surfaceOf.desc).map (fun d => d.parameters.length) = some 1)⟩ ⟨by decide, by decide⟩ ⟨by decide, by decide⟩ 0 6 rfl rfl (Nat.le_of_ble_eq_true rfl) dX6_flowOf_8 rfl ?_
  refine z_aln C dX6_flowOf_11 1 rfl ?_
  refine z_iln C dX6_flowOf_12 3 rfl ?_
  refine z_cVi0 (As := [.int (nI j)]) (rest := [.int (fX6_surfaceOf g k)]) C (mX6_surfaceOf l X a g j (by omega)) gX6_flowOf_X6_surfaceOf rfl ⟨rfl, by decide, by decide, (by decide : (parseMethodDescriptor yX6_surfaceOf.desc).map (fun d => d.parameters.length) = some 1)⟩ ⟨by decide, by decide⟩ ⟨by decide, by decide⟩ 0 6 rfl rfl (Nat.le_of_ble_eq_true rfl) dX6_flowOf_13 rfl ?_
  refine z_isub C dX6_flowOf_16 ((fX6_surfaceOf g k) - (fX6_surfaceOf g j)) rfl ?_
  refine z_i2l C dX6_flowOf_17 ((fX6_surfaceOf g k) - (fX6_surfaceOf g j)).toInt64 rfl ?_
  refine z_iln C dX6_flowOf_18 0 rfl ?_
  refine z_i2l C dX6_flowOf_19 v1.toInt64 rfl ?_
  refine z_lmul C dX6_flowOf_20 (((fX6_surfaceOf g k) - (fX6_surfaceOf g j)).toInt64 * v1.toInt64) rfl ?_
  refine z_ldc2 C (v := 200) dX6_flowOf_21 (by decide +kernel) ?_
  refine z_ldiv C dX6_flowOf_24 (by decide) ((((fX6_surfaceOf g k) - (fX6_surfaceOf g j)).toInt64 * v1.toInt64) / 200) rfl ?_
  obtain ⟨v2, hv2⟩ : ∃ z9v, z9v = (((((fX6_surfaceOf g k) - (fX6_surfaceOf g j)).toInt64 * v1.toInt64) / 200) : Int64) := ⟨_, rfl⟩
  have hF := hF.trans (jn_at hv2)
  refine z_nml hv2 ?_
  refine z_ls C [(4, .long v2), (3, .int v1), (0, .ref (a 0)), (1, .int (nI k)), (2, .int (nI j))] dX6_flowOf_25 (by decide) rfl ?_
  obtain ⟨v3, hv3⟩ : ∃ z9v, z9v = ((if ((g 0) (24 + k)) < 4 then v2 else (2 * v2)) : Int64) := ⟨_, rfl⟩
  have hF := hF.trans (jn_at hv3)
  have Jv3 : Z p l e { frames := 2, cells := 0, slots := 0, locals := 44 } s m args below meth c X A 6 Q 0 0 (MW a X g) [(0, .ref (a 0)), (1, .int (nI k)), (2, .int (nI j)), (3, .int v1), (4, .long v2)] 51 [.long v3] := by
    refine z_ls C [(4, .long v3), (0, .ref (a 0)), (1, .int (nI k)), (2, .int (nI j)), (3, .int v1)] dX6_flowOf_51 (by decide) rfl ?_
    obtain ⟨v5, hv5⟩ : ∃ z9v, z9v = ((if 0 ≤ (lg_cmp v3 ((v1 / 4).toInt64)) then (v1 / 4) else v3.toInt32) : Int32) := ⟨_, rfl⟩
    have hF := hF.trans (jn_at hv5)
    have Jv5 : Z p l e { frames := 2, cells := 0, slots := 0, locals := 44 } s m args below meth c X A 6 Q 0 0 (MW a X g) [(0, .ref (a 0)), (1, .int (nI k)), (2, .int (nI j)), (3, .int v1), (4, .long v3)] 72 [.int v5] := by
      exact z_iret C hQ dX6_flowOf_72 (by rw [hF]; first | done | rfl) rfl (by decide) (by decide)
    refine z_ll C dX6_flowOf_53 0 rfl ?_
    refine z_iln C dX6_flowOf_55 4 rfl ?_
    refine z_ic C dX6_flowOf_56 4 (by decide) ?_
    refine z_idiv C dX6_flowOf_57 (by decide) (v1 / 4) rfl ?_
    refine z_i2l C dX6_flowOf_58 (v1 / 4).toInt64 rfl ?_
    refine z_lcmp C dX6_flowOf_59 ?_
    refine z_if_ge C 69 dX6_flowOf_60 (by decide) (fun c6 => ?_) (fun c6 => ?_)
    · have hv5 := hv5.trans (if_pos c6)
      refine z_iln C dX6_flowOf_69 4 rfl ?_
      refine z_ic C dX6_flowOf_70 4 (by decide) ?_
      refine z_idiv C dX6_flowOf_71 (by decide) (v1 / 4) rfl ?_
      refine z_lv [1, 2, 3, 4, 0] [(0, .ref (a 0)), (1, .int (nI k)), (2, .int (nI j)), (3, .int v1), (4, .long v3)] rfl ?_
      rw [hv5] at Jv5
      exact Jv5
    · have hv5 := hv5.trans (if_neg c6)
      refine z_ll C dX6_flowOf_63 0 rfl ?_
      refine z_l2i C dX6_flowOf_65 v3.toInt32 rfl ?_
      refine z_go C 72 dX6_flowOf_66 (by decide) ?_
      refine z_lv [1, 2, 3, 4, 0] [(0, .ref (a 0)), (1, .int (nI k)), (2, .int (nI j)), (3, .int v1), (4, .long v3)] rfl ?_
      rw [hv5] at Jv5
      exact Jv5
  refine z_aln C dX6_flowOf_27 2 rfl ?_
  refine z_get (v := .ref (a 1)) C 0 5 dX6_flowOf_28 rfl rfl rfl hX6 (by decide) (by decide +kernel) rfl ?_
  refine z_bp C dX6_flowOf_31 24 (by decide) ?_
  refine z_iln C dX6_flowOf_33 3 rfl ?_
  refine z_iadd C dX6_flowOf_34 (nI (24 + k)) (nI_add 24 k) ?_
  refine z_iald (f := (g 0)) C 1 (24 + k) dX6_flowOf_35 rfl (by decide) rfl (by omega) ?_
  refine z_ic C dX6_flowOf_36 4 (by decide) ?_
  refine z_ic_lt C 49 dX6_flowOf_37 (by decide) (fun c4 => ?_) (fun c4 => ?_)
  · have hv3 := hv3.trans (if_pos c4)
    refine z_ll C dX6_flowOf_49 0 rfl ?_
    refine z_lv [2, 3, 4, 1, 0] [(0, .ref (a 0)), (1, .int (nI k)), (2, .int (nI j)), (3, .int v1), (4, .long v2)] rfl ?_
    rw [hv3] at Jv3
    exact Jv3
  · have hv3 := hv3.trans (if_neg c4)
    refine z_ldc2 C (v := 2) dX6_flowOf_40 (by decide +kernel) ?_
    refine z_ll C dX6_flowOf_43 0 rfl ?_
    refine z_lmul C dX6_flowOf_45 (2 * v2) rfl ?_
    refine z_go C 51 dX6_flowOf_46 (by decide) ?_
    refine z_lv [2, 3, 4, 1, 0] [(0, .ref (a 0)), (1, .int (nI k)), (2, .int (nI j)), (3, .int v1), (4, .long v2)] rfl ?_
    rw [hv3] at Jv3
    exact Jv3
set_option maxHeartbeats 4000000 in
set_option maxRecDepth 100000 in
theorem mX6_flows (l : Launch) (X : zX) (a : Nat → Nat) (g : zG) (b yr fb bb : Nat) (hy0 : MP g b yr fb bb) (hy1 : b ≤ 1000000) (hy2 : bb ≤ 1000) : CV l yX6_flows wsX6_flows 3 69 0 0 X (MW a X g) [.ref (a 0)] (MW a X (fX6_flows g)) := by
  obtain ⟨res, hF⟩ : ∃ z9r, z9r = fX6_flows g := ⟨_, rfl⟩
  rw [← hF]
  refine cu_intro (cc := cX6_flows) (ret := none) (maxL := 7) (by decide +kernel) rfl (Nat.le_of_ble_eq_true rfl) ?_
  intro p e s m args below meth c A Q C hQ
  have hX6 : ∀ w ∈ wsX60, w ∈ wsX6_flows := by decide +kernel
  show Z p l e { frames := 3, cells := 0, slots := 0, locals := 69 } s m args below meth c X A 7 Q 0 0 (MW a X g) [(0, .ref (a 0))] 0 []
  refine z_ic C dX6_flows_0 0 (by decide) ?_
  refine z_isn C 1 [(1, .int 0), (0, .ref (a 0))] dX6_flows_1 rfl (by decide) rfl ?_
  refine z_lv [1, 0] [(0, .ref (a 0)), (1, .int 0)] rfl ?_
  have LPk2 : ∀ (nk2 k2 : Nat) (x1 : zG), k2 + nk2 = 12 → (MP x1 b yr fb bb) → res = fX6_flows_L2 nk2 k2 x1 → Z p l e { frames := 3, cells := 0, slots := 0, locals := 69 } s m args below meth c X A 7 Q 0 0 (MW a X x1) [(0, .ref (a 0)), (1, .int (nI k2))] 2 [] := by
    intro nk2
    induction nk2 with
    | zero =>
      intro k2 x1 hkk2 hik2 hF
      refine z_iln C dX6_flows_2 1 rfl ?_
      refine z_bp C dX6_flows_3 12 (by decide) ?_
      refine z_ic_geN C k2 12 34 dX6_flows_5 (by decide) rfl rfl (by omega) (by omega) (fun c3 => ?_) (fun c3 => ?_)
      rotate_left
      · exact absurd c3 (by omega)
      refine z_ic C dX6_flows_34 0 (by decide) ?_
      refine z_isn C 1 [(1, .int 0), (0, .ref (a 0))] dX6_flows_35 rfl (by decide) rfl ?_
      refine z_lv [1, 0] [(0, .ref (a 0)), (1, .int 0)] rfl ?_
      have LPk5 : ∀ (nk5 k5 : Nat) (x4 : zG), k5 + nk5 = 11 → (MP x4 b yr fb bb ∧ FA x4 k5) → res = fX6_flows_L36 nk5 k5 x4 → Z p l e { frames := 3, cells := 0, slots := 0, locals := 69 } s m args below meth c X A 7 Q 0 0 (MW a X x4) [(0, .ref (a 0)), (1, .int (nI k5))] 36 [] := by
        intro nk5
        induction nk5 with
        | zero =>
          intro k5 x4 hkk5 hik5 hF
          refine z_iln C dX6_flows_36 1 rfl ?_
          refine z_bp C dX6_flows_37 11 (by decide) ?_
          refine z_ic_geN C k5 11 102 dX6_flows_39 (by decide) rfl rfl (by omega) (by omega) (fun c6 => ?_) (fun c6 => ?_)
          rotate_left
          · exact absurd c6 (by omega)
          refine z_ic C dX6_flows_102 0 (by decide) ?_
          refine z_isn C 1 [(1, .int 0), (0, .ref (a 0))] dX6_flows_103 rfl (by decide) rfl ?_
          refine z_lv [1, 0] [(0, .ref (a 0)), (1, .int 0)] rfl ?_
          have LPk8 : ∀ (nk8 k8 : Nat) (x7 : zG), k8 + nk8 = 11 → (MP x7 b yr fb bb ∧ ∃ q : Nat → Int, FB x7 q k8) → res = fX6_flows_L104 nk8 k8 x7 → Z p l e { frames := 3, cells := 0, slots := 0, locals := 69 } s m args below meth c X A 7 Q 0 0 (MW a X x7) [(0, .ref (a 0)), (1, .int (nI k8))] 104 [] := by
            intro nk8
            induction nk8 with
            | zero =>
              intro k8 x7 hkk8 hik8 hF
              refine z_iln C dX6_flows_104 1 rfl ?_
              refine z_bp C dX6_flows_105 11 (by decide) ?_
              refine z_ic_geN C k8 11 290 dX6_flows_107 (by decide) rfl rfl (by omega) (by omega) (fun c9 => ?_) (fun c9 => ?_)
              rotate_left
              · exact absurd c9 (by omega)
              exact z_vret C hQ () dX6_flows_290 (by rw [hF]; first | done | rfl) (by decide) (by decide)
            | succ nk8 ihk8 =>
              intro k8 x7 hkk8 hik8 hF
              refine z_iln C dX6_flows_104 1 rfl ?_
              refine z_bp C dX6_flows_105 11 (by decide) ?_
              refine z_ic_geN C k8 11 290 dX6_flows_107 (by decide) rfl rfl (by omega) (by omega) (fun c10 => ?_) (fun c10 => ?_)
              · exact absurd c10 (by omega)
              obtain ⟨v11, hv11⟩ : ∃ z9v, z9v = ((mFlowB k8 x7) : zG) := ⟨_, rfl⟩
              have hF := hF.trans (jn_at hv11)
              have Jv11 : Z p l e { frames := 3, cells := 0, slots := 0, locals := 69 } s m args below meth c X A 7 Q 0 0 (MW a X v11) [(0, .ref (a 0)), (1, .int (nI k8))] 284 [] := by
                refine z_inc C 1 (nI (k8 + 1)) [(1, .int (nI (k8 + 1))), (0, .ref (a 0))] dX6_flows_284 rfl (nI_add k8 1) (by decide) rfl ?_
                refine z_go C 104 dX6_flows_287 (by decide) ?_
                refine z_lv [1, 0] [(0, .ref (a 0)), (1, .int (nI (k8 + 1)))] rfl ?_
                exact ihk8 (k8 + 1) v11 (by omega) (by rw [hv11]; exact flowB_keep hik8 (by omega) (by omega)) hF
              refine z_aln C dX6_flows_110 0 rfl ?_
              obtain ⟨v12, hv12⟩ : ∃ z9v, z9v = ((if 0 ≤ ((x7 9) k8) then k8 else (k8 + 1)) : Nat) := ⟨_, rfl⟩
              have hv11 := hv11.trans (jn_at hv12)
              have hbv12 : v12 = k8 ∨ v12 = k8 + 1 := by rw [hv12]; split <;> omega
              have Jv12 : Z p l e { frames := 3, cells := 0, slots := 0, locals := 69 } s m args below meth c X A 7 Q 0 0 (MW a X x7) [(0, .ref (a 0)), (1, .int (nI k8))] 126 [.int (nI v12)] := by
                refine z_isn C 2 [(2, .int (nI v12)), (0, .ref (a 0)), (1, .int (nI k8))] dX6_flows_126 rfl (by decide) rfl ?_
                refine z_ic C dX6_flows_127 2 (by decide) ?_
                refine z_iln C dX6_flows_128 2 rfl ?_
                refine z_imul C dX6_flows_129 (nI (2 * k8)) (pk_mul 2 k8) ?_
                refine z_ic C dX6_flows_130 1 (by decide) ?_
                refine z_iadd C dX6_flows_131 (nI ((2 * k8) + 1)) (nI_add (2 * k8) 1) ?_
                refine z_iln C dX6_flows_132 0 rfl ?_
                refine z_isub C dX6_flows_133 (nI (((2 * k8) + 1) - v12)) (pk_sub (a := ((2 * k8) + 1)) (b := v12) (by omega)) ?_
                refine z_isn C 3 [(3, .int (nI (((2 * k8) + 1) - v12))), (2, .int (nI v12)), (0, .ref (a 0)), (1, .int (nI k8))] dX6_flows_134 rfl (by decide) rfl ?_
                obtain ⟨v14, hv14⟩ : ∃ z9v, z9v = ((if 0 ≤ ((x7 9) k8) then ((x7 9) k8) else (-((x7 9) k8))) : Int32) := ⟨_, rfl⟩
                have hv11 := hv11.trans (jn_at hv14)
                have Jv14 : Z p l e { frames := 3, cells := 0, slots := 0, locals := 69 } s m args below meth c X A 7 Q 0 0 (MW a X x7) [(0, .ref (a 0)), (1, .int (nI k8)), (2, .int (nI v12)), (3, .int (nI (((2 * k8) + 1) - v12)))] 160 [.int v14] := by
                  refine z_is C [(4, .int v14), (0, .ref (a 0)), (1, .int (nI k8)), (2, .int (nI v12)), (3, .int (nI (((2 * k8) + 1) - v12)))] dX6_flows_160 (by decide) rfl ?_
                  refine z_aln C dX6_flows_162 1 rfl ?_
                  refine z_get (v := .ref (a 1)) C 0 5 dX6_flows_163 rfl rfl rfl hX6 (by decide) (by decide +kernel) rfl ?_
                  refine z_bp C dX6_flows_166 72 (by decide) ?_
                  refine z_iln C dX6_flows_168 3 rfl ?_
                  refine z_iadd C dX6_flows_169 (nI (72 + v12)) (nI_add 72 v12) ?_
                  refine z_dup2 C dX6_flows_170 rfl rfl ?_
                  refine z_iald (f := (x7 0)) C 1 (72 + v12) dX6_flows_171 rfl (by decide) rfl (by omega) ?_
                  refine z_il C dX6_flows_172 0 rfl ?_
                  refine z_iadd C dX6_flows_174 (((x7 0) (72 + v12)) + v14) rfl ?_
                  refine z_iast (f := (x7 0)) C 1 (72 + v12) (MW a X (va_up x7 0 (upd (x7 0) (72 + v12) (((x7 0) (72 + v12)) + v14)))) dX6_flows_175 rfl (by decide) rfl (by omega) rfl ?_
                  obtain ⟨g16, hg16⟩ : ∃ z9v : zG, z9v = (va_up x7 0 (upd (x7 0) (72 + v12) (((x7 0) (72 + v12)) + v14))) := ⟨_, rfl⟩
                  rw [← hg16]
                  have hv11 := hv11.trans (jn_at hg16)
                  refine z_aln C dX6_flows_176 1 rfl ?_
                  refine z_get (v := .ref (a 1)) C 0 5 dX6_flows_177 rfl rfl rfl hX6 (by decide) (by decide +kernel) rfl ?_
                  refine z_bp C dX6_flows_180 60 (by decide) ?_
                  refine z_iln C dX6_flows_182 4 rfl ?_
                  refine z_iadd C dX6_flows_183 (nI (60 + (((2 * k8) + 1) - v12))) (nI_add 60 (((2 * k8) + 1) - v12)) ?_
                  refine z_dup2 C dX6_flows_184 rfl rfl ?_
                  refine z_iald (f := (g16 0)) C 1 (60 + (((2 * k8) + 1) - v12)) dX6_flows_185 rfl (by decide) rfl (by omega) ?_
                  refine z_il C dX6_flows_186 0 rfl ?_
                  refine z_iadd C dX6_flows_188 (((g16 0) (60 + (((2 * k8) + 1) - v12))) + v14) rfl ?_
                  refine z_iast (f := (g16 0)) C 1 (60 + (((2 * k8) + 1) - v12)) (MW a X (va_up g16 0 (upd (g16 0) (60 + (((2 * k8) + 1) - v12)) (((g16 0) (60 + (((2 * k8) + 1) - v12))) + v14)))) dX6_flows_189 rfl (by decide) rfl (by omega) rfl ?_
                  obtain ⟨g17, hg17⟩ : ∃ z9v : zG, z9v = (va_up g16 0 (upd (g16 0) (60 + (((2 * k8) + 1) - v12)) (((g16 0) (60 + (((2 * k8) + 1) - v12))) + v14))) := ⟨_, rfl⟩
                  rw [← hg17]
                  have hv11 := hv11.trans (jn_at hg17)
                  refine z_ic C dX6_flows_190 0 (by decide) ?_
                  refine z_is C [(5, .int 0), (4, .int v14), (0, .ref (a 0)), (1, .int (nI k8)), (2, .int (nI v12)), (3, .int (nI (((2 * k8) + 1) - v12)))] dX6_flows_191 (by decide) rfl ?_
                  obtain ⟨v18, hv18⟩ : ∃ z9v, z9v = ((fX6_flows_L193 k8 v12 61 0 v14 g17) : zG) := ⟨_, rfl⟩
                  have hv11 := hv11.trans (jn_at hv18)
                  have Jv18 : Z p l e { frames := 3, cells := 0, slots := 0, locals := 69 } s m args below meth c X A 7 Q 0 0 (MW a X v18) [(0, .ref (a 0)), (1, .int (nI k8))] 284 [] := by
                    rw [hv11] at Jv11
                    exact Jv11
                  refine z_lv [2, 3, 4, 5, 1, 0] [(0, .ref (a 0)), (1, .int (nI k8)), (2, .int (nI v12)), (3, .int (nI (((2 * k8) + 1) - v12))), (4, .int v14), (5, .int 0)] rfl ?_
                  have LPk21 : ∀ (nk21 k21 : Nat) (x19 : Int32) (x20 : zG), k21 + nk21 = 61 → (FU (x20 0) v12 k21 x19) → v18 = fX6_flows_L193 k8 v12 nk21 k21 x19 x20 → Z p l e { frames := 3, cells := 0, slots := 0, locals := 69 } s m args below meth c X A 7 Q 0 0 (MW a X x20) [(0, .ref (a 0)), (1, .int (nI k8)), (2, .int (nI v12)), (3, .int (nI (((2 * k8) + 1) - v12))), (4, .int x19), (5, .int (nI k21))] 193 [] := by
                    intro nk21
                    induction nk21 with
                    | zero =>
                      intro k21 x19 x20 hkk21 hik21 hv18
                      refine z_il C dX6_flows_193 4 rfl ?_
                      refine z_if_le C 284 dX6_flows_195 (by decide) (fun c22 => ?_) (fun c22 => ?_)
                      rotate_left
                      · exact absurd (fu_zero hik21 (by omega)) c22
                      refine z_lv [0, 1] [(0, .ref (a 0)), (1, .int (nI k8))] rfl ?_
                      rw [hv18] at Jv18
                      exact Jv18
                    | succ nk21 ihk21 =>
                      intro k21 x19 x20 hkk21 hik21 hv18
                      refine z_il C dX6_flows_193 4 rfl ?_
                      refine z_if_le C 284 dX6_flows_195 (by decide) (fun c23 => ?_) (fun c23 => ?_)
                      · have hv18 := hv18.trans (if_pos c23)
                        refine z_lv [0, 1] [(0, .ref (a 0)), (1, .int (nI k8))] rfl ?_
                        rw [hv18] at Jv18
                        exact Jv18
                      · have hv18 := hv18.trans (if_neg c23)
                        refine z_aln C dX6_flows_198 0 rfl ?_
                        refine z_get (v := .ref (a 1)) C 0 5 dX6_flows_199 rfl rfl rfl hX6 (by decide) (by decide +kernel) rfl ?_
                        refine z_bp C dX6_flows_202 100 (by decide) ?_
                        refine z_bp C dX6_flows_204 61 (by decide) ?_
                        refine z_iln C dX6_flows_206 2 rfl ?_
                        refine z_imul C dX6_flows_207 (nI (61 * v12)) (pk_mul 61 v12) ?_
                        refine z_iadd C dX6_flows_208 (nI (100 + (61 * v12))) (nI_add 100 (61 * v12)) ?_
                        refine z_il C dX6_flows_209 5 rfl ?_
                        refine z_iadd C dX6_flows_211 (nI ((100 + (61 * v12)) + k21)) (nI_add (100 + (61 * v12)) k21) ?_
                        refine z_iald (f := (x20 0)) C 1 ((100 + (61 * v12)) + k21) dX6_flows_212 rfl (by decide) rfl (by omega) ?_
                        obtain ⟨v24, hv24⟩ : ∃ z9v, z9v = (((x20 0) ((100 + (61 * v12)) + k21)) : Int32) := ⟨_, rfl⟩
                        have hv18 := hv18.trans (jn_at hv24)
                        refine z_nm hv24 ?_
                        refine z_is C [(6, .int v24), (0, .ref (a 0)), (1, .int (nI k8)), (2, .int (nI v12)), (3, .int (nI (((2 * k8) + 1) - v12))), (4, .int x19), (5, .int (nI k21))] dX6_flows_213 (by decide) rfl ?_
                        obtain ⟨v25, hv25⟩ : ∃ z9v, z9v = ((if x19 ≤ v24 then x19 else v24) : Int32) := ⟨_, rfl⟩
                        have hv18 := hv18.trans (jn_at hv25)
                        have Jv25 : Z p l e { frames := 3, cells := 0, slots := 0, locals := 69 } s m args below meth c X A 7 Q 0 0 (MW a X x20) [(0, .ref (a 0)), (1, .int (nI k8)), (2, .int (nI v12)), (3, .int (nI (((2 * k8) + 1) - v12))), (4, .int x19), (5, .int (nI k21)), (6, .int v24)] 229 [.int v25] := by
                          refine z_is C [(6, .int v25), (0, .ref (a 0)), (1, .int (nI k8)), (2, .int (nI v12)), (3, .int (nI (((2 * k8) + 1) - v12))), (4, .int x19), (5, .int (nI k21))] dX6_flows_229 (by decide) rfl ?_
                          refine z_aln C dX6_flows_231 1 rfl ?_
                          refine z_get (v := .ref (a 1)) C 0 5 dX6_flows_232 rfl rfl rfl hX6 (by decide) (by decide +kernel) rfl ?_
                          refine z_bp C dX6_flows_235 100 (by decide) ?_
                          refine z_bp C dX6_flows_237 61 (by decide) ?_
                          refine z_iln C dX6_flows_239 3 rfl ?_
                          refine z_imul C dX6_flows_240 (nI (61 * v12)) (pk_mul 61 v12) ?_
                          refine z_iadd C dX6_flows_241 (nI (100 + (61 * v12))) (nI_add 100 (61 * v12)) ?_
                          refine z_il C dX6_flows_242 6 rfl ?_
                          refine z_iadd C dX6_flows_244 (nI ((100 + (61 * v12)) + k21)) (nI_add (100 + (61 * v12)) k21) ?_
                          refine z_dup2 C dX6_flows_245 rfl rfl ?_
                          refine z_iald (f := (x20 0)) C 1 ((100 + (61 * v12)) + k21) dX6_flows_246 rfl (by decide) rfl (by omega) ?_
                          refine z_il C dX6_flows_247 0 rfl ?_
                          refine z_isub C dX6_flows_249 (((x20 0) ((100 + (61 * v12)) + k21)) - v25) rfl ?_
                          refine z_iast (f := (x20 0)) C 1 ((100 + (61 * v12)) + k21) (MW a X (va_up x20 0 (upd (x20 0) ((100 + (61 * v12)) + k21) (((x20 0) ((100 + (61 * v12)) + k21)) - v25)))) dX6_flows_250 rfl (by decide) rfl (by omega) rfl ?_
                          obtain ⟨g27, hg27⟩ : ∃ z9v : zG, z9v = (va_up x20 0 (upd (x20 0) ((100 + (61 * v12)) + k21) (((x20 0) ((100 + (61 * v12)) + k21)) - v25))) := ⟨_, rfl⟩
                          rw [← hg27]
                          have hv18 := hv18.trans (jn_at hg27)
                          refine z_aln C dX6_flows_251 1 rfl ?_
                          refine z_get (v := .ref (a 1)) C 0 5 dX6_flows_252 rfl rfl rfl hX6 (by decide) (by decide +kernel) rfl ?_
                          refine z_bp C dX6_flows_255 100 (by decide) ?_
                          refine z_bp C dX6_flows_257 61 (by decide) ?_
                          refine z_iln C dX6_flows_259 4 rfl ?_
                          refine z_imul C dX6_flows_260 (nI (61 * (((2 * k8) + 1) - v12))) (pk_mul 61 (((2 * k8) + 1) - v12)) ?_
                          refine z_iadd C dX6_flows_261 (nI (100 + (61 * (((2 * k8) + 1) - v12)))) (nI_add 100 (61 * (((2 * k8) + 1) - v12))) ?_
                          refine z_il C dX6_flows_262 6 rfl ?_
                          refine z_iadd C dX6_flows_264 (nI ((100 + (61 * (((2 * k8) + 1) - v12))) + k21)) (nI_add (100 + (61 * (((2 * k8) + 1) - v12))) k21) ?_
                          refine z_dup2 C dX6_flows_265 rfl rfl ?_
                          refine z_iald (f := (g27 0)) C 1 ((100 + (61 * (((2 * k8) + 1) - v12))) + k21) dX6_flows_266 rfl (by decide) rfl (by omega) ?_
                          refine z_il C dX6_flows_267 0 rfl ?_
                          refine z_iadd C dX6_flows_269 (((g27 0) ((100 + (61 * (((2 * k8) + 1) - v12))) + k21)) + v25) rfl ?_
                          refine z_iast (f := (g27 0)) C 1 ((100 + (61 * (((2 * k8) + 1) - v12))) + k21) (MW a X (va_up g27 0 (upd (g27 0) ((100 + (61 * (((2 * k8) + 1) - v12))) + k21) (((g27 0) ((100 + (61 * (((2 * k8) + 1) - v12))) + k21)) + v25)))) dX6_flows_270 rfl (by decide) rfl (by omega) rfl ?_
                          refine z_il C dX6_flows_271 5 rfl ?_
                          refine z_il C dX6_flows_273 0 rfl ?_
                          refine z_isub C dX6_flows_275 (x19 - v25) rfl ?_
                          refine z_is C [(4, .int (x19 - v25)), (6, .int v25), (0, .ref (a 0)), (1, .int (nI k8)), (2, .int (nI v12)), (3, .int (nI (((2 * k8) + 1) - v12))), (5, .int (nI k21))] dX6_flows_276 (by decide) rfl ?_
                          refine z_inc C 6 (nI (k21 + 1)) [(5, .int (nI (k21 + 1))), (4, .int (x19 - v25)), (6, .int v25), (0, .ref (a 0)), (1, .int (nI k8)), (2, .int (nI v12)), (3, .int (nI (((2 * k8) + 1) - v12)))] dX6_flows_278 rfl (nI_add k21 1) (by decide) rfl ?_
                          refine z_go C 193 dX6_flows_281 (by decide) ?_
                          refine z_lv [3, 4, 5, 6, 1, 0] [(0, .ref (a 0)), (1, .int (nI k8)), (2, .int (nI v12)), (3, .int (nI (((2 * k8) + 1) - v12))), (4, .int (x19 - v25)), (5, .int (nI (k21 + 1)))] rfl ?_
                          exact ihk21 (k21 + 1) (x19 - v25) (va_up g27 0 (upd (g27 0) ((100 + (61 * (((2 * k8) + 1) - v12))) + k21) (((g27 0) ((100 + (61 * (((2 * k8) + 1) - v12))) + k21)) + v25))) (by omega) (fu_step hik21 (by omega) c23 hbv12 (by omega) hv24 hv25 hg27) hv18
                        refine z_il C dX6_flows_215 0 rfl ?_
                        refine z_il C dX6_flows_217 5 rfl ?_
                        refine z_ic_ge C 227 dX6_flows_219 (by decide) (fun c26 => ?_) (fun c26 => ?_)
                        · have hv25 := hv25.trans (if_pos c26)
                          refine z_il C dX6_flows_227 5 rfl ?_
                          refine z_lv [1, 2, 3, 4, 5, 6, 0] [(0, .ref (a 0)), (1, .int (nI k8)), (2, .int (nI v12)), (3, .int (nI (((2 * k8) + 1) - v12))), (4, .int x19), (5, .int (nI k21)), (6, .int v24)] rfl ?_
                          rw [hv25] at Jv25
                          exact Jv25
                        · have hv25 := hv25.trans (if_neg c26)
                          refine z_il C dX6_flows_222 0 rfl ?_
                          refine z_go C 229 dX6_flows_224 (by decide) ?_
                          refine z_lv [1, 2, 3, 4, 5, 6, 0] [(0, .ref (a 0)), (1, .int (nI k8)), (2, .int (nI v12)), (3, .int (nI (((2 * k8) + 1) - v12))), (4, .int x19), (5, .int (nI k21)), (6, .int v24)] rfl ?_
                          rw [hv25] at Jv25
                          exact Jv25
                  exact LPk21 61 0 v14 g17 (by omega) (flow_fu hik8 (by omega) hv12 hv14 hg16 hg17) hv18
                refine z_aln C dX6_flows_135 2 rfl ?_
                refine z_get (v := .ref (a 10)) C 0 15 dX6_flows_136 rfl rfl rfl hX6 (by decide) (by decide +kernel) rfl ?_
                refine z_iln C dX6_flows_139 3 rfl ?_
                refine z_iald (f := (x7 9)) C 10 k8 dX6_flows_140 rfl (by decide) rfl (by omega) ?_
                refine z_if_ge C 154 dX6_flows_141 (by decide) (fun c15 => ?_) (fun c15 => ?_)
                · have hv14 := hv14.trans (if_pos c15)
                  refine z_aln C dX6_flows_154 2 rfl ?_
                  refine z_get (v := .ref (a 10)) C 0 15 dX6_flows_155 rfl rfl rfl hX6 (by decide) (by decide +kernel) rfl ?_
                  refine z_iln C dX6_flows_158 3 rfl ?_
                  refine z_iald (f := (x7 9)) C 10 k8 dX6_flows_159 rfl (by decide) rfl (by omega) ?_
                  refine z_lv [2, 3, 1, 0] [(0, .ref (a 0)), (1, .int (nI k8)), (2, .int (nI v12)), (3, .int (nI (((2 * k8) + 1) - v12)))] rfl ?_
                  rw [hv14] at Jv14
                  exact Jv14
                · have hv14 := hv14.trans (if_neg c15)
                  refine z_aln C dX6_flows_144 2 rfl ?_
                  refine z_get (v := .ref (a 10)) C 0 15 dX6_flows_145 rfl rfl rfl hX6 (by decide) (by decide +kernel) rfl ?_
                  refine z_iln C dX6_flows_148 3 rfl ?_
                  refine z_iald (f := (x7 9)) C 10 k8 dX6_flows_149 rfl (by decide) rfl (by omega) ?_
                  refine z_ineg C dX6_flows_150 (-((x7 9) k8)) rfl ?_
                  refine z_go C 160 dX6_flows_151 (by decide) ?_
                  refine z_lv [2, 3, 1, 0] [(0, .ref (a 0)), (1, .int (nI k8)), (2, .int (nI v12)), (3, .int (nI (((2 * k8) + 1) - v12)))] rfl ?_
                  rw [hv14] at Jv14
                  exact Jv14
              clear hbv12
              refine z_get (v := .ref (a 10)) C 0 15 dX6_flows_111 rfl rfl rfl hX6 (by decide) (by decide +kernel) rfl ?_
              refine z_iln C dX6_flows_114 1 rfl ?_
              refine z_iald (f := (x7 9)) C 10 k8 dX6_flows_115 rfl (by decide) rfl (by omega) ?_
              refine z_if_ge C 125 dX6_flows_116 (by decide) (fun c13 => ?_) (fun c13 => ?_)
              · have hv12 := hv12.trans (if_pos c13)
                refine z_iln C dX6_flows_125 1 rfl ?_
                rw [hv12] at Jv12
                exact Jv12
              · have hv12 := hv12.trans (if_neg c13)
                refine z_iln C dX6_flows_119 1 rfl ?_
                refine z_ic C dX6_flows_120 1 (by decide) ?_
                refine z_iadd C dX6_flows_121 (nI (k8 + 1)) (nI_add k8 1) ?_
                refine z_go C 126 dX6_flows_122 (by decide) ?_
                rw [hv12] at Jv12
                exact Jv12
          exact LPk8 11 0 x4 (by omega) ⟨hik5.1, flowB_init hik5.1 (by omega) (fa_all hik5.2 (by omega))⟩ hF
        | succ nk5 ihk5 =>
          intro k5 x4 hkk5 hik5 hF
          refine z_iln C dX6_flows_36 1 rfl ?_
          refine z_bp C dX6_flows_37 11 (by decide) ?_
          refine z_ic_geN C k5 11 102 dX6_flows_39 (by decide) rfl rfl (by omega) (by omega) (fun c28 => ?_) (fun c28 => ?_)
          · exact absurd c28 (by omega)
          obtain ⟨v29, hv29⟩ : ∃ z9v, z9v = ((mFlowA k5 x4) : zG) := ⟨_, rfl⟩
          have hF := hF.trans (jn_at hv29)
          have Jv29 : Z p l e { frames := 3, cells := 0, slots := 0, locals := 69 } s m args below meth c X A 7 Q 0 0 (MW a X v29) [(0, .ref (a 0)), (1, .int (nI k5))] 96 [] := by
            refine z_inc C 1 (nI (k5 + 1)) [(1, .int (nI (k5 + 1))), (0, .ref (a 0))] dX6_flows_96 rfl (nI_add k5 1) (by decide) rfl ?_
            refine z_go C 36 dX6_flows_99 (by decide) ?_
            refine z_lv [1, 0] [(0, .ref (a 0)), (1, .int (nI (k5 + 1)))] rfl ?_
            exact ihk5 (k5 + 1) v29 (by omega) (by rw [hv29]; exact flowA_keep hik5.1 hik5.2 (by omega) (by omega) (by omega)) hF
          refine z_aln C dX6_flows_42 0 rfl ?_
          refine z_iln C dX6_flows_43 1 rfl ?_
          refine z_cVi0 (As := [.int (nI k5)]) (rest := []) C (mX6_surfaceOf l X a x4 k5 (by omega)) gX6_flows_X6_surfaceOf rfl ⟨rfl, by decide, by decide, (by decide : (parseMethodDescriptor yX6_surfaceOf.desc).map (fun d => d.parameters.length) = some 1)⟩ ⟨by decide, by decide⟩ ⟨by decide, by decide⟩ 0 6 rfl rfl (Nat.le_of_ble_eq_true rfl) dX6_flows_44 rfl ?_
          obtain ⟨v30, hv30⟩ : ∃ z9v, z9v = ((fX6_surfaceOf x4 k5) : Int32) := ⟨_, rfl⟩
          have hv29 := hv29.trans (jn_at hv30)
          refine z_nm hv30 ?_
          refine z_isn C 2 [(2, .int v30), (0, .ref (a 0)), (1, .int (nI k5))] dX6_flows_47 rfl (by decide) rfl ?_
          refine z_aln C dX6_flows_48 1 rfl ?_
          refine z_iln C dX6_flows_49 2 rfl ?_
          refine z_ic C dX6_flows_50 1 (by decide) ?_
          refine z_iadd C dX6_flows_51 (nI (k5 + 1)) (nI_add k5 1) ?_
          refine z_cVi0 (As := [.int (nI (k5 + 1))]) (rest := []) C (mX6_surfaceOf l X a x4 (k5 + 1) (by omega)) gX6_flows_X6_surfaceOf rfl ⟨rfl, by decide, by decide, (by decide : (parseMethodDescriptor yX6_surfaceOf.desc).map (fun d => d.parameters.length) = some 1)⟩ ⟨by decide, by decide⟩ ⟨by decide, by decide⟩ 0 6 rfl rfl (Nat.le_of_ble_eq_true rfl) dX6_flows_52 rfl ?_
          obtain ⟨v31, hv31⟩ : ∃ z9v, z9v = ((fX6_surfaceOf x4 (k5 + 1)) : Int32) := ⟨_, rfl⟩
          have hv29 := hv29.trans (jn_at hv31)
          refine z_nm hv31 ?_
          refine z_isn C 3 [(3, .int v31), (2, .int v30), (0, .ref (a 0)), (1, .int (nI k5))] dX6_flows_55 rfl (by decide) rfl ?_
          refine z_aln C dX6_flows_56 2 rfl ?_
          refine z_get (v := .ref (a 10)) C 0 15 dX6_flows_57 rfl rfl rfl hX6 (by decide) (by decide +kernel) rfl ?_
          refine z_iln C dX6_flows_60 3 rfl ?_
          obtain ⟨v32, hv32⟩ : ∃ z9v, z9v = ((if v30 ≤ v31 then (if v31 ≤ v30 then 0 else (-(fX6_flowOf x4 (k5 + 1) k5))) else (fX6_flowOf x4 k5 (k5 + 1))) : Int32) := ⟨_, rfl⟩
          have hv29 := hv29.trans (jn_at hv32)
          have Jv32 : Z p l e { frames := 3, cells := 0, slots := 0, locals := 69 } s m args below meth c X A 7 Q 0 0 (MW a X x4) [(0, .ref (a 0)), (1, .int (nI k5)), (2, .int v30), (3, .int v31)] 95 [.int v32, .int (nI k5), .ref (a 10)] := by
            refine z_iast (f := (x4 9)) C 10 k5 (MW a X (va_up x4 9 (upd (x4 9) k5 v32))) dX6_flows_95 rfl (by decide) rfl (by omega) rfl ?_
            refine z_lv [0, 1] [(0, .ref (a 0)), (1, .int (nI k5))] rfl ?_
            rw [hv29] at Jv29
            exact Jv29
          refine z_iln C dX6_flows_61 1 rfl ?_
          refine z_iln C dX6_flows_62 0 rfl ?_
          refine z_ic_le C 77 dX6_flows_63 (by decide) (fun c33 => ?_) (fun c33 => ?_)
          · have hv32 := hv32.trans (if_pos c33)
            refine z_iln C dX6_flows_77 1 rfl ?_
            refine z_iln C dX6_flows_78 0 rfl ?_
            refine z_ic_ge C 94 dX6_flows_79 (by decide) (fun c34 => ?_) (fun c34 => ?_)
            · have hv32 := hv32.trans (if_pos c34)
              refine z_ic C dX6_flows_94 0 (by decide) ?_
              refine z_lv [2, 3, 1, 0] [(0, .ref (a 0)), (1, .int (nI k5)), (2, .int v30), (3, .int v31)] rfl ?_
              rw [hv32] at Jv32
              exact Jv32
            · have hv32 := hv32.trans (if_neg c34)
              refine z_aln C dX6_flows_82 2 rfl ?_
              refine z_iln C dX6_flows_83 3 rfl ?_
              refine z_ic C dX6_flows_84 1 (by decide) ?_
              refine z_iadd C dX6_flows_85 (nI (k5 + 1)) (nI_add k5 1) ?_
              refine z_iln C dX6_flows_86 3 rfl ?_
              refine z_cVi0 (As := [.int (nI (k5 + 1)), .int (nI k5)]) (rest := [.int (nI k5), .ref (a 10)]) C (mX6_flowOf l X a x4 (k5 + 1) k5 (by omega) (by omega)) gX6_flows_X6_flowOf rfl ⟨rfl, by decide, by decide, (by decide : (parseMethodDescriptor yX6_flowOf.desc).map (fun d => d.parameters.length) = some 2)⟩ ⟨by decide, by decide⟩ ⟨by decide, by decide⟩ 0 6 rfl rfl (Nat.le_of_ble_eq_true rfl) dX6_flows_87 rfl ?_
              refine z_ineg C dX6_flows_90 (-(fX6_flowOf x4 (k5 + 1) k5)) rfl ?_
              refine z_go C 95 dX6_flows_91 (by decide) ?_
              refine z_lv [2, 3, 1, 0] [(0, .ref (a 0)), (1, .int (nI k5)), (2, .int v30), (3, .int v31)] rfl ?_
              rw [hv32] at Jv32
              exact Jv32
          · have hv32 := hv32.trans (if_neg c33)
            refine z_aln C dX6_flows_66 2 rfl ?_
            refine z_iln C dX6_flows_67 3 rfl ?_
            refine z_iln C dX6_flows_68 3 rfl ?_
            refine z_ic C dX6_flows_69 1 (by decide) ?_
            refine z_iadd C dX6_flows_70 (nI (k5 + 1)) (nI_add k5 1) ?_
            refine z_cVi0 (As := [.int (nI k5), .int (nI (k5 + 1))]) (rest := [.int (nI k5), .ref (a 10)]) C (mX6_flowOf l X a x4 k5 (k5 + 1) (by omega) (by omega)) gX6_flows_X6_flowOf rfl ⟨rfl, by decide, by decide, (by decide : (parseMethodDescriptor yX6_flowOf.desc).map (fun d => d.parameters.length) = some 2)⟩ ⟨by decide, by decide⟩ ⟨by decide, by decide⟩ 0 6 rfl rfl (Nat.le_of_ble_eq_true rfl) dX6_flows_71 rfl ?_
            refine z_go C 95 dX6_flows_74 (by decide) ?_
            refine z_lv [2, 3, 1, 0] [(0, .ref (a 0)), (1, .int (nI k5)), (2, .int v30), (3, .int v31)] rfl ?_
            rw [hv32] at Jv32
            exact Jv32
      exact LPk5 11 0 x1 (by omega) ⟨hik2, fun _ h => absurd h (Nat.not_lt_zero _)⟩ hF
    | succ nk2 ihk2 =>
      intro k2 x1 hkk2 hik2 hF
      refine z_iln C dX6_flows_2 1 rfl ?_
      refine z_bp C dX6_flows_3 12 (by decide) ?_
      refine z_ic_geN C k2 12 34 dX6_flows_5 (by decide) rfl rfl (by omega) (by omega) (fun c35 => ?_) (fun c35 => ?_)
      · exact absurd c35 (by omega)
      refine z_aln C dX6_flows_8 0 rfl ?_
      refine z_get (v := .ref (a 1)) C 0 5 dX6_flows_9 rfl rfl rfl hX6 (by decide) (by decide +kernel) rfl ?_
      refine z_bp C dX6_flows_12 60 (by decide) ?_
      refine z_iln C dX6_flows_14 1 rfl ?_
      refine z_iadd C dX6_flows_15 (nI (60 + k2)) (nI_add 60 k2) ?_
      refine z_ic C dX6_flows_16 0 (by decide) ?_
      refine z_iast (f := (x1 0)) C 1 (60 + k2) (MW a X (va_up x1 0 (upd (x1 0) (60 + k2) 0))) dX6_flows_17 rfl (by decide) rfl (by omega) rfl ?_
      refine z_aln C dX6_flows_18 0 rfl ?_
      refine z_get (v := .ref (a 1)) C 0 5 dX6_flows_19 rfl rfl rfl hX6 (by decide) (by decide +kernel) rfl ?_
      refine z_bp C dX6_flows_22 72 (by decide) ?_
      refine z_iln C dX6_flows_24 1 rfl ?_
      refine z_iadd C dX6_flows_25 (nI (72 + k2)) (nI_add 72 k2) ?_
      refine z_ic C dX6_flows_26 0 (by decide) ?_
      refine z_iast (f := (upd (x1 0) (60 + k2) 0)) C 1 (72 + k2) (MW a X (va_up (va_up x1 0 (upd (x1 0) (60 + k2) 0)) 0 (upd (upd (x1 0) (60 + k2) 0) (72 + k2) 0))) dX6_flows_27 rfl (by decide) rfl (by omega) rfl ?_
      refine z_inc C 1 (nI (k2 + 1)) [(1, .int (nI (k2 + 1))), (0, .ref (a 0))] dX6_flows_28 rfl (nI_add k2 1) (by decide) rfl ?_
      refine z_go C 2 dX6_flows_31 (by decide) ?_
      refine z_lv [1, 0] [(0, .ref (a 0)), (1, .int (nI (k2 + 1)))] rfl ?_
      exact ihk2 (k2 + 1) (va_up (va_up x1 0 (upd (x1 0) (60 + k2) 0)) 0 (upd (upd (x1 0) (60 + k2) 0) (72 + k2) 0)) (by omega) (mp_flow0 hik2 k2 (by omega)) hF
  exact LPk2 12 0 g (by omega) hy0 hF
set_option maxHeartbeats 4000000 in
set_option maxRecDepth 100000 in
theorem mX6_runs (l : Launch) (X : zX) (a : Nat → Nat) (g : zG) : CV l yX6_runs wsX6_runs 2 44 0 0 X (MW a X g) [.ref (a 0)] (MW a X (fX6_runs g)) := by
  obtain ⟨res, hF⟩ : ∃ z9r, z9r = fX6_runs g := ⟨_, rfl⟩
  rw [← hF]
  refine cu_intro (cc := cX6_runs) (ret := none) (maxL := 5) (by decide +kernel) rfl (Nat.le_of_ble_eq_true rfl) ?_
  intro p e s m args below meth c A Q C hQ
  have hX6 : ∀ w ∈ wsX60, w ∈ wsX6_runs := by decide +kernel
  show Z p l e { frames := 2, cells := 0, slots := 0, locals := 44 } s m args below meth c X A 5 Q 0 0 (MW a X g) [(0, .ref (a 0))] 0 []
  refine z_ic C dX6_runs_0 0 (by decide) ?_
  refine z_isn C 1 [(1, .int 0), (0, .ref (a 0))] dX6_runs_1 rfl (by decide) rfl ?_
  refine z_lv [1, 0] [(0, .ref (a 0)), (1, .int 0)] rfl ?_
  have LPk2 : ∀ (nk2 k2 : Nat) (x1 : zG), k2 + nk2 = 12 → res = fX6_runs_L2 nk2 k2 x1 → Z p l e { frames := 2, cells := 0, slots := 0, locals := 44 } s m args below meth c X A 5 Q 0 0 (MW a X x1) [(0, .ref (a 0)), (1, .int (nI k2))] 2 [] := by
    intro nk2
    induction nk2 with
    | zero =>
      intro k2 x1 hkk2 hF
      refine z_iln C dX6_runs_2 1 rfl ?_
      refine z_bp C dX6_runs_3 12 (by decide) ?_
      refine z_ic_geN C k2 12 150 dX6_runs_5 (by decide) rfl rfl (by omega) (by omega) (fun c3 => ?_) (fun c3 => ?_)
      rotate_left
      · exact absurd c3 (by omega)
      exact z_vret C hQ () dX6_runs_150 (by rw [hF]; first | done | rfl) (by decide) (by decide)
    | succ nk2 ihk2 =>
      intro k2 x1 hkk2 hF
      refine z_iln C dX6_runs_2 1 rfl ?_
      refine z_bp C dX6_runs_3 12 (by decide) ?_
      refine z_ic_geN C k2 12 150 dX6_runs_5 (by decide) rfl rfl (by omega) (by omega) (fun c4 => ?_) (fun c4 => ?_)
      · exact absurd c4 (by omega)
      obtain ⟨v5, hv5⟩ : ∃ z9v, z9v = ((mRun k2 x1) : zG) := ⟨_, rfl⟩
      have hF := hF.trans (jn_at hv5)
      have Jv5 : Z p l e { frames := 2, cells := 0, slots := 0, locals := 44 } s m args below meth c X A 5 Q 0 0 (MW a X v5) [(0, .ref (a 0)), (1, .int (nI k2))] 144 [] := by
        refine z_inc C 1 (nI (k2 + 1)) [(1, .int (nI (k2 + 1))), (0, .ref (a 0))] dX6_runs_144 rfl (nI_add k2 1) (by decide) rfl ?_
        refine z_go C 2 dX6_runs_147 (by decide) ?_
        refine z_lv [1, 0] [(0, .ref (a 0)), (1, .int (nI (k2 + 1)))] rfl ?_
        exact ihk2 (k2 + 1) v5 (by omega) hF
      refine z_aln C dX6_runs_8 0 rfl ?_
      refine z_get (v := .ref (a 1)) C 0 5 dX6_runs_9 rfl rfl rfl hX6 (by decide) (by decide +kernel) rfl ?_
      refine z_bp C dX6_runs_12 24 (by decide) ?_
      refine z_iln C dX6_runs_14 1 rfl ?_
      refine z_iadd C dX6_runs_15 (nI (24 + k2)) (nI_add 24 k2) ?_
      refine z_iald (f := (x1 0)) C 1 (24 + k2) dX6_runs_16 rfl (by decide) rfl (by omega) ?_
      obtain ⟨v6, hv6⟩ : ∃ z9v, z9v = (((x1 0) (24 + k2)) : Int32) := ⟨_, rfl⟩
      have hv5 := hv5.trans (jn_at hv6)
      refine z_nm hv6 ?_
      refine z_isn C 2 [(2, .int v6), (0, .ref (a 0)), (1, .int (nI k2))] dX6_runs_17 rfl (by decide) rfl ?_
      obtain ⟨v7, hv7⟩ : ∃ z9v, z9v = ((if (fX6_isInSea x1 k2) = 0 then (if k2 = 11 then 1 else 0) else 1) : Int32) := ⟨_, rfl⟩
      have hv5 := hv5.trans (jn_at hv7)
      have Jv7 : Z p l e { frames := 2, cells := 0, slots := 0, locals := 44 } s m args below meth c X A 5 Q 0 0 (MW a X x1) [(0, .ref (a 0)), (1, .int (nI k2)), (2, .int v6)] 37 [.int v7] := by
        refine z_isn C 3 [(3, .int v7), (0, .ref (a 0)), (1, .int (nI k2)), (2, .int v6)] dX6_runs_37 rfl (by decide) rfl ?_
        obtain ⟨v10, hv10⟩ : ∃ z9v, z9v = ((if v7 = 0 then (if k2 = 0 then (k2 + 1) else (if (fX6_potentialOf x1 (k2 - 1)) < (fX6_potentialOf x1 (k2 + 1)) then (k2 - 1) else (k2 + 1))) else k2) : Nat) := ⟨_, rfl⟩
        have hv5 := hv5.trans (jn_at hv10)
        have hbv10 : v10 < 12 := by exact run_lt (by omega) hv7 hv10
        have Jv10 : Z p l e { frames := 2, cells := 0, slots := 0, locals := 44 } s m args below meth c X A 5 Q 0 0 (MW a X x1) [(0, .ref (a 0)), (1, .int (nI k2)), (2, .int v6), (3, .int v7)] 76 [.int (nI v10)] := by
          refine z_is C [(4, .int (nI v10)), (0, .ref (a 0)), (1, .int (nI k2)), (2, .int v6), (3, .int v7)] dX6_runs_76 (by decide) rfl ?_
          refine z_iln C dX6_runs_78 4 rfl ?_
          refine z_if_eq C 106 dX6_runs_79 (by decide) (fun c14 => ?_) (fun c14 => ?_)
          · have hv5 := hv5.trans (if_pos c14)
            refine z_aln C dX6_runs_106 1 rfl ?_
            refine z_il C dX6_runs_107 0 rfl ?_
            refine z_cVi0 (As := [.int (nI v10)]) (rest := []) C (mX6_potentialOf l X a x1 v10 (by omega)) gX6_runs_X6_potentialOf rfl ⟨rfl, by decide, by decide, (by decide : (parseMethodDescriptor yX6_potentialOf.desc).map (fun d => d.parameters.length) = some 1)⟩ ⟨by decide, by decide⟩ ⟨by decide, by decide⟩ 0 6 rfl rfl (Nat.le_of_ble_eq_true rfl) dX6_runs_109 rfl ?_
            refine z_aln C dX6_runs_112 1 rfl ?_
            refine z_iln C dX6_runs_113 2 rfl ?_
            refine z_cVi0 (As := [.int (nI k2)]) (rest := [.int (fX6_potentialOf x1 v10)]) C (mX6_potentialOf l X a x1 k2 (by omega)) gX6_runs_X6_potentialOf rfl ⟨rfl, by decide, by decide, (by decide : (parseMethodDescriptor yX6_potentialOf.desc).map (fun d => d.parameters.length) = some 1)⟩ ⟨by decide, by decide⟩ ⟨by decide, by decide⟩ 0 6 rfl rfl (Nat.le_of_ble_eq_true rfl) dX6_runs_114 rfl ?_
            refine z_ic_ge C 144 dX6_runs_117 (by decide) (fun c15 => ?_) (fun c15 => ?_)
            · have hv5 := hv5.trans (if_pos c15)
              refine z_lv [1, 2] [(0, .ref (a 0)), (1, .int (nI k2))] rfl ?_
              rw [hv5] at Jv5
              exact Jv5
            · have hv5 := hv5.trans (if_neg c15)
              refine z_aln C dX6_runs_120 1 rfl ?_
              refine z_get (v := .ref (a 1)) C 0 5 dX6_runs_121 rfl rfl rfl hX6 (by decide) (by decide +kernel) rfl ?_
              refine z_bp C dX6_runs_124 24 (by decide) ?_
              refine z_il C dX6_runs_126 0 rfl ?_
              refine z_iadd C dX6_runs_128 (nI (24 + v10)) (nI_add 24 v10) ?_
              refine z_dup2 C dX6_runs_129 rfl rfl ?_
              refine z_iald (f := (x1 0)) C 1 (24 + v10) dX6_runs_130 rfl (by decide) rfl (by omega) ?_
              refine z_iln C dX6_runs_131 3 rfl ?_
              refine z_iadd C dX6_runs_132 (((x1 0) (24 + v10)) + v6) rfl ?_
              refine z_iast (f := (x1 0)) C 1 (24 + v10) (MW a X (va_up x1 0 (upd (x1 0) (24 + v10) (((x1 0) (24 + v10)) + v6)))) dX6_runs_133 rfl (by decide) rfl (by omega) rfl ?_
              refine z_aln C dX6_runs_134 1 rfl ?_
              refine z_get (v := .ref (a 1)) C 0 5 dX6_runs_135 rfl rfl rfl hX6 (by decide) (by decide +kernel) rfl ?_
              refine z_bp C dX6_runs_138 24 (by decide) ?_
              refine z_iln C dX6_runs_140 2 rfl ?_
              refine z_iadd C dX6_runs_141 (nI (24 + k2)) (nI_add 24 k2) ?_
              refine z_ic C dX6_runs_142 0 (by decide) ?_
              refine z_iast (f := (upd (x1 0) (24 + v10) (((x1 0) (24 + v10)) + v6))) C 1 (24 + k2) (MW a X (va_up (va_up x1 0 (upd (x1 0) (24 + v10) (((x1 0) (24 + v10)) + v6))) 0 (upd (upd (x1 0) (24 + v10) (((x1 0) (24 + v10)) + v6)) (24 + k2) 0))) dX6_runs_143 rfl (by decide) rfl (by omega) rfl ?_
              refine z_lv [1, 2] [(0, .ref (a 0)), (1, .int (nI k2))] rfl ?_
              rw [hv5] at Jv5
              exact Jv5
          · have hv5 := hv5.trans (if_neg c14)
            refine z_aln C dX6_runs_82 1 rfl ?_
            refine z_get (v := .ref (a 1)) C 0 5 dX6_runs_83 rfl rfl rfl hX6 (by decide) (by decide +kernel) rfl ?_
            refine z_bp C dX6_runs_86 84 (by decide) ?_
            refine z_dup2 C dX6_runs_88 rfl rfl ?_
            refine z_iald (f := (x1 0)) C 1 84 dX6_runs_89 rfl (by decide) rfl (by omega) ?_
            refine z_iln C dX6_runs_90 3 rfl ?_
            refine z_iadd C dX6_runs_91 (((x1 0) 84) + v6) rfl ?_
            refine z_iast (f := (x1 0)) C 1 84 (MW a X (va_up x1 0 (upd (x1 0) 84 (((x1 0) 84) + v6)))) dX6_runs_92 rfl (by decide) rfl (by omega) rfl ?_
            refine z_aln C dX6_runs_93 1 rfl ?_
            refine z_get (v := .ref (a 1)) C 0 5 dX6_runs_94 rfl rfl rfl hX6 (by decide) (by decide +kernel) rfl ?_
            refine z_bp C dX6_runs_97 24 (by decide) ?_
            refine z_iln C dX6_runs_99 2 rfl ?_
            refine z_iadd C dX6_runs_100 (nI (24 + k2)) (nI_add 24 k2) ?_
            refine z_ic C dX6_runs_101 0 (by decide) ?_
            refine z_iast (f := (upd (x1 0) 84 (((x1 0) 84) + v6))) C 1 (24 + k2) (MW a X (va_up (va_up x1 0 (upd (x1 0) 84 (((x1 0) 84) + v6))) 0 (upd (upd (x1 0) 84 (((x1 0) 84) + v6)) (24 + k2) 0))) dX6_runs_102 rfl (by decide) rfl (by omega) rfl ?_
            refine z_go C 144 dX6_runs_103 (by decide) ?_
            refine z_lv [1, 2] [(0, .ref (a 0)), (1, .int (nI k2))] rfl ?_
            rw [hv5] at Jv5
            exact Jv5
        clear hbv10
        refine z_iln C dX6_runs_38 0 rfl ?_
        refine z_if_eq C 46 dX6_runs_39 (by decide) (fun c11 => ?_) (fun c11 => ?_)
        · have hv10 := hv10.trans (if_pos c11)
          have hne := run_ne hv7 c11
          refine z_iln C dX6_runs_46 2 rfl ?_
          refine z_if_eqN C k2 67 dX6_runs_47 (by decide) rfl (by omega) (fun c12 => ?_) (fun c12 => ?_)
          · have hv10 := hv10.trans (if_pos c12)
            refine z_iln C dX6_runs_67 2 rfl ?_
            refine z_ic C dX6_runs_68 1 (by decide) ?_
            refine z_iadd C dX6_runs_69 (nI (k2 + 1)) (nI_add k2 1) ?_
            refine z_go C 76 dX6_runs_70 (by decide) ?_
            refine z_lv [1, 2, 3, 0] [(0, .ref (a 0)), (1, .int (nI k2)), (2, .int v6), (3, .int v7)] rfl ?_
            rw [hv10] at Jv10
            exact Jv10
          · have hv10 := hv10.trans (if_neg c12)
            refine z_aln C dX6_runs_50 1 rfl ?_
            refine z_iln C dX6_runs_51 2 rfl ?_
            refine z_ic C dX6_runs_52 1 (by decide) ?_
            refine z_iadd C dX6_runs_53 (nI (k2 + 1)) (nI_add k2 1) ?_
            refine z_cVi0 (As := [.int (nI (k2 + 1))]) (rest := []) C (mX6_potentialOf l X a x1 (k2 + 1) (by omega)) gX6_runs_X6_potentialOf rfl ⟨rfl, by decide, by decide, (by decide : (parseMethodDescriptor yX6_potentialOf.desc).map (fun d => d.parameters.length) = some 1)⟩ ⟨by decide, by decide⟩ ⟨by decide, by decide⟩ 0 6 rfl rfl (Nat.le_of_ble_eq_true rfl) dX6_runs_54 rfl ?_
            refine z_aln C dX6_runs_57 1 rfl ?_
            refine z_iln C dX6_runs_58 2 rfl ?_
            refine z_ic C dX6_runs_59 1 (by decide) ?_
            refine z_isub C dX6_runs_60 (nI (k2 - 1)) (pk_sub (a := k2) (b := 1) (by omega)) ?_
            refine z_cVi0 (As := [.int (nI (k2 - 1))]) (rest := [.int (fX6_potentialOf x1 (k2 + 1))]) C (mX6_potentialOf l X a x1 (k2 - 1) (by omega)) gX6_runs_X6_potentialOf rfl ⟨rfl, by decide, by decide, (by decide : (parseMethodDescriptor yX6_potentialOf.desc).map (fun d => d.parameters.length) = some 1)⟩ ⟨by decide, by decide⟩ ⟨by decide, by decide⟩ 0 6 rfl rfl (Nat.le_of_ble_eq_true rfl) dX6_runs_61 rfl ?_
            refine z_ic_gt C 73 dX6_runs_64 (by decide) (fun c13 => ?_) (fun c13 => ?_)
            · have hv10 := hv10.trans (if_pos c13)
              refine z_iln C dX6_runs_73 2 rfl ?_
              refine z_ic C dX6_runs_74 1 (by decide) ?_
              refine z_isub C dX6_runs_75 (nI (k2 - 1)) (pk_sub (a := k2) (b := 1) (by omega)) ?_
              refine z_lv [1, 2, 3, 0] [(0, .ref (a 0)), (1, .int (nI k2)), (2, .int v6), (3, .int v7)] rfl ?_
              rw [hv10] at Jv10
              exact Jv10
            · have hv10 := hv10.trans (if_neg c13)
              refine z_iln C dX6_runs_67 2 rfl ?_
              refine z_ic C dX6_runs_68 1 (by decide) ?_
              refine z_iadd C dX6_runs_69 (nI (k2 + 1)) (nI_add k2 1) ?_
              refine z_go C 76 dX6_runs_70 (by decide) ?_
              refine z_lv [1, 2, 3, 0] [(0, .ref (a 0)), (1, .int (nI k2)), (2, .int v6), (3, .int v7)] rfl ?_
              rw [hv10] at Jv10
              exact Jv10
        · have hv10 := hv10.trans (if_neg c11)
          refine z_iln C dX6_runs_42 2 rfl ?_
          refine z_go C 76 dX6_runs_43 (by decide) ?_
          refine z_lv [1, 2, 3, 0] [(0, .ref (a 0)), (1, .int (nI k2)), (2, .int v6), (3, .int v7)] rfl ?_
          rw [hv10] at Jv10
          exact Jv10
      refine z_aln C dX6_runs_18 1 rfl ?_
      refine z_iln C dX6_runs_19 2 rfl ?_
      refine z_cVi0 (As := [.int (nI k2)]) (rest := []) C (mX6_isInSea l X a x1 k2 (by omega)) gX6_runs_X6_isInSea rfl ⟨rfl, by decide, by decide, (by decide : (parseMethodDescriptor yX6_isInSea.desc).map (fun d => d.parameters.length) = some 1)⟩ ⟨by decide, by decide⟩ ⟨by decide, by decide⟩ 0 6 rfl rfl (Nat.le_of_ble_eq_true rfl) dX6_runs_20 rfl ?_
      refine z_if_ne C 32 dX6_runs_23 (by decide) (fun c8 => ?_) (fun c8 => ?_)
      · have hv7 := hv7.trans (if_neg c8)
        refine z_ic C dX6_runs_32 1 (by decide) ?_
        refine z_go C 37 dX6_runs_33 (by decide) ?_
        refine z_lv [1, 2, 0] [(0, .ref (a 0)), (1, .int (nI k2)), (2, .int v6)] rfl ?_
        rw [hv7] at Jv7
        exact Jv7
      · have hv7 := hv7.trans (if_pos c8)
        refine z_iln C dX6_runs_26 2 rfl ?_
        refine z_bp C dX6_runs_27 11 (by decide) ?_
        refine z_ic_neN C k2 11 36 dX6_runs_29 (by decide) rfl rfl (by omega) (by omega) (fun c9 => ?_) (fun c9 => ?_)
        · have hv7 := hv7.trans (if_neg c9)
          refine z_ic C dX6_runs_36 0 (by decide) ?_
          refine z_lv [1, 2, 0] [(0, .ref (a 0)), (1, .int (nI k2)), (2, .int v6)] rfl ?_
          rw [hv7] at Jv7
          exact Jv7
        · have hv7 := hv7.trans (if_pos c9)
          refine z_ic C dX6_runs_32 1 (by decide) ?_
          refine z_go C 37 dX6_runs_33 (by decide) ?_
          refine z_lv [1, 2, 0] [(0, .ref (a 0)), (1, .int (nI k2)), (2, .int v6)] rfl ?_
          rw [hv7] at Jv7
          exact Jv7
  exact LPk2 12 0 g (by omega) hF
set_option maxHeartbeats 4000000 in
set_option maxRecDepth 100000 in
theorem mX6_least (l : Launch) (X : zX) (a : Nat → Nat) (g : zG) (k : Nat) (hy0 : k < 12) : CI l yX6_least wsX6_least 1 23 0 0 X (MW a X g) [.ref (a 0), .int (nI k)] (fX6_least g k) (MW a X g) := by
  obtain ⟨res, hF⟩ : ∃ z9r, z9r = fX6_least g k := ⟨_, rfl⟩
  rw [← hF]
  refine ci_intro (cc := cX6_least) (ret := (some .int)) (maxL := 4) (by decide +kernel) rfl (Nat.le_of_ble_eq_true rfl) ?_
  intro p e s m args below meth c A Q C hQ
  show Z p l e { frames := 1, cells := 0, slots := 0, locals := 23 } s m args below meth c X A 4 Q 0 0 (MW a X g) [(0, .ref (a 0)), (1, .int (nI k))] 0 []
  obtain ⟨v1, hv1⟩ : ∃ z9v, z9v = ((if k = 0 then 0 else (fX6_iceOf g (k - 1))) : Int32) := ⟨_, rfl⟩
  have hF := hF.trans (jn_at hv1)
  have Jv1 : Z p l e { frames := 1, cells := 0, slots := 0, locals := 23 } s m args below meth c X A 4 Q 0 0 (MW a X g) [(0, .ref (a 0)), (1, .int (nI k))] 15 [.int v1] := by
    refine z_isn C 2 [(2, .int v1), (0, .ref (a 0)), (1, .int (nI k))] dX6_least_15 rfl (by decide) rfl ?_
    obtain ⟨v3, hv3⟩ : ∃ z9v, z9v = ((if 11 ≤ k then 0 else (fX6_iceOf g (k + 1))) : Int32) := ⟨_, rfl⟩
    have hF := hF.trans (jn_at hv3)
    have Jv3 : Z p l e { frames := 1, cells := 0, slots := 0, locals := 23 } s m args below meth c X A 4 Q 0 0 (MW a X g) [(0, .ref (a 0)), (1, .int (nI k)), (2, .int v1)] 33 [.int v3] := by
      refine z_isn C 3 [(3, .int v3), (0, .ref (a 0)), (1, .int (nI k)), (2, .int v1)] dX6_least_33 rfl (by decide) rfl ?_
      refine z_iln C dX6_least_34 3 rfl ?_
      refine z_if_ne C 42 dX6_least_35 (by decide) (fun c5 => ?_) (fun c5 => ?_)
      · have hF := hF.trans (if_neg c5)
        refine z_iln C dX6_least_42 0 rfl ?_
        refine z_if_eq C 51 dX6_least_43 (by decide) (fun c6 => ?_) (fun c6 => ?_)
        · have hF := hF.trans (if_pos c6)
          refine z_iln C dX6_least_51 3 rfl ?_
          refine z_go C 56 dX6_least_52 (by decide) ?_
          exact z_iret C hQ dX6_least_56 (by rw [hF]; first | done | rfl) rfl (by decide) (by decide)
        · have hF := hF.trans (if_neg c6)
          refine z_iln C dX6_least_46 3 rfl ?_
          refine z_iln C dX6_least_47 0 rfl ?_
          refine z_ic_ge C 55 dX6_least_48 (by decide) (fun c7 => ?_) (fun c7 => ?_)
          · have hF := hF.trans (if_pos c7)
            refine z_iln C dX6_least_55 0 rfl ?_
            exact z_iret C hQ dX6_least_56 (by rw [hF]; first | done | rfl) rfl (by decide) (by decide)
          · have hF := hF.trans (if_neg c7)
            refine z_iln C dX6_least_51 3 rfl ?_
            refine z_go C 56 dX6_least_52 (by decide) ?_
            exact z_iret C hQ dX6_least_56 (by rw [hF]; first | done | rfl) rfl (by decide) (by decide)
      · have hF := hF.trans (if_pos c5)
        refine z_iln C dX6_least_38 0 rfl ?_
        refine z_go C 56 dX6_least_39 (by decide) ?_
        exact z_iret C hQ dX6_least_56 (by rw [hF]; first | done | rfl) rfl (by decide) (by decide)
    refine z_iln C dX6_least_16 2 rfl ?_
    refine z_bp C dX6_least_17 11 (by decide) ?_
    refine z_ic_geN C k 11 32 dX6_least_19 (by decide) rfl rfl (by omega) (by omega) (fun c4 => ?_) (fun c4 => ?_)
    · have hv3 := hv3.trans (if_pos c4)
      refine z_ic C dX6_least_32 0 (by decide) ?_
      refine z_lv [1, 2, 0] [(0, .ref (a 0)), (1, .int (nI k)), (2, .int v1)] rfl ?_
      rw [hv3] at Jv3
      exact Jv3
    · have hv3 := hv3.trans (if_neg c4)
      refine z_aln C dX6_least_22 1 rfl ?_
      refine z_iln C dX6_least_23 2 rfl ?_
      refine z_ic C dX6_least_24 1 (by decide) ?_
      refine z_iadd C dX6_least_25 (nI (k + 1)) (nI_add k 1) ?_
      refine z_cVi0 (As := [.int (nI (k + 1))]) (rest := []) C (mX6_iceOf l X a g (k + 1) (by omega)) gX6_least_X6_iceOf rfl ⟨rfl, by decide, by decide, (by decide : (parseMethodDescriptor yX6_iceOf.desc).map (fun d => d.parameters.length) = some 1)⟩ ⟨by decide, by decide⟩ ⟨by decide, by decide⟩ 0 6 rfl rfl (Nat.le_of_ble_eq_true rfl) dX6_least_26 rfl ?_
      refine z_go C 33 dX6_least_29 (by decide) ?_
      refine z_lv [1, 2, 0] [(0, .ref (a 0)), (1, .int (nI k)), (2, .int v1)] rfl ?_
      rw [hv3] at Jv3
      exact Jv3
  refine z_iln C dX6_least_0 1 rfl ?_
  refine z_if_leN C k 14 dX6_least_1 (by decide) rfl (by omega) (fun c2 => ?_) (fun c2 => ?_)
  · have hv1 := hv1.trans (if_pos c2)
    refine z_ic C dX6_least_14 0 (by decide) ?_
    rw [hv1] at Jv1
    exact Jv1
  · have hv1 := hv1.trans (if_neg c2)
    refine z_aln C dX6_least_4 0 rfl ?_
    refine z_iln C dX6_least_5 1 rfl ?_
    refine z_ic C dX6_least_6 1 (by decide) ?_
    refine z_isub C dX6_least_7 (nI (k - 1)) (pk_sub (a := k) (b := 1) (by omega)) ?_
    refine z_cVi0 (As := [.int (nI (k - 1))]) (rest := []) C (mX6_iceOf l X a g (k - 1) (by omega)) gX6_least_X6_iceOf rfl ⟨rfl, by decide, by decide, (by decide : (parseMethodDescriptor yX6_iceOf.desc).map (fun d => d.parameters.length) = some 1)⟩ ⟨by decide, by decide⟩ ⟨by decide, by decide⟩ 0 6 rfl rfl (Nat.le_of_ble_eq_true rfl) dX6_least_8 rfl ?_
    refine z_go C 15 dX6_least_11 (by decide) ?_
    rw [hv1] at Jv1
    exact Jv1
set_option maxHeartbeats 4000000 in
set_option maxRecDepth 100000 in
theorem mX6_breaks (l : Launch) (X : zX) (a : Nat → Nat) (g : zG) (b yr fb bb : Nat) (hy0 : MP g b yr fb bb) (hy1 : fb + 12 ≤ 720) : CV l yX6_breaks wsX6_breaks 2 46 0 0 X (MW a X g) [.ref (a 0)] (MW a X (fX6_breaks g)) := by
  obtain ⟨res, hF⟩ : ∃ z9r, z9r = fX6_breaks g := ⟨_, rfl⟩
  rw [← hF]
  refine cu_intro (cc := cX6_breaks) (ret := none) (maxL := 4) (by decide +kernel) rfl (Nat.le_of_ble_eq_true rfl) ?_
  intro p e s m args below meth c A Q C hQ
  have hX6 : ∀ w ∈ wsX60, w ∈ wsX6_breaks := by decide +kernel
  show Z p l e { frames := 2, cells := 0, slots := 0, locals := 46 } s m args below meth c X A 4 Q 0 0 (MW a X g) [(0, .ref (a 0))] 0 []
  refine z_ic C dX6_breaks_0 0 (by decide) ?_
  refine z_isn C 1 [(1, .int 0), (0, .ref (a 0))] dX6_breaks_1 rfl (by decide) rfl ?_
  refine z_lv [1, 0] [(0, .ref (a 0)), (1, .int 0)] rfl ?_
  have LPk2 : ∀ (nk2 k2 : Nat) (x1 : zG), k2 + nk2 = 12 → (MP x1 b yr (fb + k2) bb) → res = fX6_breaks_L2 nk2 k2 x1 → Z p l e { frames := 2, cells := 0, slots := 0, locals := 46 } s m args below meth c X A 4 Q 0 0 (MW a X x1) [(0, .ref (a 0)), (1, .int (nI k2))] 2 [] := by
    intro nk2
    induction nk2 with
    | zero =>
      intro k2 x1 hkk2 hik2 hF
      refine z_iln C dX6_breaks_2 1 rfl ?_
      refine z_bp C dX6_breaks_3 12 (by decide) ?_
      refine z_ic_geN C k2 12 128 dX6_breaks_5 (by decide) rfl rfl (by omega) (by omega) (fun c3 => ?_) (fun c3 => ?_)
      rotate_left
      · exact absurd c3 (by omega)
      exact z_vret C hQ () dX6_breaks_128 (by rw [hF]; first | done | rfl) (by decide) (by decide)
    | succ nk2 ihk2 =>
      intro k2 x1 hkk2 hik2 hF
      refine z_iln C dX6_breaks_2 1 rfl ?_
      refine z_bp C dX6_breaks_3 12 (by decide) ?_
      refine z_ic_geN C k2 12 128 dX6_breaks_5 (by decide) rfl rfl (by omega) (by omega) (fun c4 => ?_) (fun c4 => ?_)
      · exact absurd c4 (by omega)
      obtain ⟨v5, hv5⟩ : ∃ z9v, z9v = ((mBreak k2 x1) : zG) := ⟨_, rfl⟩
      have hF := hF.trans (jn_at hv5)
      have Jv5 : Z p l e { frames := 2, cells := 0, slots := 0, locals := 46 } s m args below meth c X A 4 Q 0 0 (MW a X v5) [(0, .ref (a 0)), (1, .int (nI k2))] 122 [] := by
        refine z_inc C 1 (nI (k2 + 1)) [(1, .int (nI (k2 + 1))), (0, .ref (a 0))] dX6_breaks_122 rfl (nI_add k2 1) (by decide) rfl ?_
        refine z_go C 2 dX6_breaks_125 (by decide) ?_
        refine z_lv [1, 0] [(0, .ref (a 0)), (1, .int (nI (k2 + 1)))] rfl ?_
        exact ihk2 (k2 + 1) v5 (by omega) (by rw [hv5]; exact mp_break hik2 (by omega) (by omega)) hF
      refine z_aln C dX6_breaks_8 0 rfl ?_
      refine z_get (v := .ref (a 1)) C 0 5 dX6_breaks_9 rfl rfl rfl hX6 (by decide) (by decide +kernel) rfl ?_
      refine z_bp C dX6_breaks_12 24 (by decide) ?_
      refine z_iln C dX6_breaks_14 1 rfl ?_
      refine z_iadd C dX6_breaks_15 (nI (24 + k2)) (nI_add 24 k2) ?_
      refine z_iald (f := (x1 0)) C 1 (24 + k2) dX6_breaks_16 rfl (by decide) rfl (by omega) ?_
      obtain ⟨v6, hv6⟩ : ∃ z9v, z9v = (((x1 0) (24 + k2)) : Int32) := ⟨_, rfl⟩
      have hv5 := hv5.trans (jn_at hv6)
      refine z_nm hv6 ?_
      refine z_isn C 2 [(2, .int v6), (0, .ref (a 0)), (1, .int (nI k2))] dX6_breaks_17 rfl (by decide) rfl ?_
      refine z_aln C dX6_breaks_18 1 rfl ?_
      refine z_iln C dX6_breaks_19 2 rfl ?_
      refine z_cVi0 (As := [.int (nI k2)]) (rest := []) C (mX6_least l X a x1 k2 (by omega)) gX6_breaks_X6_least rfl ⟨rfl, by decide, by decide, (by decide : (parseMethodDescriptor yX6_least.desc).map (fun d => d.parameters.length) = some 1)⟩ ⟨by decide, by decide⟩ ⟨by decide, by decide⟩ 0 6 rfl rfl (Nat.le_of_ble_eq_true rfl) dX6_breaks_20 rfl ?_
      obtain ⟨v7, hv7⟩ : ∃ z9v, z9v = ((fX6_least x1 k2) : Int32) := ⟨_, rfl⟩
      have hv5 := hv5.trans (jn_at hv7)
      refine z_nm hv7 ?_
      refine z_isn C 3 [(3, .int v7), (2, .int v6), (0, .ref (a 0)), (1, .int (nI k2))] dX6_breaks_23 rfl (by decide) rfl ?_
      refine z_iln C dX6_breaks_24 1 rfl ?_
      refine z_bp C dX6_breaks_25 10 (by decide) ?_
      refine z_ic_lt C 122 dX6_breaks_27 (by decide) (fun c8 => ?_) (fun c8 => ?_)
      · have hv5 := hv5.trans (if_pos c8)
        refine z_lv [2, 3] [(0, .ref (a 0)), (1, .int (nI k2))] rfl ?_
        rw [hv5] at Jv5
        exact Jv5
      · have hv5 := hv5.trans (if_neg c8)
        refine z_iln C dX6_breaks_30 0 rfl ?_
        refine z_if_le C 122 dX6_breaks_31 (by decide) (fun c9 => ?_) (fun c9 => ?_)
        · have hv5 := hv5.trans (if_pos c9)
          refine z_lv [2, 3] [(0, .ref (a 0)), (1, .int (nI k2))] rfl ?_
          rw [hv5] at Jv5
          exact Jv5
        · have hv5 := hv5.trans (if_neg c9)
          refine z_bp C dX6_breaks_34 10 (by decide) ?_
          refine z_iln C dX6_breaks_36 1 rfl ?_
          refine z_imul C dX6_breaks_37 (10 * v6) rfl ?_
          refine z_bp C dX6_breaks_38 9 (by decide) ?_
          refine z_iln C dX6_breaks_40 0 rfl ?_
          refine z_imul C dX6_breaks_41 (9 * v7) rfl ?_
          refine z_ic_le C 122 dX6_breaks_42 (by decide) (fun c10 => ?_) (fun c10 => ?_)
          · have hv5 := hv5.trans (if_pos c10)
            refine z_lv [2, 3] [(0, .ref (a 0)), (1, .int (nI k2))] rfl ?_
            rw [hv5] at Jv5
            exact Jv5
          · have hv5 := hv5.trans (if_neg c10)
            obtain ⟨fl, hflb, hfl⟩ := mp_fl hik2
            refine z_aln C dX6_breaks_45 2 rfl ?_
            refine z_get (v := .ref (a 4)) C 0 8 dX6_breaks_46 rfl rfl rfl hX6 (by decide) (by decide +kernel) rfl ?_
            refine z_aln C dX6_breaks_49 2 rfl ?_
            refine z_get (v := .ref (a 1)) C 0 5 dX6_breaks_50 rfl rfl rfl hX6 (by decide) (by decide +kernel) rfl ?_
            refine z_bp C dX6_breaks_53 90 (by decide) ?_
            refine z_iald (f := (x1 0)) C 1 90 dX6_breaks_55 rfl (by decide) rfl (by omega) ?_
            refine z_nm (show nI (((x1 0) 90).toNatClampNeg) = ((x1 0) 90) from (by rw [hfl, nI_clamp (by omega)])) ?_
            refine z_aln C dX6_breaks_56 2 rfl ?_
            refine z_get (v := .ref (a 1)) C 0 5 dX6_breaks_57 rfl rfl rfl hX6 (by decide) (by decide +kernel) rfl ?_
            refine z_bp C dX6_breaks_60 89 (by decide) ?_
            refine z_iald (f := (x1 0)) C 1 89 dX6_breaks_62 rfl (by decide) rfl (by omega) ?_
            refine z_iast (f := (x1 3)) C 4 (((x1 0) 90).toNatClampNeg) (MW a X (va_up x1 3 (upd (x1 3) (((x1 0) 90).toNatClampNeg) ((x1 0) 89)))) dX6_breaks_63 rfl (by decide) rfl (by rw [hfl, nI_clamp (by omega)]; omega) rfl ?_
            refine z_aln C dX6_breaks_64 2 rfl ?_
            refine z_get (v := .ref (a 5)) C 0 9 dX6_breaks_65 rfl rfl rfl hX6 (by decide) (by decide +kernel) rfl ?_
            refine z_aln C dX6_breaks_68 2 rfl ?_
            refine z_get (v := .ref (a 1)) C 0 5 dX6_breaks_69 rfl rfl rfl hX6 (by decide) (by decide +kernel) rfl ?_
            refine z_bp C dX6_breaks_72 90 (by decide) ?_
            refine z_iald (f := (x1 0)) C 1 90 dX6_breaks_74 rfl (by decide) rfl (by omega) ?_
            refine z_nm (show nI (((x1 0) 90).toNatClampNeg) = ((x1 0) 90) from (by rw [hfl, nI_clamp (by omega)])) ?_
            refine z_iln C dX6_breaks_75 3 rfl ?_
            refine z_iast (f := (x1 4)) C 5 (((x1 0) 90).toNatClampNeg) (MW a X (va_up (va_up x1 3 (upd (x1 3) (((x1 0) 90).toNatClampNeg) ((x1 0) 89))) 4 (upd (x1 4) (((x1 0) 90).toNatClampNeg) (nI k2)))) dX6_breaks_76 rfl (by decide) rfl (by rw [hfl, nI_clamp (by omega)]; omega) rfl ?_
            refine z_aln C dX6_breaks_77 2 rfl ?_
            refine z_get (v := .ref (a 6)) C 0 10 dX6_breaks_78 rfl rfl rfl hX6 (by decide) (by decide +kernel) rfl ?_
            refine z_aln C dX6_breaks_81 2 rfl ?_
            refine z_get (v := .ref (a 1)) C 0 5 dX6_breaks_82 rfl rfl rfl hX6 (by decide) (by decide +kernel) rfl ?_
            refine z_bp C dX6_breaks_85 90 (by decide) ?_
            refine z_iald (f := (x1 0)) C 1 90 dX6_breaks_87 rfl (by decide) rfl (by omega) ?_
            refine z_nm (show nI (((x1 0) 90).toNatClampNeg) = ((x1 0) 90) from (by rw [hfl, nI_clamp (by omega)])) ?_
            refine z_iln C dX6_breaks_88 1 rfl ?_
            refine z_iast (f := (x1 5)) C 6 (((x1 0) 90).toNatClampNeg) (MW a X (va_up (va_up (va_up x1 3 (upd (x1 3) (((x1 0) 90).toNatClampNeg) ((x1 0) 89))) 4 (upd (x1 4) (((x1 0) 90).toNatClampNeg) (nI k2))) 5 (upd (x1 5) (((x1 0) 90).toNatClampNeg) v6))) dX6_breaks_89 rfl (by decide) rfl (by rw [hfl, nI_clamp (by omega)]; omega) rfl ?_
            refine z_aln C dX6_breaks_90 2 rfl ?_
            refine z_get (v := .ref (a 1)) C 0 5 dX6_breaks_91 rfl rfl rfl hX6 (by decide) (by decide +kernel) rfl ?_
            refine z_bp C dX6_breaks_94 90 (by decide) ?_
            refine z_dup2 C dX6_breaks_96 rfl rfl ?_
            refine z_iald (f := (x1 0)) C 1 90 dX6_breaks_97 rfl (by decide) rfl (by omega) ?_
            refine z_ic C dX6_breaks_98 1 (by decide) ?_
            refine z_iadd C dX6_breaks_99 (((x1 0) 90) + 1) rfl ?_
            refine z_iast (f := (x1 0)) C 1 90 (MW a X (va_up (va_up (va_up (va_up x1 3 (upd (x1 3) (((x1 0) 90).toNatClampNeg) ((x1 0) 89))) 4 (upd (x1 4) (((x1 0) 90).toNatClampNeg) (nI k2))) 5 (upd (x1 5) (((x1 0) 90).toNatClampNeg) v6)) 0 (upd (x1 0) 90 (((x1 0) 90) + 1)))) dX6_breaks_100 rfl (by decide) rfl (by omega) rfl ?_
            obtain ⟨g11, hg11⟩ : ∃ z9v : zG, z9v = (va_up (va_up (va_up (va_up x1 3 (upd (x1 3) (((x1 0) 90).toNatClampNeg) ((x1 0) 89))) 4 (upd (x1 4) (((x1 0) 90).toNatClampNeg) (nI k2))) 5 (upd (x1 5) (((x1 0) 90).toNatClampNeg) v6)) 0 (upd (x1 0) 90 (((x1 0) 90) + 1))) := ⟨_, rfl⟩
            rw [← hg11]
            have hv5 := hv5.trans (jn_at hg11)
            refine z_aln C dX6_breaks_101 2 rfl ?_
            refine z_get (v := .ref (a 1)) C 0 5 dX6_breaks_102 rfl rfl rfl hX6 (by decide) (by decide +kernel) rfl ?_
            refine z_bp C dX6_breaks_105 84 (by decide) ?_
            refine z_dup2 C dX6_breaks_107 rfl rfl ?_
            refine z_iald (f := (g11 0)) C 1 84 dX6_breaks_108 rfl (by decide) rfl (by omega) ?_
            refine z_iln C dX6_breaks_109 1 rfl ?_
            refine z_iadd C dX6_breaks_110 (((g11 0) 84) + v6) rfl ?_
            refine z_iast (f := (g11 0)) C 1 84 (MW a X (va_up g11 0 (upd (g11 0) 84 (((g11 0) 84) + v6)))) dX6_breaks_111 rfl (by decide) rfl (by omega) rfl ?_
            obtain ⟨g12, hg12⟩ : ∃ z9v : zG, z9v = (va_up g11 0 (upd (g11 0) 84 (((g11 0) 84) + v6))) := ⟨_, rfl⟩
            rw [← hg12]
            have hv5 := hv5.trans (jn_at hg12)
            refine z_aln C dX6_breaks_112 2 rfl ?_
            refine z_get (v := .ref (a 1)) C 0 5 dX6_breaks_113 rfl rfl rfl hX6 (by decide) (by decide +kernel) rfl ?_
            refine z_bp C dX6_breaks_116 24 (by decide) ?_
            refine z_iln C dX6_breaks_118 3 rfl ?_
            refine z_iadd C dX6_breaks_119 (nI (24 + k2)) (nI_add 24 k2) ?_
            refine z_ic C dX6_breaks_120 0 (by decide) ?_
            refine z_iast (f := (g12 0)) C 1 (24 + k2) (MW a X (va_up g12 0 (upd (g12 0) (24 + k2) 0))) dX6_breaks_121 rfl (by decide) rfl (by omega) rfl ?_
            refine z_lv [2, 3] [(0, .ref (a 0)), (1, .int (nI k2))] rfl ?_
            rw [hv5] at Jv5
            exact Jv5
  exact LPk2 12 0 g (by omega) hy0 hF
set_option maxHeartbeats 4000000 in
set_option maxRecDepth 100000 in
theorem mX6_calves (l : Launch) (X : zX) (a : Nat → Nat) (g : zG) : CV l yX6_calves wsX6_calves 1 23 0 0 X (MW a X g) [.ref (a 0)] (MW a X (fX6_calves g)) := by
  obtain ⟨res, hF⟩ : ∃ z9r, z9r = fX6_calves g := ⟨_, rfl⟩
  rw [← hF]
  refine cu_intro (cc := cX6_calves) (ret := none) (maxL := 5) (by decide +kernel) rfl (Nat.le_of_ble_eq_true rfl) ?_
  intro p e s m args below meth c A Q C hQ
  have hX6 : ∀ w ∈ wsX60, w ∈ wsX6_calves := by decide +kernel
  show Z p l e { frames := 1, cells := 0, slots := 0, locals := 23 } s m args below meth c X A 5 Q 0 0 (MW a X g) [(0, .ref (a 0))] 0 []
  refine z_ic C dX6_calves_0 1 (by decide) ?_
  refine z_isn C 1 [(1, .int 1), (0, .ref (a 0))] dX6_calves_1 rfl (by decide) rfl ?_
  refine z_bp C dX6_calves_2 11 (by decide) ?_
  refine z_isn C 2 [(2, .int 11), (1, .int 1), (0, .ref (a 0))] dX6_calves_4 rfl (by decide) rfl ?_
  refine z_lv [2, 1, 0] [(0, .ref (a 0)), (1, .int 1), (2, .int 11)] rfl ?_
  have LPk3 : ∀ (nk3 : Nat) (x1 : Int32) (x2 : zG), nk3 ≤ 12 → res = fX6_calves_L5 nk3 x1 x2 → Z p l e { frames := 1, cells := 0, slots := 0, locals := 23 } s m args below meth c X A 5 Q 0 0 (MW a X x2) [(0, .ref (a 0)), (1, .int x1), (2, .int (nI nk3 - 1))] 5 [] := by
    intro nk3
    induction nk3 with
    | zero =>
      intro x1 x2 hkk3 hF
      show Z p l e { frames := 1, cells := 0, slots := 0, locals := 23 } s m args below meth c X A 5 Q 0 0 (MW a X x2) [(0, .ref (a 0)), (1, .int x1), (2, .int (-1))] 5 []
      refine z_iln C dX6_calves_5 2 rfl ?_
      refine z_if_lt C 113 dX6_calves_6 (by decide) (fun c4 => ?_) (fun c4 => ?_)
      rotate_left
      · exact absurd (by decide) c4
      exact z_vret C hQ () dX6_calves_113 (by rw [hF]; first | done | rfl) (by decide) (by decide)
    | succ nk3 ihk3 =>
      intro x1 x2 hkk3 hF
      rw [nI_pred]
      refine z_iln C dX6_calves_5 2 rfl ?_
      refine z_if_lt C 113 dX6_calves_6 (by decide) (fun c5 => ?_) (fun c5 => ?_)
      · exact absurd c5 (nI_pos (by omega))
      refine z_iln C dX6_calves_9 1 rfl ?_
      refine z_if_eq C 113 dX6_calves_10 (by decide) (fun c6 => ?_) (fun c6 => ?_)
      · have hF := hF.trans (if_pos c6)
        exact z_vret C hQ () dX6_calves_113 (by rw [hF]; first | done | rfl) (by decide) (by decide)
      · have hF := hF.trans (if_neg c6)
        refine z_aln C dX6_calves_13 0 rfl ?_
        refine z_iln C dX6_calves_14 2 rfl ?_
        refine z_cVi0 (As := [.int (nI nk3)]) (rest := []) C (mX6_iceOf l X a x2 nk3 (by omega)) gX6_calves_X6_iceOf rfl ⟨rfl, by decide, by decide, (by decide : (parseMethodDescriptor yX6_iceOf.desc).map (fun d => d.parameters.length) = some 1)⟩ ⟨by decide, by decide⟩ ⟨by decide, by decide⟩ 0 6 rfl rfl (Nat.le_of_ble_eq_true rfl) dX6_calves_15 rfl ?_
        obtain ⟨v7, hv7⟩ : ∃ z9v, z9v = ((fX6_iceOf x2 nk3) : Int32) := ⟨_, rfl⟩
        have hF := hF.trans (jn_at hv7)
        refine z_nm hv7 ?_
        refine z_isn C 3 [(3, .int v7), (0, .ref (a 0)), (1, .int x1), (2, .int (nI nk3))] dX6_calves_18 rfl (by decide) rfl ?_
        obtain ⟨v8, hv8⟩ : ∃ z9v, z9v = ((if (fX6_isInSea x2 nk3) = 0 then 0 else (if v7 = 0 then 1 else (if (10 * ((x2 10 1) - ((x2 0) (0 + nk3)))) ≤ (9 * v7) then 0 else 1))) : Int32) := ⟨_, rfl⟩
        have hF := hF.trans (jn_at hv8)
        have Jv8 : Z p l e { frames := 1, cells := 0, slots := 0, locals := 23 } s m args below meth c X A 5 Q 0 0 (MW a X x2) [(0, .ref (a 0)), (1, .int x1), (2, .int (nI nk3)), (3, .int v7)] 59 [.int v8] := by
          refine z_isn C 1 [(1, .int v8), (0, .ref (a 0)), (2, .int (nI nk3)), (3, .int v7)] dX6_calves_59 rfl (by decide) rfl ?_
          obtain ⟨v12, hv12⟩ : ∃ z9v, z9v = ((if v8 = 0 then x2 else (jn (fX6_calves_L78 nk3 61 0 (va_up x2 0 (upd (x2 0) 85 (((x2 0) 85) + v7)))) (fun (v14 : zG) => v14))) : zG) := ⟨_, rfl⟩
          have hF := hF.trans (jn_at hv12)
          have Jv12 : Z p l e { frames := 1, cells := 0, slots := 0, locals := 23 } s m args below meth c X A 5 Q 0 0 (MW a X v12) [(0, .ref (a 0)), (1, .int v8), (2, .int (nI nk3)), (3, .int v7)] 107 [] := by
            refine z_inc C 2 (nI nk3 - 1) [(2, .int (nI nk3 - 1)), (0, .ref (a 0)), (1, .int v8), (3, .int v7)] dX6_calves_107 rfl (zn_dn nk3) (by decide) rfl ?_
            refine z_go C 5 dX6_calves_110 (by decide) ?_
            refine z_lv [1, 2, 0] [(0, .ref (a 0)), (1, .int v8), (2, .int (nI nk3 - 1))] rfl ?_
            exact ihk3 v8 v12 (by omega) hF
          refine z_iln C dX6_calves_60 0 rfl ?_
          refine z_if_eq C 107 dX6_calves_61 (by decide) (fun c13 => ?_) (fun c13 => ?_)
          · have hv12 := hv12.trans (if_pos c13)
            refine z_lv [1, 0, 2, 3] [(0, .ref (a 0)), (1, .int v8), (2, .int (nI nk3)), (3, .int v7)] rfl ?_
            rw [hv12] at Jv12
            exact Jv12
          · have hv12 := hv12.trans (if_neg c13)
            refine z_aln C dX6_calves_64 1 rfl ?_
            refine z_get (v := .ref (a 1)) C 0 5 dX6_calves_65 rfl rfl rfl hX6 (by decide) (by decide +kernel) rfl ?_
            refine z_bp C dX6_calves_68 85 (by decide) ?_
            refine z_dup2 C dX6_calves_70 rfl rfl ?_
            refine z_iald (f := (x2 0)) C 1 85 dX6_calves_71 rfl (by decide) rfl (by omega) ?_
            refine z_iln C dX6_calves_72 3 rfl ?_
            refine z_iadd C dX6_calves_73 (((x2 0) 85) + v7) rfl ?_
            refine z_iast (f := (x2 0)) C 1 85 (MW a X (va_up x2 0 (upd (x2 0) 85 (((x2 0) 85) + v7)))) dX6_calves_74 rfl (by decide) rfl (by omega) rfl ?_
            obtain ⟨v14, hv14⟩ : ∃ z9v, z9v = ((fX6_calves_L78 nk3 61 0 (va_up x2 0 (upd (x2 0) 85 (((x2 0) 85) + v7)))) : zG) := ⟨_, rfl⟩
            have hv12 := hv12.trans (jn_at hv14)
            have Jv14 : Z p l e { frames := 1, cells := 0, slots := 0, locals := 23 } s m args below meth c X A 5 Q 0 0 (MW a X v14) [(0, .ref (a 0)), (1, .int v8), (2, .int (nI nk3)), (3, .int v7)] 107 [] := by
              rw [hv12] at Jv12
              exact Jv12
            refine z_ic C dX6_calves_75 0 (by decide) ?_
            refine z_is C [(4, .int 0), (1, .int v8), (0, .ref (a 0)), (2, .int (nI nk3)), (3, .int v7)] dX6_calves_76 (by decide) rfl ?_
            refine z_lv [2, 1, 3, 4, 0] [(0, .ref (a 0)), (1, .int v8), (2, .int (nI nk3)), (3, .int v7), (4, .int 0)] rfl ?_
            have LPk16 : ∀ (nk16 k16 : Nat) (x15 : zG), k16 + nk16 = 61 → v14 = fX6_calves_L78 nk3 nk16 k16 x15 → Z p l e { frames := 1, cells := 0, slots := 0, locals := 23 } s m args below meth c X A 5 Q 0 0 (MW a X x15) [(0, .ref (a 0)), (1, .int v8), (2, .int (nI nk3)), (3, .int v7), (4, .int (nI k16))] 78 [] := by
              intro nk16
              induction nk16 with
              | zero =>
                intro k16 x15 hkk16 hv14
                refine z_il C dX6_calves_78 4 rfl ?_
                refine z_bp C dX6_calves_80 61 (by decide) ?_
                refine z_ic_geN C k16 61 107 dX6_calves_82 (by decide) rfl rfl (by omega) (by omega) (fun c17 => ?_) (fun c17 => ?_)
                rotate_left
                · exact absurd c17 (by omega)
                refine z_lv [0, 1, 2, 3] [(0, .ref (a 0)), (1, .int v8), (2, .int (nI nk3)), (3, .int v7)] rfl ?_
                rw [hv14] at Jv14
                exact Jv14
              | succ nk16 ihk16 =>
                intro k16 x15 hkk16 hv14
                refine z_il C dX6_calves_78 4 rfl ?_
                refine z_bp C dX6_calves_80 61 (by decide) ?_
                refine z_ic_geN C k16 61 107 dX6_calves_82 (by decide) rfl rfl (by omega) (by omega) (fun c18 => ?_) (fun c18 => ?_)
                · exact absurd c18 (by omega)
                refine z_aln C dX6_calves_85 0 rfl ?_
                refine z_get (v := .ref (a 1)) C 0 5 dX6_calves_86 rfl rfl rfl hX6 (by decide) (by decide +kernel) rfl ?_
                refine z_bp C dX6_calves_89 100 (by decide) ?_
                refine z_bp C dX6_calves_91 61 (by decide) ?_
                refine z_iln C dX6_calves_93 2 rfl ?_
                refine z_imul C dX6_calves_94 (nI (61 * nk3)) (pk_mul 61 nk3) ?_
                refine z_iadd C dX6_calves_95 (nI (100 + (61 * nk3))) (nI_add 100 (61 * nk3)) ?_
                refine z_il C dX6_calves_96 4 rfl ?_
                refine z_iadd C dX6_calves_98 (nI ((100 + (61 * nk3)) + k16)) (nI_add (100 + (61 * nk3)) k16) ?_
                refine z_ic C dX6_calves_99 0 (by decide) ?_
                refine z_iast (f := (x15 0)) C 1 ((100 + (61 * nk3)) + k16) (MW a X (va_up x15 0 (upd (x15 0) ((100 + (61 * nk3)) + k16) 0))) dX6_calves_100 rfl (by decide) rfl (by omega) rfl ?_
                refine z_inc C 4 (nI (k16 + 1)) [(4, .int (nI (k16 + 1))), (0, .ref (a 0)), (1, .int v8), (2, .int (nI nk3)), (3, .int v7)] dX6_calves_101 rfl (nI_add k16 1) (by decide) rfl ?_
                refine z_go C 78 dX6_calves_104 (by decide) ?_
                refine z_lv [1, 2, 3, 4, 0] [(0, .ref (a 0)), (1, .int v8), (2, .int (nI nk3)), (3, .int v7), (4, .int (nI (k16 + 1)))] rfl ?_
                exact ihk16 (k16 + 1) (va_up x15 0 (upd (x15 0) ((100 + (61 * nk3)) + k16) 0)) (by omega) hv14
            exact LPk16 61 0 (va_up x2 0 (upd (x2 0) 85 (((x2 0) 85) + v7))) (by omega) hv14
        refine z_aln C dX6_calves_19 1 rfl ?_
        refine z_iln C dX6_calves_20 3 rfl ?_
        refine z_cVi0 (As := [.int (nI nk3)]) (rest := []) C (mX6_isInSea l X a x2 nk3 (by omega)) gX6_calves_X6_isInSea rfl ⟨rfl, by decide, by decide, (by decide : (parseMethodDescriptor yX6_isInSea.desc).map (fun d => d.parameters.length) = some 1)⟩ ⟨by decide, by decide⟩ ⟨by decide, by decide⟩ 0 6 rfl rfl (Nat.le_of_ble_eq_true rfl) dX6_calves_21 rfl ?_
        refine z_if_eq C 58 dX6_calves_24 (by decide) (fun c9 => ?_) (fun c9 => ?_)
        · have hv8 := hv8.trans (if_pos c9)
          refine z_ic C dX6_calves_58 0 (by decide) ?_
          refine z_lv [1, 2, 3, 0] [(0, .ref (a 0)), (1, .int x1), (2, .int (nI nk3)), (3, .int v7)] rfl ?_
          rw [hv8] at Jv8
          exact Jv8
        · have hv8 := hv8.trans (if_neg c9)
          refine z_iln C dX6_calves_27 0 rfl ?_
          refine z_if_eq C 54 dX6_calves_28 (by decide) (fun c10 => ?_) (fun c10 => ?_)
          · have hv8 := hv8.trans (if_pos c10)
            refine z_ic C dX6_calves_54 1 (by decide) ?_
            refine z_go C 59 dX6_calves_55 (by decide) ?_
            refine z_lv [1, 2, 3, 0] [(0, .ref (a 0)), (1, .int x1), (2, .int (nI nk3)), (3, .int v7)] rfl ?_
            rw [hv8] at Jv8
            exact Jv8
          · have hv8 := hv8.trans (if_neg c10)
            refine z_bp C dX6_calves_31 9 (by decide) ?_
            refine z_iln C dX6_calves_33 0 rfl ?_
            refine z_imul C dX6_calves_34 (9 * v7) rfl ?_
            refine z_bp C dX6_calves_35 10 (by decide) ?_
            refine z_aln C dX6_calves_37 1 rfl ?_
            refine z_get (v := .int (x2 10 1)) C 0 1 dX6_calves_38 rfl rfl rfl hX6 (by decide) (by decide +kernel) rfl ?_
            refine z_aln C dX6_calves_41 1 rfl ?_
            refine z_get (v := .ref (a 1)) C 0 5 dX6_calves_42 rfl rfl rfl hX6 (by decide) (by decide +kernel) rfl ?_
            refine z_ic C dX6_calves_45 0 (by decide) ?_
            refine z_iln C dX6_calves_46 3 rfl ?_
            refine z_iadd C dX6_calves_47 (nI (0 + nk3)) (nI_add 0 nk3) ?_
            refine z_iald (f := (x2 0)) C 1 (0 + nk3) dX6_calves_48 rfl (by decide) rfl (by omega) ?_
            refine z_isub C dX6_calves_49 ((x2 10 1) - ((x2 0) (0 + nk3))) rfl ?_
            refine z_imul C dX6_calves_50 (10 * ((x2 10 1) - ((x2 0) (0 + nk3)))) rfl ?_
            refine z_ic_ge C 58 dX6_calves_51 (by decide) (fun c11 => ?_) (fun c11 => ?_)
            · have hv8 := hv8.trans (if_pos c11)
              refine z_ic C dX6_calves_58 0 (by decide) ?_
              refine z_lv [1, 2, 3, 0] [(0, .ref (a 0)), (1, .int x1), (2, .int (nI nk3)), (3, .int v7)] rfl ?_
              rw [hv8] at Jv8
              exact Jv8
            · have hv8 := hv8.trans (if_neg c11)
              refine z_ic C dX6_calves_54 1 (by decide) ?_
              refine z_go C 59 dX6_calves_55 (by decide) ?_
              refine z_lv [1, 2, 3, 0] [(0, .ref (a 0)), (1, .int x1), (2, .int (nI nk3)), (3, .int v7)] rfl ?_
              rw [hv8] at Jv8
              exact Jv8
  exact LPk3 12 1 g (by omega) hF
set_option maxHeartbeats 4000000 in
set_option maxRecDepth 100000 in
theorem mX6_ends (l : Launch) (X : zX) (a : Nat → Nat) (g : zG) (b yr fb bb : Nat) (hy0 : MP g b yr fb bb) : CV l yX6_ends wsX6_ends 1 23 0 0 X (MW a X g) [.ref (a 0)] (MW a X (fX6_ends g)) := by
  obtain ⟨res, hF⟩ : ∃ z9r, z9r = fX6_ends g := ⟨_, rfl⟩
  rw [← hF]
  refine cu_intro (cc := cX6_ends) (ret := none) (maxL := 5) (by decide +kernel) rfl (Nat.le_of_ble_eq_true rfl) ?_
  intro p e s m args below meth c A Q C hQ
  have hX6 : ∀ w ∈ wsX60, w ∈ wsX6_ends := by decide +kernel
  show Z p l e { frames := 1, cells := 0, slots := 0, locals := 23 } s m args below meth c X A 5 Q 0 0 (MW a X g) [(0, .ref (a 0))] 0 []
  refine z_ic C dX6_ends_0 (-1) (by decide) ?_
  refine z_isn C 1 [(1, .int (-1)), (0, .ref (a 0))] dX6_ends_1 rfl (by decide) rfl ?_
  refine z_ic C dX6_ends_2 0 (by decide) ?_
  refine z_isn C 2 [(2, .int 0), (1, .int (-1)), (0, .ref (a 0))] dX6_ends_3 rfl (by decide) rfl ?_
  refine z_lv [2, 1, 0] [(0, .ref (a 0)), (1, .int (-1)), (2, .int 0)] rfl ?_
  have LPk3 : ∀ (nk3 k3 : Nat) (x1 : Int32) (x2 : zG), k3 + nk3 = 12 → (x2 0 89 = nI yr ∧ x1.toInt < 12 ∧ -1 ≤ x1.toInt) → res = fX6_ends_L4 nk3 k3 x1 x2 → Z p l e { frames := 1, cells := 0, slots := 0, locals := 23 } s m args below meth c X A 5 Q 0 0 (MW a X x2) [(0, .ref (a 0)), (1, .int x1), (2, .int (nI k3))] 4 [] := by
    intro nk3
    induction nk3 with
    | zero =>
      intro k3 x1 x2 hkk3 hik3 hF
      refine z_iln C dX6_ends_4 2 rfl ?_
      refine z_bp C dX6_ends_5 12 (by decide) ?_
      refine z_ic_geN C k3 12 93 dX6_ends_7 (by decide) rfl rfl (by omega) (by omega) (fun c4 => ?_) (fun c4 => ?_)
      rotate_left
      · exact absurd c4 (by omega)
      have hyr : x2 0 89 = nI yr := hik3.1
      have hyr9 := mp_yr hy0
      refine z_aln C dX6_ends_93 0 rfl ?_
      refine z_get (v := .ref (a 1)) C 0 5 dX6_ends_94 rfl rfl rfl hX6 (by decide) (by decide +kernel) rfl ?_
      refine z_sp C dX6_ends_97 900 (by decide) ?_
      refine z_aln C dX6_ends_100 0 rfl ?_
      refine z_get (v := .ref (a 1)) C 0 5 dX6_ends_101 rfl rfl rfl hX6 (by decide) (by decide +kernel) rfl ?_
      refine z_bp C dX6_ends_104 89 (by decide) ?_
      refine z_iald (f := (x2 0)) C 1 89 dX6_ends_106 rfl (by decide) rfl (by omega) ?_
      refine z_nm (show nI ((x2 0 89).toNatClampNeg) = ((x2 0) 89) from (by rw [hyr, nI_clamp (by omega)])) ?_
      refine z_iadd C dX6_ends_107 (nI (900 + (x2 0 89).toNatClampNeg)) (nI_add 900 ((x2 0 89).toNatClampNeg)) ?_
      refine z_iln C dX6_ends_108 1 rfl ?_
      refine z_iast (f := (x2 0)) C 1 (900 + (x2 0 89).toNatClampNeg) (MW a X (va_up x2 0 (upd (x2 0) (900 + (x2 0 89).toNatClampNeg) x1))) dX6_ends_109 rfl (by decide) rfl (by rw [hyr, nI_clamp (by omega)]; omega) rfl ?_
      obtain ⟨g5, hg5⟩ : ∃ z9v : zG, z9v = (va_up x2 0 (upd (x2 0) (900 + (x2 0 89).toNatClampNeg) x1)) := ⟨_, rfl⟩
      rw [← hg5]
      have hF := hF.trans (jn_at hg5)
      refine z_iln C dX6_ends_110 1 rfl ?_
      refine z_ic C dX6_ends_111 (-1) (by decide) ?_
      refine z_ic_eq C 128 dX6_ends_112 (by decide) (fun c6 => ?_) (fun c6 => ?_)
      · have hF := hF.trans (if_pos c6)
        exact z_vret C hQ () dX6_ends_128 (by rw [hF]; first | done | rfl) (by decide) (by decide)
      · have hF := hF.trans (if_neg c6)
        refine z_aln C dX6_ends_115 0 rfl ?_
        refine z_get (v := .ref (a 1)) C 0 5 dX6_ends_116 rfl rfl rfl hX6 (by decide) (by decide +kernel) rfl ?_
        refine z_bp C dX6_ends_119 36 (by decide) ?_
        refine z_iln C dX6_ends_121 1 rfl ?_
        refine z_nm (show nI ((x1).toNatClampNeg) = x1 from (front_nat hik3.2 c6)) ?_
        refine z_iadd C dX6_ends_122 (nI (36 + (x1).toNatClampNeg)) (nI_add 36 ((x1).toNatClampNeg)) ?_
        refine z_dup2 C dX6_ends_123 rfl rfl ?_
        refine z_iald (f := (g5 0)) C 1 (36 + (x1).toNatClampNeg) dX6_ends_124 rfl (by decide) rfl (front_lt hik3.2 c6) ?_
        refine z_ic C dX6_ends_125 1 (by decide) ?_
        refine z_iadd C dX6_ends_126 (((g5 0) (36 + (x1).toNatClampNeg)) + 1) rfl ?_
        refine z_iast (f := (g5 0)) C 1 (36 + (x1).toNatClampNeg) (MW a X (va_up g5 0 (upd (g5 0) (36 + (x1).toNatClampNeg) (((g5 0) (36 + (x1).toNatClampNeg)) + 1)))) dX6_ends_127 rfl (by decide) rfl (front_lt hik3.2 c6) rfl ?_
        exact z_vret C hQ () dX6_ends_128 (by rw [hF]; first | done | rfl) (by decide) (by decide)
    | succ nk3 ihk3 =>
      intro k3 x1 x2 hkk3 hik3 hF
      refine z_iln C dX6_ends_4 2 rfl ?_
      refine z_bp C dX6_ends_5 12 (by decide) ?_
      refine z_ic_geN C k3 12 93 dX6_ends_7 (by decide) rfl rfl (by omega) (by omega) (fun c7 => ?_) (fun c7 => ?_)
      · exact absurd c7 (by omega)
      obtain ⟨v8, hv8⟩ : ∃ z9v, z9v = ((mEnd k3 x1 x2) : Int32 × zG) := ⟨_, rfl⟩
      have hF := hF.trans (jn_at hv8)
      have Jv8 : Z p l e { frames := 1, cells := 0, slots := 0, locals := 23 } s m args below meth c X A 5 Q 0 0 (MW a X v8.2) [(0, .ref (a 0)), (1, .int v8.1), (2, .int (nI k3))] 87 [] := by
        refine z_inc C 2 (nI (k3 + 1)) [(2, .int (nI (k3 + 1))), (0, .ref (a 0)), (1, .int v8.1)] dX6_ends_87 rfl (nI_add k3 1) (by decide) rfl ?_
        refine z_go C 4 dX6_ends_90 (by decide) ?_
        refine z_lv [1, 2, 0] [(0, .ref (a 0)), (1, .int v8.1), (2, .int (nI (k3 + 1)))] rfl ?_
        exact ihk3 (k3 + 1) v8.1 v8.2 (by omega) (by rw [hv8]; exact end_keep hik3 (by omega)) hF
      refine z_aln C dX6_ends_10 0 rfl ?_
      refine z_iln C dX6_ends_11 2 rfl ?_
      refine z_cVi0 (As := [.int (nI k3)]) (rest := []) C (mX6_iceOf l X a x2 k3 (by omega)) gX6_ends_X6_iceOf rfl ⟨rfl, by decide, by decide, (by decide : (parseMethodDescriptor yX6_iceOf.desc).map (fun d => d.parameters.length) = some 1)⟩ ⟨by decide, by decide⟩ ⟨by decide, by decide⟩ 0 6 rfl rfl (Nat.le_of_ble_eq_true rfl) dX6_ends_12 rfl ?_
      obtain ⟨v9, hv9⟩ : ∃ z9v, z9v = ((fX6_iceOf x2 k3) : Int32) := ⟨_, rfl⟩
      have hv8 := hv8.trans (jn_at hv9)
      refine z_nm hv9 ?_
      refine z_isn C 3 [(3, .int v9), (0, .ref (a 0)), (1, .int x1), (2, .int (nI k3))] dX6_ends_15 rfl (by decide) rfl ?_
      refine z_aln C dX6_ends_16 1 rfl ?_
      refine z_get (v := .ref (a 1)) C 0 5 dX6_ends_17 rfl rfl rfl hX6 (by decide) (by decide +kernel) rfl ?_
      refine z_bp C dX6_ends_20 12 (by decide) ?_
      refine z_iln C dX6_ends_22 3 rfl ?_
      refine z_iadd C dX6_ends_23 (nI (12 + k3)) (nI_add 12 k3) ?_
      refine z_iald (f := (x2 0)) C 1 (12 + k3) dX6_ends_24 rfl (by decide) rfl (by omega) ?_
      refine z_iln C dX6_ends_25 0 rfl ?_
      refine z_ic C dX6_ends_26 3 (by decide) ?_
      refine z_idiv C dX6_ends_27 (by decide) (v9 / 3) rfl ?_
      refine z_isub C dX6_ends_28 (((x2 0) (12 + k3)) - (v9 / 3)) rfl ?_
      obtain ⟨v10, hv10⟩ : ∃ z9v, z9v = ((((x2 0) (12 + k3)) - (v9 / 3)) : Int32) := ⟨_, rfl⟩
      have hv8 := hv8.trans (jn_at hv10)
      refine z_nm hv10 ?_
      refine z_is C [(4, .int v10), (3, .int v9), (0, .ref (a 0)), (1, .int x1), (2, .int (nI k3))] dX6_ends_29 (by decide) rfl ?_
      refine z_aln C dX6_ends_31 2 rfl ?_
      refine z_get (v := .ref (a 1)) C 0 5 dX6_ends_32 rfl rfl rfl hX6 (by decide) (by decide +kernel) rfl ?_
      refine z_ic C dX6_ends_35 0 (by decide) ?_
      refine z_iln C dX6_ends_36 4 rfl ?_
      refine z_iadd C dX6_ends_37 (nI (0 + k3)) (nI_add 0 k3) ?_
      refine z_dup2 C dX6_ends_38 rfl rfl ?_
      refine z_iald (f := (x2 0)) C 1 (0 + k3) dX6_ends_39 rfl (by decide) rfl (by omega) ?_
      obtain ⟨v11, hv11⟩ : ∃ z9v, z9v = ((if v10 ≤ ((x2 0) (0 + k3)) then (if ((x2 0) (0 + k3)) ≤ v10 then 0 else (-1)) else 1) : Int32) := ⟨_, rfl⟩
      have hv8 := hv8.trans (jn_at hv11)
      have Jv11 : Z p l e { frames := 1, cells := 0, slots := 0, locals := 23 } s m args below meth c X A 5 Q 0 0 (MW a X x2) [(0, .ref (a 0)), (1, .int x1), (2, .int (nI k3)), (3, .int v9), (4, .int v10)] 75 [.int v11, .int ((x2 0) (0 + k3)), .int (nI (0 + k3)), .ref (a 1)] := by
        refine z_iadd C dX6_ends_75 (((x2 0) (0 + k3)) + v11) rfl ?_
        refine z_iast (f := (x2 0)) C 1 (0 + k3) (MW a X (va_up x2 0 (upd (x2 0) (0 + k3) (((x2 0) (0 + k3)) + v11)))) dX6_ends_76 rfl (by decide) rfl (by omega) rfl ?_
        obtain ⟨v14, hv14⟩ : ∃ z9v, z9v = ((if v9 ≤ 0 then x1 else (nI k3)) : Int32) := ⟨_, rfl⟩
        have hv8 := hv8.trans (jn_at hv14)
        have Jv14 : Z p l e { frames := 1, cells := 0, slots := 0, locals := 23 } s m args below meth c X A 5 Q 0 0 (MW a X (va_up x2 0 (upd (x2 0) (0 + k3) (((x2 0) (0 + k3)) + v11)))) [(0, .ref (a 0)), (1, .int x1), (2, .int (nI k3)), (3, .int v9), (4, .int v10)] 86 [.int v14] := by
          refine z_isn C 1 [(1, .int v14), (0, .ref (a 0)), (2, .int (nI k3)), (3, .int v9), (4, .int v10)] dX6_ends_86 rfl (by decide) rfl ?_
          refine z_lv [1, 0, 2] [(0, .ref (a 0)), (1, .int v14), (2, .int (nI k3))] rfl ?_
          rw [hv8] at Jv8
          exact Jv8
        refine z_iln C dX6_ends_77 3 rfl ?_
        refine z_if_le C 85 dX6_ends_78 (by decide) (fun c15 => ?_) (fun c15 => ?_)
        · have hv14 := hv14.trans (if_pos c15)
          refine z_iln C dX6_ends_85 1 rfl ?_
          rw [hv14] at Jv14
          exact Jv14
        · have hv14 := hv14.trans (if_neg c15)
          refine z_iln C dX6_ends_81 2 rfl ?_
          refine z_go C 86 dX6_ends_82 (by decide) ?_
          rw [hv14] at Jv14
          exact Jv14
      refine z_il C dX6_ends_40 0 rfl ?_
      refine z_aln C dX6_ends_42 2 rfl ?_
      refine z_get (v := .ref (a 1)) C 0 5 dX6_ends_43 rfl rfl rfl hX6 (by decide) (by decide +kernel) rfl ?_
      refine z_ic C dX6_ends_46 0 (by decide) ?_
      refine z_iln C dX6_ends_47 4 rfl ?_
      refine z_iadd C dX6_ends_48 (nI (0 + k3)) (nI_add 0 k3) ?_
      refine z_iald (f := (x2 0)) C 1 (0 + k3) dX6_ends_49 rfl (by decide) rfl (by omega) ?_
      refine z_ic_le C 57 dX6_ends_50 (by decide) (fun c12 => ?_) (fun c12 => ?_)
      · have hv11 := hv11.trans (if_pos c12)
        refine z_il C dX6_ends_57 0 rfl ?_
        refine z_aln C dX6_ends_59 2 rfl ?_
        refine z_get (v := .ref (a 1)) C 0 5 dX6_ends_60 rfl rfl rfl hX6 (by decide) (by decide +kernel) rfl ?_
        refine z_ic C dX6_ends_63 0 (by decide) ?_
        refine z_iln C dX6_ends_64 4 rfl ?_
        refine z_iadd C dX6_ends_65 (nI (0 + k3)) (nI_add 0 k3) ?_
        refine z_iald (f := (x2 0)) C 1 (0 + k3) dX6_ends_66 rfl (by decide) rfl (by omega) ?_
        refine z_ic_ge C 74 dX6_ends_67 (by decide) (fun c13 => ?_) (fun c13 => ?_)
        · have hv11 := hv11.trans (if_pos c13)
          refine z_ic C dX6_ends_74 0 (by decide) ?_
          refine z_lv [2, 3, 4, 1, 0] [(0, .ref (a 0)), (1, .int x1), (2, .int (nI k3)), (3, .int v9), (4, .int v10)] rfl ?_
          rw [hv11] at Jv11
          exact Jv11
        · have hv11 := hv11.trans (if_neg c13)
          refine z_ic C dX6_ends_70 (-1) (by decide) ?_
          refine z_go C 75 dX6_ends_71 (by decide) ?_
          refine z_lv [2, 3, 4, 1, 0] [(0, .ref (a 0)), (1, .int x1), (2, .int (nI k3)), (3, .int v9), (4, .int v10)] rfl ?_
          rw [hv11] at Jv11
          exact Jv11
      · have hv11 := hv11.trans (if_neg c12)
        refine z_ic C dX6_ends_53 1 (by decide) ?_
        refine z_go C 75 dX6_ends_54 (by decide) ?_
        refine z_lv [2, 3, 4, 1, 0] [(0, .ref (a 0)), (1, .int x1), (2, .int (nI k3)), (3, .int v9), (4, .int v10)] rfl ?_
        rw [hv11] at Jv11
        exact Jv11
  exact LPk3 12 0 (-1) g (by omega) ⟨mp_year hy0, by decide, by decide⟩ hF
set_option maxHeartbeats 4000000 in
set_option maxRecDepth 100000 in
theorem mX6_passes (l : Launch) (X : zX) (a : Nat → Nat) (g : zG) (y : Nat) (b yr fb bb : Nat) (hy0 : MP g b yr fb bb) (hy1 : yr + y ≤ 60) (hy2 : b + 240 * y ≤ 1000000) (hy3 : fb + 12 * y ≤ 720) (hy4 : bb + y ≤ 1000) : CV l yX6_passes wsX6_passes 4 95 0 0 X (MW a X g) [.ref (a 0), .int (nI y)] (MW a X (fX6_passes g y)) := by
  obtain ⟨res, hF⟩ : ∃ z9r, z9r = fX6_passes g y := ⟨_, rfl⟩
  rw [← hF]
  refine cu_intro (cc := cX6_passes) (ret := none) (maxL := 3) (by decide +kernel) rfl (Nat.le_of_ble_eq_true rfl) ?_
  intro p e s m args below meth c A Q C hQ
  have hX6 : ∀ w ∈ wsX60, w ∈ wsX6_passes := by decide +kernel
  show Z p l e { frames := 4, cells := 0, slots := 0, locals := 95 } s m args below meth c X A 3 Q 0 0 (MW a X g) [(0, .ref (a 0)), (1, .int (nI y))] 0 []
  refine z_ic C dX6_passes_0 0 (by decide) ?_
  refine z_isn C 2 [(2, .int 0), (0, .ref (a 0)), (1, .int (nI y))] dX6_passes_1 rfl (by decide) rfl ?_
  refine z_lv [1, 2, 0] [(0, .ref (a 0)), (1, .int (nI y)), (2, .int 0)] rfl ?_
  have LPk2 : ∀ (nk2 k2 : Nat) (x1 : zG), k2 + nk2 = y → (MP x1 (b + 240 * k2) (yr + k2) (fb + 12 * k2) (bb + k2)) → res = fX6_passes_L2 nk2 k2 x1 → Z p l e { frames := 4, cells := 0, slots := 0, locals := 95 } s m args below meth c X A 3 Q 0 0 (MW a X x1) [(0, .ref (a 0)), (1, .int (nI y)), (2, .int (nI k2))] 2 [] := by
    intro nk2
    induction nk2 with
    | zero =>
      intro k2 x1 hkk2 hik2 hF
      refine z_iln C dX6_passes_2 2 rfl ?_
      refine z_iln C dX6_passes_3 1 rfl ?_
      refine z_ic_geN C k2 y 48 dX6_passes_4 (by decide) rfl rfl (by omega) (by omega) (fun c3 => ?_) (fun c3 => ?_)
      rotate_left
      · exact absurd c3 (by omega)
      exact z_vret C hQ () dX6_passes_48 (by rw [hF]; first | done | rfl) (by decide) (by decide)
    | succ nk2 ihk2 =>
      intro k2 x1 hkk2 hik2 hF
      refine z_iln C dX6_passes_2 2 rfl ?_
      refine z_iln C dX6_passes_3 1 rfl ?_
      refine z_ic_geN C k2 y 48 dX6_passes_4 (by decide) rfl rfl (by omega) (by omega) (fun c4 => ?_) (fun c4 => ?_)
      · exact absurd c4 (by omega)
      refine z_aln C dX6_passes_7 0 rfl ?_
      refine z_get (v := .ref (a 1)) C 0 5 dX6_passes_8 rfl rfl rfl hX6 (by decide) (by decide +kernel) rfl ?_
      refine z_bp C dX6_passes_11 89 (by decide) ?_
      refine z_dup2 C dX6_passes_13 rfl rfl ?_
      refine z_iald (f := (x1 0)) C 1 89 dX6_passes_14 rfl (by decide) rfl (by omega) ?_
      refine z_ic C dX6_passes_15 1 (by decide) ?_
      refine z_iadd C dX6_passes_16 (((x1 0) 89) + 1) rfl ?_
      refine z_iast (f := (x1 0)) C 1 89 (MW a X (va_up x1 0 (upd (x1 0) 89 (((x1 0) 89) + 1)))) dX6_passes_17 rfl (by decide) rfl (by omega) rfl ?_
      have hms0 := mp_year1 hik2 (by omega)
      refine z_aln C dX6_passes_18 0 rfl ?_
      refine z_cVv0 (As := []) (rest := []) C (mX6_snows l X a (va_up x1 0 (upd (x1 0) 89 (((x1 0) 89) + 1))) _ _ _ _ hms0 (by omega)) gX6_passes_X6_snows rfl ⟨rfl, by decide, by decide, (by decide : (parseMethodDescriptor yX6_snows.desc).map (fun d => d.parameters.length) = some 0)⟩ ⟨by decide, by decide⟩ ⟨by decide, by decide⟩ 0 6 rfl rfl (Nat.le_of_ble_eq_true rfl) dX6_passes_19 rfl ?_
      obtain ⟨u5, hu5⟩ : ∃ z9u, z9u = (fX6_snows (va_up x1 0 (upd (x1 0) 89 (((x1 0) 89) + 1)))) := ⟨_, rfl⟩
      rw [← hu5]
      have hF := hF.trans (jn_at hu5)
      have hms1 := mp_snows hms0 (by omega)
      rw [← hu5] at hms1
      refine z_aln C dX6_passes_22 0 rfl ?_
      refine z_cVv0 (As := []) (rest := []) C (mX6_flows l X a u5 _ _ _ _ hms1 (by omega) (by omega)) gX6_passes_X6_flows rfl ⟨rfl, by decide, by decide, (by decide : (parseMethodDescriptor yX6_flows.desc).map (fun d => d.parameters.length) = some 0)⟩ ⟨by decide, by decide⟩ ⟨by decide, by decide⟩ 0 6 rfl rfl (Nat.le_of_ble_eq_true rfl) dX6_passes_23 rfl ?_
      obtain ⟨u6, hu6⟩ : ∃ z9u, z9u = (fX6_flows u5) := ⟨_, rfl⟩
      rw [← hu6]
      have hF := hF.trans (jn_at hu6)
      have hms2 := mp_flows hms1 (by omega) (by omega)
      rw [← hu6] at hms2
      refine z_aln C dX6_passes_26 0 rfl ?_
      refine z_cVv0 (As := []) (rest := []) C (mX6_runs l X a u6 ) gX6_passes_X6_runs rfl ⟨rfl, by decide, by decide, (by decide : (parseMethodDescriptor yX6_runs.desc).map (fun d => d.parameters.length) = some 0)⟩ ⟨by decide, by decide⟩ ⟨by decide, by decide⟩ 0 6 rfl rfl (Nat.le_of_ble_eq_true rfl) dX6_passes_27 rfl ?_
      obtain ⟨u7, hu7⟩ : ∃ z9u, z9u = (fX6_runs u6) := ⟨_, rfl⟩
      rw [← hu7]
      have hF := hF.trans (jn_at hu7)
      have hms3 := mp_runs hms2
      rw [← hu7] at hms3
      refine z_aln C dX6_passes_30 0 rfl ?_
      refine z_cVv0 (As := []) (rest := []) C (mX6_breaks l X a u7 _ _ _ _ hms3 (by omega)) gX6_passes_X6_breaks rfl ⟨rfl, by decide, by decide, (by decide : (parseMethodDescriptor yX6_breaks.desc).map (fun d => d.parameters.length) = some 0)⟩ ⟨by decide, by decide⟩ ⟨by decide, by decide⟩ 0 6 rfl rfl (Nat.le_of_ble_eq_true rfl) dX6_passes_31 rfl ?_
      obtain ⟨u8, hu8⟩ : ∃ z9u, z9u = (fX6_breaks u7) := ⟨_, rfl⟩
      rw [← hu8]
      have hF := hF.trans (jn_at hu8)
      have hms4 := mp_breaks hms3 (by omega)
      rw [← hu8] at hms4
      refine z_aln C dX6_passes_34 0 rfl ?_
      refine z_cVv0 (As := []) (rest := []) C (mX6_calves l X a u8 ) gX6_passes_X6_calves rfl ⟨rfl, by decide, by decide, (by decide : (parseMethodDescriptor yX6_calves.desc).map (fun d => d.parameters.length) = some 0)⟩ ⟨by decide, by decide⟩ ⟨by decide, by decide⟩ 0 6 rfl rfl (Nat.le_of_ble_eq_true rfl) dX6_passes_35 rfl ?_
      obtain ⟨u9, hu9⟩ : ∃ z9u, z9u = (fX6_calves u8) := ⟨_, rfl⟩
      rw [← hu9]
      have hF := hF.trans (jn_at hu9)
      have hms5 := mp_calves hms4 (by omega)
      rw [← hu9] at hms5
      refine z_aln C dX6_passes_38 0 rfl ?_
      refine z_cVv0 (As := []) (rest := []) C (mX6_ends l X a u9 _ _ _ _ hms5) gX6_passes_X6_ends rfl ⟨rfl, by decide, by decide, (by decide : (parseMethodDescriptor yX6_ends.desc).map (fun d => d.parameters.length) = some 0)⟩ ⟨by decide, by decide⟩ ⟨by decide, by decide⟩ 0 6 rfl rfl (Nat.le_of_ble_eq_true rfl) dX6_passes_39 rfl ?_
      obtain ⟨u10, hu10⟩ : ∃ z9u, z9u = (fX6_ends u9) := ⟨_, rfl⟩
      rw [← hu10]
      have hF := hF.trans (jn_at hu10)
      refine z_inc C 2 (nI (k2 + 1)) [(2, .int (nI (k2 + 1))), (0, .ref (a 0)), (1, .int (nI y))] dX6_passes_42 rfl (nI_add k2 1) (by decide) rfl ?_
      refine z_go C 2 dX6_passes_45 (by decide) ?_
      refine z_lv [1, 2, 0] [(0, .ref (a 0)), (1, .int (nI y)), (2, .int (nI (k2 + 1)))] rfl ?_
      exact ihk2 (k2 + 1) u10 (by omega) (by have h9 := mp_ends hms5 (by omega); rw [← hu10] at h9; exact h9) hF
  exact LPk2 y 0 g (by omega) hy0 hF
set_option maxHeartbeats 4000000 in
set_option maxRecDepth 100000 in
theorem mX6_tells (l : Launch) (X : zX) (a : Nat → Nat) (g : zG) (k : Nat) (w : Int32) (hy0 : k < 12) : CI l yX6_tells wsX6_tells 2 44 0 0 X (MW a X g) [.ref (a 0), .int (nI k), .int w] (fX6_tells g k w) (MW a X g) := by
  obtain ⟨res, hF⟩ : ∃ z9r, z9r = fX6_tells g k w := ⟨_, rfl⟩
  rw [← hF]
  refine ci_intro (cc := cX6_tells) (ret := (some .int)) (maxL := 5) (by decide +kernel) rfl (Nat.le_of_ble_eq_true rfl) ?_
  intro p e s m args below meth c A Q C hQ
  have hX6 : ∀ w ∈ wsX60, w ∈ wsX6_tells := by decide +kernel
  show Z p l e { frames := 2, cells := 0, slots := 0, locals := 44 } s m args below meth c X A 5 Q 0 0 (MW a X g) [(0, .ref (a 0)), (1, .int (nI k)), (2, .int w)] 0 []
  refine z_aln C dX6_tells_0 0 rfl ?_
  refine z_get (v := .ref (a 1)) C 0 5 dX6_tells_1 rfl rfl rfl hX6 (by decide) (by decide +kernel) rfl ?_
  refine z_bp C dX6_tells_4 60 (by decide) ?_
  refine z_iln C dX6_tells_6 1 rfl ?_
  refine z_iadd C dX6_tells_7 (nI (60 + k)) (nI_add 60 k) ?_
  refine z_iald (f := (g 0)) C 1 (60 + k) dX6_tells_8 rfl (by decide) rfl (by omega) ?_
  refine z_aln C dX6_tells_9 0 rfl ?_
  refine z_get (v := .ref (a 1)) C 0 5 dX6_tells_10 rfl rfl rfl hX6 (by decide) (by decide +kernel) rfl ?_
  refine z_bp C dX6_tells_13 72 (by decide) ?_
  refine z_iln C dX6_tells_15 1 rfl ?_
  refine z_iadd C dX6_tells_16 (nI (72 + k)) (nI_add 72 k) ?_
  refine z_iald (f := (g 0)) C 1 (72 + k) dX6_tells_17 rfl (by decide) rfl (by omega) ?_
  refine z_isub C dX6_tells_18 (((g 0) (60 + k)) - ((g 0) (72 + k))) rfl ?_
  obtain ⟨v1, hv1⟩ : ∃ z9v, z9v = ((((g 0) (60 + k)) - ((g 0) (72 + k))) : Int32) := ⟨_, rfl⟩
  have hF := hF.trans (jn_at hv1)
  refine z_nm hv1 ?_
  refine z_isn C 3 [(3, .int v1), (0, .ref (a 0)), (1, .int (nI k)), (2, .int w)] dX6_tells_19 rfl (by decide) rfl ?_
  obtain ⟨v2, hv2⟩ : ∃ z9v, z9v = ((if 5 ≤ v1 then 1 else (if (-5) < v1 then 0 else 1)) : Int32) := ⟨_, rfl⟩
  have hF := hF.trans (jn_at hv2)
  have Jv2 : Z p l e { frames := 2, cells := 0, slots := 0, locals := 44 } s m args below meth c X A 5 Q 0 0 (MW a X g) [(0, .ref (a 0)), (1, .int (nI k)), (2, .int w), (3, .int v1)] 36 [.int v2] := by
    refine z_is C [(4, .int v2), (0, .ref (a 0)), (1, .int (nI k)), (2, .int w), (3, .int v1)] dX6_tells_36 (by decide) rfl ?_
    refine z_iln C dX6_tells_38 3 rfl ?_
    refine z_if_ne C 53 dX6_tells_39 (by decide) (fun c5 => ?_) (fun c5 => ?_)
    · have hF := hF.trans (if_neg c5)
      refine z_iln C dX6_tells_53 3 rfl ?_
      refine z_ic C dX6_tells_54 1 (by decide) ?_
      refine z_ic_ne C 66 dX6_tells_55 (by decide) (fun c6 => ?_) (fun c6 => ?_)
      · have hF := hF.trans (if_neg c6)
        refine z_iln C dX6_tells_66 3 rfl ?_
        refine z_ic C dX6_tells_67 2 (by decide) ?_
        refine z_ic_ne C 83 dX6_tells_68 (by decide) (fun c7 => ?_) (fun c7 => ?_)
        · have hF := hF.trans (if_neg c7)
          refine z_iln C dX6_tells_83 3 rfl ?_
          refine z_ic C dX6_tells_84 3 (by decide) ?_
          refine z_ic_ne C 96 dX6_tells_85 (by decide) (fun c8 => ?_) (fun c8 => ?_)
          · have hF := hF.trans (if_neg c8)
            refine z_iln C dX6_tells_96 3 rfl ?_
            refine z_ic C dX6_tells_97 4 (by decide) ?_
            refine z_ic_ne C 113 dX6_tells_98 (by decide) (fun c9 => ?_) (fun c9 => ?_)
            · have hF := hF.trans (if_neg c9)
              refine z_iln C dX6_tells_113 3 rfl ?_
              refine z_ic C dX6_tells_114 5 (by decide) ?_
              refine z_ic_ne C 131 dX6_tells_115 (by decide) (fun c10 => ?_) (fun c10 => ?_)
              · have hF := hF.trans (if_neg c10)
                refine z_iln C dX6_tells_131 3 rfl ?_
                refine z_bp C dX6_tells_132 6 (by decide) ?_
                refine z_ic_ne C 163 dX6_tells_134 (by decide) (fun c11 => ?_) (fun c11 => ?_)
                · have hF := hF.trans (if_neg c11)
                  refine z_iln C dX6_tells_163 3 rfl ?_
                  refine z_bp C dX6_tells_164 7 (by decide) ?_
                  refine z_ic_ne C 185 dX6_tells_166 (by decide) (fun c12 => ?_) (fun c12 => ?_)
                  · have hF := hF.trans (if_neg c12)
                    refine z_iln C dX6_tells_185 3 rfl ?_
                    refine z_bp C dX6_tells_186 8 (by decide) ?_
                    refine z_ic_ne C 203 dX6_tells_188 (by decide) (fun c13 => ?_) (fun c13 => ?_)
                    · have hF := hF.trans (if_neg c13)
                      refine z_aln C dX6_tells_203 1 rfl ?_
                      refine z_iln C dX6_tells_204 2 rfl ?_
                      refine z_cVi0 (As := [.int (nI k)]) (rest := []) C (mX6_potentialOf l X a g k (by omega)) gX6_tells_X6_potentialOf rfl ⟨rfl, by decide, by decide, (by decide : (parseMethodDescriptor yX6_potentialOf.desc).map (fun d => d.parameters.length) = some 1)⟩ ⟨by decide, by decide⟩ ⟨by decide, by decide⟩ 0 6 rfl rfl (Nat.le_of_ble_eq_true rfl) dX6_tells_205 rfl ?_
                      exact z_iret C hQ dX6_tells_208 (by rw [hF]; first | done | rfl) rfl (by decide) (by decide)
                    · have hF := hF.trans (if_pos c13)
                      refine z_aln C dX6_tells_191 1 rfl ?_
                      refine z_get (v := .ref (a 1)) C 0 5 dX6_tells_192 rfl rfl rfl hX6 (by decide) (by decide +kernel) rfl ?_
                      refine z_bp C dX6_tells_195 12 (by decide) ?_
                      refine z_iln C dX6_tells_197 2 rfl ?_
                      refine z_iadd C dX6_tells_198 (nI (12 + k)) (nI_add 12 k) ?_
                      refine z_iald (f := (g 0)) C 1 (12 + k) dX6_tells_199 rfl (by decide) rfl (by omega) ?_
                      refine z_go C 208 dX6_tells_200 (by decide) ?_
                      exact z_iret C hQ dX6_tells_208 (by rw [hF]; first | done | rfl) rfl (by decide) (by decide)
                  · have hF := hF.trans (if_pos c12)
                    refine z_aln C dX6_tells_169 1 rfl ?_
                    refine z_iln C dX6_tells_170 2 rfl ?_
                    refine z_cVi0 (As := [.int (nI k)]) (rest := []) C (mX6_isInSea l X a g k (by omega)) gX6_tells_X6_isInSea rfl ⟨rfl, by decide, by decide, (by decide : (parseMethodDescriptor yX6_isInSea.desc).map (fun d => d.parameters.length) = some 1)⟩ ⟨by decide, by decide⟩ ⟨by decide, by decide⟩ 0 6 rfl rfl (Nat.le_of_ble_eq_true rfl) dX6_tells_171 rfl ?_
                    refine z_if_eq C 181 dX6_tells_174 (by decide) (fun c14 => ?_) (fun c14 => ?_)
                    · have hF := hF.trans (if_pos c14)
                      refine z_ic C dX6_tells_181 0 (by decide) ?_
                      refine z_go C 208 dX6_tells_182 (by decide) ?_
                      exact z_iret C hQ dX6_tells_208 (by rw [hF]; first | done | rfl) rfl (by decide) (by decide)
                    · have hF := hF.trans (if_neg c14)
                      refine z_ic C dX6_tells_177 1 (by decide) ?_
                      refine z_go C 208 dX6_tells_178 (by decide) ?_
                      exact z_iret C hQ dX6_tells_208 (by rw [hF]; first | done | rfl) rfl (by decide) (by decide)
                · have hF := hF.trans (if_pos c11)
                  refine z_il C dX6_tells_137 0 rfl ?_
                  refine z_if_eq C 159 dX6_tells_139 (by decide) (fun c15 => ?_) (fun c15 => ?_)
                  · have hF := hF.trans (if_pos c15)
                    refine z_ic C dX6_tells_159 0 (by decide) ?_
                    refine z_go C 208 dX6_tells_160 (by decide) ?_
                    exact z_iret C hQ dX6_tells_208 (by rw [hF]; first | done | rfl) rfl (by decide) (by decide)
                  · have hF := hF.trans (if_neg c15)
                    refine z_aln C dX6_tells_142 1 rfl ?_
                    refine z_get (v := .ref (a 1)) C 0 5 dX6_tells_143 rfl rfl rfl hX6 (by decide) (by decide +kernel) rfl ?_
                    refine z_bp C dX6_tells_146 48 (by decide) ?_
                    refine z_iln C dX6_tells_148 2 rfl ?_
                    refine z_iadd C dX6_tells_149 (nI (48 + k)) (nI_add 48 k) ?_
                    refine z_iald (f := (g 0)) C 1 (48 + k) dX6_tells_150 rfl (by decide) rfl (by omega) ?_
                    refine z_ic C dX6_tells_151 3 (by decide) ?_
                    refine z_ic_lt C 159 dX6_tells_152 (by decide) (fun c16 => ?_) (fun c16 => ?_)
                    · have hF := hF.trans (if_pos c16)
                      refine z_ic C dX6_tells_159 0 (by decide) ?_
                      refine z_go C 208 dX6_tells_160 (by decide) ?_
                      exact z_iret C hQ dX6_tells_208 (by rw [hF]; first | done | rfl) rfl (by decide) (by decide)
                    · have hF := hF.trans (if_neg c16)
                      refine z_ic C dX6_tells_155 1 (by decide) ?_
                      refine z_go C 208 dX6_tells_156 (by decide) ?_
                      exact z_iret C hQ dX6_tells_208 (by rw [hF]; first | done | rfl) rfl (by decide) (by decide)
              · have hF := hF.trans (if_pos c10)
                refine z_il C dX6_tells_118 0 rfl ?_
                refine z_if_eq C 127 dX6_tells_120 (by decide) (fun c17 => ?_) (fun c17 => ?_)
                · have hF := hF.trans (if_pos c17)
                  refine z_ic C dX6_tells_127 0 (by decide) ?_
                  refine z_go C 208 dX6_tells_128 (by decide) ?_
                  exact z_iret C hQ dX6_tells_208 (by rw [hF]; first | done | rfl) rfl (by decide) (by decide)
                · have hF := hF.trans (if_neg c17)
                  refine z_ic C dX6_tells_123 1 (by decide) ?_
                  refine z_go C 208 dX6_tells_124 (by decide) ?_
                  exact z_iret C hQ dX6_tells_208 (by rw [hF]; first | done | rfl) rfl (by decide) (by decide)
            · have hF := hF.trans (if_pos c9)
              refine z_aln C dX6_tells_101 1 rfl ?_
              refine z_get (v := .ref (a 1)) C 0 5 dX6_tells_102 rfl rfl rfl hX6 (by decide) (by decide +kernel) rfl ?_
              refine z_bp C dX6_tells_105 36 (by decide) ?_
              refine z_iln C dX6_tells_107 2 rfl ?_
              refine z_iadd C dX6_tells_108 (nI (36 + k)) (nI_add 36 k) ?_
              refine z_iald (f := (g 0)) C 1 (36 + k) dX6_tells_109 rfl (by decide) rfl (by omega) ?_
              refine z_go C 208 dX6_tells_110 (by decide) ?_
              exact z_iret C hQ dX6_tells_208 (by rw [hF]; first | done | rfl) rfl (by decide) (by decide)
          · have hF := hF.trans (if_pos c8)
            refine z_aln C dX6_tells_88 1 rfl ?_
            refine z_iln C dX6_tells_89 2 rfl ?_
            refine z_cVi0 (As := [.int (nI k)]) (rest := []) C (mX6_surfaceOf l X a g k (by omega)) gX6_tells_X6_surfaceOf rfl ⟨rfl, by decide, by decide, (by decide : (parseMethodDescriptor yX6_surfaceOf.desc).map (fun d => d.parameters.length) = some 1)⟩ ⟨by decide, by decide⟩ ⟨by decide, by decide⟩ 0 6 rfl rfl (Nat.le_of_ble_eq_true rfl) dX6_tells_90 rfl ?_
            refine z_go C 208 dX6_tells_93 (by decide) ?_
            exact z_iret C hQ dX6_tells_208 (by rw [hF]; first | done | rfl) rfl (by decide) (by decide)
        · have hF := hF.trans (if_pos c7)
          refine z_aln C dX6_tells_71 1 rfl ?_
          refine z_get (v := .ref (a 1)) C 0 5 dX6_tells_72 rfl rfl rfl hX6 (by decide) (by decide +kernel) rfl ?_
          refine z_bp C dX6_tells_75 24 (by decide) ?_
          refine z_iln C dX6_tells_77 2 rfl ?_
          refine z_iadd C dX6_tells_78 (nI (24 + k)) (nI_add 24 k) ?_
          refine z_iald (f := (g 0)) C 1 (24 + k) dX6_tells_79 rfl (by decide) rfl (by omega) ?_
          refine z_go C 208 dX6_tells_80 (by decide) ?_
          exact z_iret C hQ dX6_tells_208 (by rw [hF]; first | done | rfl) rfl (by decide) (by decide)
      · have hF := hF.trans (if_pos c6)
        refine z_aln C dX6_tells_58 1 rfl ?_
        refine z_iln C dX6_tells_59 2 rfl ?_
        refine z_cVi0 (As := [.int (nI k)]) (rest := []) C (mX6_iceOf l X a g k (by omega)) gX6_tells_X6_iceOf rfl ⟨rfl, by decide, by decide, (by decide : (parseMethodDescriptor yX6_iceOf.desc).map (fun d => d.parameters.length) = some 1)⟩ ⟨by decide, by decide⟩ ⟨by decide, by decide⟩ 0 6 rfl rfl (Nat.le_of_ble_eq_true rfl) dX6_tells_60 rfl ?_
        refine z_go C 208 dX6_tells_63 (by decide) ?_
        exact z_iret C hQ dX6_tells_208 (by rw [hF]; first | done | rfl) rfl (by decide) (by decide)
    · have hF := hF.trans (if_pos c5)
      refine z_aln C dX6_tells_42 1 rfl ?_
      refine z_get (v := .ref (a 1)) C 0 5 dX6_tells_43 rfl rfl rfl hX6 (by decide) (by decide +kernel) rfl ?_
      refine z_ic C dX6_tells_46 0 (by decide) ?_
      refine z_iln C dX6_tells_47 2 rfl ?_
      refine z_iadd C dX6_tells_48 (nI (0 + k)) (nI_add 0 k) ?_
      refine z_iald (f := (g 0)) C 1 (0 + k) dX6_tells_49 rfl (by decide) rfl (by omega) ?_
      refine z_go C 208 dX6_tells_50 (by decide) ?_
      exact z_iret C hQ dX6_tells_208 (by rw [hF]; first | done | rfl) rfl (by decide) (by decide)
  refine z_iln C dX6_tells_20 0 rfl ?_
  refine z_ic C dX6_tells_21 5 (by decide) ?_
  refine z_ic_ge C 31 dX6_tells_22 (by decide) (fun c3 => ?_) (fun c3 => ?_)
  · have hv2 := hv2.trans (if_pos c3)
    refine z_ic C dX6_tells_31 1 (by decide) ?_
    refine z_go C 36 dX6_tells_32 (by decide) ?_
    refine z_lv [1, 2, 3, 0] [(0, .ref (a 0)), (1, .int (nI k)), (2, .int w), (3, .int v1)] rfl ?_
    rw [hv2] at Jv2
    exact Jv2
  · have hv2 := hv2.trans (if_neg c3)
    refine z_iln C dX6_tells_25 0 rfl ?_
    refine z_bp C dX6_tells_26 (-5) (by decide) ?_
    refine z_ic_gt C 35 dX6_tells_28 (by decide) (fun c4 => ?_) (fun c4 => ?_)
    · have hv2 := hv2.trans (if_pos c4)
      refine z_ic C dX6_tells_35 0 (by decide) ?_
      refine z_lv [1, 2, 3, 0] [(0, .ref (a 0)), (1, .int (nI k)), (2, .int w), (3, .int v1)] rfl ?_
      rw [hv2] at Jv2
      exact Jv2
    · have hv2 := hv2.trans (if_neg c4)
      refine z_ic C dX6_tells_31 1 (by decide) ?_
      refine z_go C 36 dX6_tells_32 (by decide) ?_
      refine z_lv [1, 2, 3, 0] [(0, .ref (a 0)), (1, .int (nI k)), (2, .int w), (3, .int v1)] rfl ?_
      rw [hv2] at Jv2
      exact Jv2
set_option maxHeartbeats 4000000 in
set_option maxRecDepth 100000 in
theorem mX6_keeps (l : Launch) (X : zX) (a : Nat → Nat) (g : zG) (pa : Int32) : CV l yX6_keeps wsX6_keeps 0 0 0 0 X (MW a X g) [.ref (a 0), .int pa] (MW a X (fX6_keeps g pa)) := by
  obtain ⟨res, hF⟩ : ∃ z9r, z9r = fX6_keeps g pa := ⟨_, rfl⟩
  rw [← hF]
  refine cu_intro (cc := cX6_keeps) (ret := none) (maxL := 4) (by decide +kernel) rfl (Nat.le_of_ble_eq_true rfl) ?_
  intro p e s m args below meth c A Q C hQ
  have hX6 : ∀ w ∈ wsX60, w ∈ wsX6_keeps := by decide +kernel
  show Z p l e { frames := 0, cells := 0, slots := 0, locals := 0 } s m args below meth c X A 4 Q 0 0 (MW a X g) [(0, .ref (a 0)), (1, .int pa)] 0 []
  refine z_ic C dX6_keeps_0 0 (by decide) ?_
  refine z_isn C 2 [(2, .int 0), (0, .ref (a 0)), (1, .int pa)] dX6_keeps_1 rfl (by decide) rfl ?_
  refine z_lv [1, 2, 0] [(0, .ref (a 0)), (1, .int pa), (2, .int 0)] rfl ?_
  have LPk2 : ∀ (nk2 k2 : Nat) (x1 : zG), k2 + nk2 = 1024 → res = fX6_keeps_L2 pa nk2 k2 x1 → Z p l e { frames := 0, cells := 0, slots := 0, locals := 0 } s m args below meth c X A 4 Q 0 0 (MW a X x1) [(0, .ref (a 0)), (1, .int pa), (2, .int (nI k2))] 2 [] := by
    intro nk2
    induction nk2 with
    | zero =>
      intro k2 x1 hkk2 hF
      refine z_iln C dX6_keeps_2 2 rfl ?_
      refine z_sp C dX6_keeps_3 1024 (by decide) ?_
      refine z_ic_geN C k2 1024 49 dX6_keeps_6 (by decide) rfl rfl (by omega) (by omega) (fun c3 => ?_) (fun c3 => ?_)
      rotate_left
      · exact absurd c3 (by omega)
      exact z_vret C hQ () dX6_keeps_49 (by rw [hF]; first | done | rfl) (by decide) (by decide)
    | succ nk2 ihk2 =>
      intro k2 x1 hkk2 hF
      refine z_iln C dX6_keeps_2 2 rfl ?_
      refine z_sp C dX6_keeps_3 1024 (by decide) ?_
      refine z_ic_geN C k2 1024 49 dX6_keeps_6 (by decide) rfl rfl (by omega) (by omega) (fun c4 => ?_) (fun c4 => ?_)
      · exact absurd c4 (by omega)
      refine z_aln C dX6_keeps_9 0 rfl ?_
      refine z_get (v := .ref (a 1)) C 0 5 dX6_keeps_10 rfl rfl rfl hX6 (by decide) (by decide +kernel) rfl ?_
      refine z_iln C dX6_keeps_13 2 rfl ?_
      refine z_iald (f := (x1 0)) C 1 k2 dX6_keeps_14 rfl (by decide) rfl (by omega) ?_
      refine z_isn C 3 [(3, .int ((x1 0) k2)), (0, .ref (a 0)), (1, .int pa), (2, .int (nI k2))] dX6_keeps_15 rfl (by decide) rfl ?_
      refine z_aln C dX6_keeps_16 1 rfl ?_
      refine z_get (v := .ref (a 1)) C 0 5 dX6_keeps_17 rfl rfl rfl hX6 (by decide) (by decide +kernel) rfl ?_
      refine z_iln C dX6_keeps_20 3 rfl ?_
      obtain ⟨v5, hv5⟩ : ∃ z9v, z9v = ((if pa = 0 then ((x1 0) k2) else ((x1 1) k2)) : Int32) := ⟨_, rfl⟩
      have hF := hF.trans (jn_at hv5)
      have Jv5 : Z p l e { frames := 0, cells := 0, slots := 0, locals := 0 } s m args below meth c X A 4 Q 0 0 (MW a X x1) [(0, .ref (a 0)), (1, .int pa), (2, .int (nI k2)), (3, .int ((x1 0) k2))] 35 [.int v5, .int (nI k2), .ref (a 1)] := by
        refine z_iast (f := (x1 0)) C 1 k2 (MW a X (va_up x1 0 (upd (x1 0) k2 v5))) dX6_keeps_35 rfl (by decide) rfl (by omega) rfl ?_
        refine z_aln C dX6_keeps_36 0 rfl ?_
        refine z_get (v := .ref (a 2)) C 0 6 dX6_keeps_37 rfl rfl rfl hX6 (by decide) (by decide +kernel) rfl ?_
        refine z_iln C dX6_keeps_40 2 rfl ?_
        refine z_iln C dX6_keeps_41 3 rfl ?_
        refine z_iast (f := (x1 1)) C 2 k2 (MW a X (va_up (va_up x1 0 (upd (x1 0) k2 v5)) 1 (upd (x1 1) k2 ((x1 0) k2)))) dX6_keeps_42 rfl (by decide) rfl (by omega) rfl ?_
        refine z_inc C 2 (nI (k2 + 1)) [(2, .int (nI (k2 + 1))), (0, .ref (a 0)), (1, .int pa), (3, .int ((x1 0) k2))] dX6_keeps_43 rfl (nI_add k2 1) (by decide) rfl ?_
        refine z_go C 2 dX6_keeps_46 (by decide) ?_
        refine z_lv [1, 2, 0] [(0, .ref (a 0)), (1, .int pa), (2, .int (nI (k2 + 1)))] rfl ?_
        exact ihk2 (k2 + 1) (va_up (va_up x1 0 (upd (x1 0) k2 v5)) 1 (upd (x1 1) k2 ((x1 0) k2))) (by omega) hF
      refine z_iln C dX6_keeps_21 2 rfl ?_
      refine z_if_eq C 34 dX6_keeps_22 (by decide) (fun c6 => ?_) (fun c6 => ?_)
      · have hv5 := hv5.trans (if_pos c6)
        refine z_iln C dX6_keeps_34 0 rfl ?_
        refine z_lv [1, 2, 3, 0] [(0, .ref (a 0)), (1, .int pa), (2, .int (nI k2)), (3, .int ((x1 0) k2))] rfl ?_
        rw [hv5] at Jv5
        exact Jv5
      · have hv5 := hv5.trans (if_neg c6)
        refine z_aln C dX6_keeps_25 1 rfl ?_
        refine z_get (v := .ref (a 2)) C 0 6 dX6_keeps_26 rfl rfl rfl hX6 (by decide) (by decide +kernel) rfl ?_
        refine z_iln C dX6_keeps_29 3 rfl ?_
        refine z_iald (f := (x1 1)) C 2 k2 dX6_keeps_30 rfl (by decide) rfl (by omega) ?_
        refine z_go C 35 dX6_keeps_31 (by decide) ?_
        refine z_lv [1, 2, 3, 0] [(0, .ref (a 0)), (1, .int pa), (2, .int (nI k2)), (3, .int ((x1 0) k2))] rfl ?_
        rw [hv5] at Jv5
        exact Jv5
  exact LPk2 1024 0 g (by omega) hF
