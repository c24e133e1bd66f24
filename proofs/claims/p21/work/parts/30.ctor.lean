/-- addresses by number -/
def ad (l : List Nat) : Nat → Nat := fun i => l.getD i 0
def ad0 (q : Nat) (u : Nat → Nat) : Nat → Nat := fun i => if i = 0 then q else u i
set_option maxHeartbeats 4000000 in
set_option maxRecDepth 100000 in
theorem mX1_init (l : Launch) (X : zX) (q0 : Nat) : CU (S := Nat → Nat) l yX1_init wsX1_init 1 20 2 744 X [(q0, .inr (1, [.null, .null]))] [.ref q0] (fun u => [(q0, .inr (1, [.ref (u 0), .ref (u 1)])), (u 0, .inl (X.2.1, 12, .inl (fun _ => 0))), (u 1, .inl (X.2.1, 732, .inl (fun _ => 0)))]) := by
  refine cn_intro (cc := cX1_init) (ret := none) (maxL := 1) (by decide +kernel) rfl (Nat.le_of_ble_eq_true rfl) ?_
  intro p e s m args below meth c A Q C hQ hin0
  have hin : meth.name = "<init>" := hin0
  have hX1 : ∀ w ∈ wsX10, w ∈ wsX1_init := by decide +kernel
  show Z p l e { frames := 1, cells := 2, slots := 744, locals := 20 } s m args below meth c X A 1 Q 0 0 [(q0, .inr (1, [.null, .null]))] [(0, .ref q0)] 0 []
  refine z_aln C dX1_init_0 0 rfl ?_
  refine z_oinit C dX1_init_1 (by decide +kernel) (by decide +kernel) (by decide +kernel) (Nat.le_of_ble_eq_true rfl) (Nat.le_of_ble_eq_true rfl) ?_
  refine z_aln C dX1_init_4 0 rfl ?_
  refine z_bp C dX1_init_5 12 (by decide) ?_
  refine z_newa (atype := .int) C 0 X.2.1 12 (12, .inl (fun _ => 0)) .int dX1_init_7 rfl rfl (Or.inl rfl) (by decide +kernel) (fun _ => rfl) (by decide) (by decide) (by decide) (Nat.le_of_ble_eq_true rfl) (Nat.le_of_ble_eq_true rfl) (fun q1 => ?_)
  show Z p l e { frames := 1, cells := 2, slots := 744, locals := 20 } s m args below meth c X A 1 Q 1 12 [(q0, .inr (1, [.null, .null])), (q1, .inl (X.2.1, 12, .inl (fun _ => 0)))] [(0, .ref q0)] 9 [.ref q1, .ref q0]
  refine z_putF C 0 0 [(q0, .inr (1, [.ref q1, .null])), (q1, .inl (X.2.1, 12, .inl (fun _ => 0)))] dX1_init_9 rfl rfl hX1 tyX1_ok nmX1 (by decide) (by decide +kernel) rfl rfl hin rfl rfl rfl rfl (Nat.le_of_ble_eq_true rfl) rfl ?_
  refine z_aln C dX1_init_12 0 rfl ?_
  refine z_sp C dX1_init_13 732 (by decide) ?_
  refine z_newa (atype := .int) C 0 X.2.1 732 (732, .inl (fun _ => 0)) .int dX1_init_16 rfl rfl (Or.inl rfl) (by decide +kernel) (fun _ => rfl) (by decide) (by decide) (by decide) (Nat.le_of_ble_eq_true rfl) (Nat.le_of_ble_eq_true rfl) (fun q2 => ?_)
  show Z p l e { frames := 1, cells := 2, slots := 744, locals := 20 } s m args below meth c X A 1 Q 2 744 [(q0, .inr (1, [.ref q1, .null])), (q1, .inl (X.2.1, 12, .inl (fun _ => 0))), (q2, .inl (X.2.1, 732, .inl (fun _ => 0)))] [(0, .ref q0)] 18 [.ref q2, .ref q0]
  refine z_putF C 0 1 [(q0, .inr (1, [.ref q1, .ref q2])), (q1, .inl (X.2.1, 12, .inl (fun _ => 0))), (q2, .inl (X.2.1, 732, .inl (fun _ => 0)))] dX1_init_18 rfl rfl hX1 tyX1_ok nmX1 (by decide) (by decide +kernel) rfl rfl hin rfl rfl rfl rfl (Nat.le_of_ble_eq_true rfl) rfl ?_
  exact z_vret C hQ (ad [q1, q2]) dX1_init_21 rfl (by decide) (by decide)
set_option maxHeartbeats 4000000 in
set_option maxRecDepth 100000 in
theorem mX4_init (l : Launch) (X : zX) (q0 : Nat) : CU (S := Unit) l yX4_init wsX4_init 1 20 0 0 X [(q0, .inr (4, [.int 0, .int 0, .int 0, .int 0, .int 0]))] [.ref q0] (fun u => [(q0, .inr (4, [.int 0, .int 0, .int 0, .int 0, .int 0]))]) := by
  refine cn_intro (cc := cX4_init) (ret := none) (maxL := 1) (by decide +kernel) rfl (Nat.le_of_ble_eq_true rfl) ?_
  intro p e s m args below meth c A Q C hQ hin0
  have hin : meth.name = "<init>" := hin0
  show Z p l e { frames := 1, cells := 0, slots := 0, locals := 20 } s m args below meth c X A 1 Q 0 0 [(q0, .inr (4, [.int 0, .int 0, .int 0, .int 0, .int 0]))] [(0, .ref q0)] 0 []
  refine z_aln C dX4_init_0 0 rfl ?_
  refine z_oinit C dX4_init_1 (by decide +kernel) (by decide +kernel) (by decide +kernel) (Nat.le_of_ble_eq_true rfl) (Nat.le_of_ble_eq_true rfl) ?_
  exact z_vret C hQ () dX4_init_4 rfl (by decide) (by decide)
def gF0 : zG := fun _ _ => 0
set_option maxHeartbeats 4000000 in
set_option maxRecDepth 100000 in
theorem mX2_init (l : Launch) (X : zX) (q0 : Nat) : CU (S := Nat → Nat) l yX2_init wsX2_init 1 20 2 20 X [(q0, .inr (2, [.null, .null, .int 0]))] [.ref q0] (fun u => (FW (ad0 q0 u) X gF0)) := by
  refine cn_intro (cc := cX2_init) (ret := none) (maxL := 1) (by decide +kernel) rfl (Nat.le_of_ble_eq_true rfl) ?_
  intro p e s m args below meth c A Q C hQ hin0
  have hin : meth.name = "<init>" := hin0
  have hX2 : ∀ w ∈ wsX20, w ∈ wsX2_init := by decide +kernel
  show Z p l e { frames := 1, cells := 2, slots := 20, locals := 20 } s m args below meth c X A 1 Q 0 0 [(q0, .inr (2, [.null, .null, .int 0]))] [(0, .ref q0)] 0 []
  refine z_aln C dX2_init_0 0 rfl ?_
  refine z_oinit C dX2_init_1 (by decide +kernel) (by decide +kernel) (by decide +kernel) (Nat.le_of_ble_eq_true rfl) (Nat.le_of_ble_eq_true rfl) ?_
  refine z_aln C dX2_init_4 0 rfl ?_
  refine z_bp C dX2_init_5 10 (by decide) ?_
  refine z_newa (atype := .int) C 0 X.2.1 10 (10, .inl (fun _ => 0)) .int dX2_init_7 rfl rfl (Or.inl rfl) (by decide +kernel) (fun _ => rfl) (by decide) (by decide) (by decide) (Nat.le_of_ble_eq_true rfl) (Nat.le_of_ble_eq_true rfl) (fun q1 => ?_)
  show Z p l e { frames := 1, cells := 2, slots := 20, locals := 20 } s m args below meth c X A 1 Q 1 10 [(q0, .inr (2, [.null, .null, .int 0])), (q1, .inl (X.2.1, 10, .inl (fun _ => 0)))] [(0, .ref q0)] 9 [.ref q1, .ref q0]
  refine z_putF C 0 0 [(q0, .inr (2, [.ref q1, .null, .int 0])), (q1, .inl (X.2.1, 10, .inl (fun _ => 0)))] dX2_init_9 rfl rfl hX2 tyX2_ok nmX2 (by decide) (by decide +kernel) rfl rfl hin rfl rfl rfl rfl (Nat.le_of_ble_eq_true rfl) rfl ?_
  refine z_aln C dX2_init_12 0 rfl ?_
  refine z_bp C dX2_init_13 10 (by decide) ?_
  refine z_newa (atype := .int) C 0 X.2.1 10 (10, .inl (fun _ => 0)) .int dX2_init_15 rfl rfl (Or.inl rfl) (by decide +kernel) (fun _ => rfl) (by decide) (by decide) (by decide) (Nat.le_of_ble_eq_true rfl) (Nat.le_of_ble_eq_true rfl) (fun q2 => ?_)
  show Z p l e { frames := 1, cells := 2, slots := 20, locals := 20 } s m args below meth c X A 1 Q 2 20 [(q0, .inr (2, [.ref q1, .null, .int 0])), (q1, .inl (X.2.1, 10, .inl (fun _ => 0))), (q2, .inl (X.2.1, 10, .inl (fun _ => 0)))] [(0, .ref q0)] 17 [.ref q2, .ref q0]
  refine z_putF C 0 1 [(q0, .inr (2, [.ref q1, .ref q2, .int 0])), (q1, .inl (X.2.1, 10, .inl (fun _ => 0))), (q2, .inl (X.2.1, 10, .inl (fun _ => 0)))] dX2_init_17 rfl rfl hX2 tyX2_ok nmX2 (by decide) (by decide +kernel) rfl rfl hin rfl rfl rfl rfl (Nat.le_of_ble_eq_true rfl) rfl ?_
  exact z_vret C hQ (ad [q0, q1, q2]) dX2_init_20 rfl (by decide) (by decide)
def gA0 : zG := fun c => if c = 1 then upd (fun _ => 0) 0 (-1) else fun _ => 0
set_option maxHeartbeats 4000000 in
set_option maxRecDepth 100000 in
theorem mX0_init (l : Launch) (X : zX) (q0 : Nat) : CU (S := Nat → Nat) l yX0_init wsX0_init 1 20 6 2343 X [(q0, .inr (0, [.null, .null, .null, .null, .null, .null, .int 0]))] [.ref q0] (fun u => (AW (ad0 q0 u) X gA0)) := by
  refine cn_intro (cc := cX0_init) (ret := none) (maxL := 1) (by decide +kernel) rfl (Nat.le_of_ble_eq_true rfl) ?_
  intro p e s m args below meth c A Q C hQ hin0
  have hin : meth.name = "<init>" := hin0
  have hX0 : ∀ w ∈ wsX00, w ∈ wsX0_init := by decide +kernel
  show Z p l e { frames := 1, cells := 6, slots := 2343, locals := 20 } s m args below meth c X A 1 Q 0 0 [(q0, .inr (0, [.null, .null, .null, .null, .null, .null, .int 0]))] [(0, .ref q0)] 0 []
  refine z_aln C dX0_init_0 0 rfl ?_
  refine z_oinit C dX0_init_1 (by decide +kernel) (by decide +kernel) (by decide +kernel) (Nat.le_of_ble_eq_true rfl) (Nat.le_of_ble_eq_true rfl) ?_
  refine z_aln C dX0_init_4 0 rfl ?_
  refine z_bp C dX0_init_5 61 (by decide) ?_
  refine z_newa (atype := .boolean) C 1 X.2.2.1 61 (61, .inl (fun _ => 0)) .boolean dX0_init_7 rfl rfl (Or.inr (Or.inl rfl)) (by decide +kernel) (fun _ => rfl) (by decide) (by decide) (by decide) (Nat.le_of_ble_eq_true rfl) (Nat.le_of_ble_eq_true rfl) (fun q1 => ?_)
  show Z p l e { frames := 1, cells := 6, slots := 2343, locals := 20 } s m args below meth c X A 1 Q 1 61 [(q0, .inr (0, [.null, .null, .null, .null, .null, .null, .int 0])), (q1, .inl (X.2.2.1, 61, .inl (fun _ => 0)))] [(0, .ref q0)] 9 [.ref q1, .ref q0]
  refine z_putF C 0 0 [(q0, .inr (0, [.ref q1, .null, .null, .null, .null, .null, .int 0])), (q1, .inl (X.2.2.1, 61, .inl (fun _ => 0)))] dX0_init_9 rfl rfl hX0 tyX0_ok nmX0 (by decide) (by decide +kernel) rfl rfl hin rfl rfl rfl rfl (Nat.le_of_ble_eq_true rfl) rfl ?_
  refine z_aln C dX0_init_12 0 rfl ?_
  refine z_bp C dX0_init_13 61 (by decide) ?_
  refine z_newa (atype := .int) C 0 X.2.1 61 (61, .inl (fun _ => 0)) .int dX0_init_15 rfl rfl (Or.inl rfl) (by decide +kernel) (fun _ => rfl) (by decide) (by decide) (by decide) (Nat.le_of_ble_eq_true rfl) (Nat.le_of_ble_eq_true rfl) (fun q2 => ?_)
  show Z p l e { frames := 1, cells := 6, slots := 2343, locals := 20 } s m args below meth c X A 1 Q 2 122 [(q0, .inr (0, [.ref q1, .null, .null, .null, .null, .null, .int 0])), (q1, .inl (X.2.2.1, 61, .inl (fun _ => 0))), (q2, .inl (X.2.1, 61, .inl (fun _ => 0)))] [(0, .ref q0)] 17 [.ref q2, .ref q0]
  refine z_putF C 0 1 [(q0, .inr (0, [.ref q1, .ref q2, .null, .null, .null, .null, .int 0])), (q1, .inl (X.2.2.1, 61, .inl (fun _ => 0))), (q2, .inl (X.2.1, 61, .inl (fun _ => 0)))] dX0_init_17 rfl rfl hX0 tyX0_ok nmX0 (by decide) (by decide +kernel) rfl rfl hin rfl rfl rfl rfl (Nat.le_of_ble_eq_true rfl) rfl ?_
  refine z_aln C dX0_init_20 0 rfl ?_
  refine z_bp C dX0_init_21 61 (by decide) ?_
  refine z_newa (atype := .int) C 0 X.2.1 61 (61, .inl (fun _ => 0)) .int dX0_init_23 rfl rfl (Or.inl rfl) (by decide +kernel) (fun _ => rfl) (by decide) (by decide) (by decide) (Nat.le_of_ble_eq_true rfl) (Nat.le_of_ble_eq_true rfl) (fun q3 => ?_)
  show Z p l e { frames := 1, cells := 6, slots := 2343, locals := 20 } s m args below meth c X A 1 Q 3 183 [(q0, .inr (0, [.ref q1, .ref q2, .null, .null, .null, .null, .int 0])), (q1, .inl (X.2.2.1, 61, .inl (fun _ => 0))), (q2, .inl (X.2.1, 61, .inl (fun _ => 0))), (q3, .inl (X.2.1, 61, .inl (fun _ => 0)))] [(0, .ref q0)] 25 [.ref q3, .ref q0]
  refine z_putF C 0 2 [(q0, .inr (0, [.ref q1, .ref q2, .ref q3, .null, .null, .null, .int 0])), (q1, .inl (X.2.2.1, 61, .inl (fun _ => 0))), (q2, .inl (X.2.1, 61, .inl (fun _ => 0))), (q3, .inl (X.2.1, 61, .inl (fun _ => 0)))] dX0_init_25 rfl rfl hX0 tyX0_ok nmX0 (by decide) (by decide +kernel) rfl rfl hin rfl rfl rfl rfl (Nat.le_of_ble_eq_true rfl) rfl ?_
  refine z_aln C dX0_init_28 0 rfl ?_
  refine z_sp C dX0_init_29 720 (by decide) ?_
  refine z_newa (atype := .int) C 0 X.2.1 720 (720, .inl (fun _ => 0)) .int dX0_init_32 rfl rfl (Or.inl rfl) (by decide +kernel) (fun _ => rfl) (by decide) (by decide) (by decide) (Nat.le_of_ble_eq_true rfl) (Nat.le_of_ble_eq_true rfl) (fun q4 => ?_)
  show Z p l e { frames := 1, cells := 6, slots := 2343, locals := 20 } s m args below meth c X A 1 Q 4 903 [(q0, .inr (0, [.ref q1, .ref q2, .ref q3, .null, .null, .null, .int 0])), (q1, .inl (X.2.2.1, 61, .inl (fun _ => 0))), (q2, .inl (X.2.1, 61, .inl (fun _ => 0))), (q3, .inl (X.2.1, 61, .inl (fun _ => 0))), (q4, .inl (X.2.1, 720, .inl (fun _ => 0)))] [(0, .ref q0)] 34 [.ref q4, .ref q0]
  refine z_putF C 0 3 [(q0, .inr (0, [.ref q1, .ref q2, .ref q3, .ref q4, .null, .null, .int 0])), (q1, .inl (X.2.2.1, 61, .inl (fun _ => 0))), (q2, .inl (X.2.1, 61, .inl (fun _ => 0))), (q3, .inl (X.2.1, 61, .inl (fun _ => 0))), (q4, .inl (X.2.1, 720, .inl (fun _ => 0)))] dX0_init_34 rfl rfl hX0 tyX0_ok nmX0 (by decide) (by decide +kernel) rfl rfl hin rfl rfl rfl rfl (Nat.le_of_ble_eq_true rfl) rfl ?_
  refine z_aln C dX0_init_37 0 rfl ?_
  refine z_sp C dX0_init_38 720 (by decide) ?_
  refine z_newa (atype := .int) C 0 X.2.1 720 (720, .inl (fun _ => 0)) .int dX0_init_41 rfl rfl (Or.inl rfl) (by decide +kernel) (fun _ => rfl) (by decide) (by decide) (by decide) (Nat.le_of_ble_eq_true rfl) (Nat.le_of_ble_eq_true rfl) (fun q5 => ?_)
  show Z p l e { frames := 1, cells := 6, slots := 2343, locals := 20 } s m args below meth c X A 1 Q 5 1623 [(q0, .inr (0, [.ref q1, .ref q2, .ref q3, .ref q4, .null, .null, .int 0])), (q1, .inl (X.2.2.1, 61, .inl (fun _ => 0))), (q2, .inl (X.2.1, 61, .inl (fun _ => 0))), (q3, .inl (X.2.1, 61, .inl (fun _ => 0))), (q4, .inl (X.2.1, 720, .inl (fun _ => 0))), (q5, .inl (X.2.1, 720, .inl (fun _ => 0)))] [(0, .ref q0)] 43 [.ref q5, .ref q0]
  refine z_putF C 0 4 [(q0, .inr (0, [.ref q1, .ref q2, .ref q3, .ref q4, .ref q5, .null, .int 0])), (q1, .inl (X.2.2.1, 61, .inl (fun _ => 0))), (q2, .inl (X.2.1, 61, .inl (fun _ => 0))), (q3, .inl (X.2.1, 61, .inl (fun _ => 0))), (q4, .inl (X.2.1, 720, .inl (fun _ => 0))), (q5, .inl (X.2.1, 720, .inl (fun _ => 0)))] dX0_init_43 rfl rfl hX0 tyX0_ok nmX0 (by decide) (by decide +kernel) rfl rfl hin rfl rfl rfl rfl (Nat.le_of_ble_eq_true rfl) rfl ?_
  refine z_aln C dX0_init_46 0 rfl ?_
  refine z_sp C dX0_init_47 720 (by decide) ?_
  refine z_newa (atype := .int) C 0 X.2.1 720 (720, .inl (fun _ => 0)) .int dX0_init_50 rfl rfl (Or.inl rfl) (by decide +kernel) (fun _ => rfl) (by decide) (by decide) (by decide) (Nat.le_of_ble_eq_true rfl) (Nat.le_of_ble_eq_true rfl) (fun q6 => ?_)
  show Z p l e { frames := 1, cells := 6, slots := 2343, locals := 20 } s m args below meth c X A 1 Q 6 2343 [(q0, .inr (0, [.ref q1, .ref q2, .ref q3, .ref q4, .ref q5, .null, .int 0])), (q1, .inl (X.2.2.1, 61, .inl (fun _ => 0))), (q2, .inl (X.2.1, 61, .inl (fun _ => 0))), (q3, .inl (X.2.1, 61, .inl (fun _ => 0))), (q4, .inl (X.2.1, 720, .inl (fun _ => 0))), (q5, .inl (X.2.1, 720, .inl (fun _ => 0))), (q6, .inl (X.2.1, 720, .inl (fun _ => 0)))] [(0, .ref q0)] 52 [.ref q6, .ref q0]
  refine z_putF C 0 5 [(q0, .inr (0, [.ref q1, .ref q2, .ref q3, .ref q4, .ref q5, .ref q6, .int 0])), (q1, .inl (X.2.2.1, 61, .inl (fun _ => 0))), (q2, .inl (X.2.1, 61, .inl (fun _ => 0))), (q3, .inl (X.2.1, 61, .inl (fun _ => 0))), (q4, .inl (X.2.1, 720, .inl (fun _ => 0))), (q5, .inl (X.2.1, 720, .inl (fun _ => 0))), (q6, .inl (X.2.1, 720, .inl (fun _ => 0)))] dX0_init_52 rfl rfl hX0 tyX0_ok nmX0 (by decide) (by decide +kernel) rfl rfl hin rfl rfl rfl rfl (Nat.le_of_ble_eq_true rfl) rfl ?_
  refine z_aln C dX0_init_55 0 rfl ?_
  refine z_get (v := .ref q2) C 0 1 dX0_init_56 rfl rfl rfl hX0 (by decide) (by decide +kernel) rfl ?_
  refine z_ic C dX0_init_59 0 (by decide) ?_
  refine z_ic C dX0_init_60 (-1) (by decide) ?_
  refine z_iast (f := (fun _ => 0)) C 2 0 [(q0, .inr (0, [.ref q1, .ref q2, .ref q3, .ref q4, .ref q5, .ref q6, .int 0])), (q1, .inl (X.2.2.1, 61, .inl (fun _ => 0))), (q2, .inl (X.2.1, 61, .inl (upd (fun _ => 0) 0 (-1)))), (q3, .inl (X.2.1, 61, .inl (fun _ => 0))), (q4, .inl (X.2.1, 720, .inl (fun _ => 0))), (q5, .inl (X.2.1, 720, .inl (fun _ => 0))), (q6, .inl (X.2.1, 720, .inl (fun _ => 0)))] dX0_init_61 rfl (by decide) rfl (by omega) rfl ?_
  exact z_vret C hQ (ad [q0, q1, q2, q3, q4, q5, q6]) dX0_init_62 rfl (by decide) (by decide)
def fill1 (k : Nat) : Nat → Int32 := fun j => if j < k then 100 else 0
theorem fill1_0 : (fun _ => 0) = fill1 0 := rfl
theorem fill1_s (k : Nat) : upd (fill1 k) k 100 = fill1 (k + 1) := by
  funext j
  unfold upd fill1
  by_cases h : j = k
  · rw [if_pos h, if_pos (by omega)]
  · rw [if_neg h]
    by_cases h2 : j < k
    · rw [if_pos h2, if_pos (by omega)]
    · rw [if_neg h2, if_neg (by omega)]
def gL0 : zG := fun c => if c = 0 then fill1 12 else if c = 1 then fill1 12 else if c = 10 then (fun i => if i = 5 then -1 else 0) else fun _ => 0
def fX3_init_L97  : Nat → Nat → (Nat → Int32) → (Nat → Int32) → Unit
  | 0, k15, x13, x14 => ()
  | nk15 + 1, k15, x13, x14 => (fX3_init_L97  nk15 (k15 + 1) (upd x13 k15 100) (upd x14 k15 100))
set_option maxHeartbeats 4000000 in
set_option maxRecDepth 100000 in
theorem mX3_init (l : Launch) (X : zX) (q0 : Nat) : CUN (S := Nat → Nat) l yX3_init wsX3_init 2 40 12 846 X [(q0, .inr (3, [.int 0, .int 0, .int 0, .int 0, .int 0, .null, .null, .null, .null, .null, .null, .null, .null, .null, .null, .int 0]))] [.ref q0] (fun u => (LW (ad0 q0 u) X gL0)) := by
  refine cnn_intro (cc := cX3_init) (ret := none) (maxL := 2) (by decide +kernel) rfl (Nat.le_of_ble_eq_true rfl) ?_
  intro p e s m args below meth c A Q C hQ hin0 hnw
  have hin : meth.name = "<init>" := hin0
  have hX1 : ∀ w ∈ wsX10, w ∈ wsX3_init := by decide +kernel
  have hX3 : ∀ w ∈ wsX30, w ∈ wsX3_init := by decide +kernel
  have hX4 : ∀ w ∈ wsX40, w ∈ wsX3_init := by decide +kernel
  show Z p l e { frames := 2, cells := 12, slots := 846, locals := 40 } s m args below meth c X A 2 Q 0 0 [(q0, .inr (3, [.int 0, .int 0, .int 0, .int 0, .int 0, .null, .null, .null, .null, .null, .null, .null, .null, .null, .null, .int 0]))] [(0, .ref q0)] 0 []
  refine z_aln C dX3_init_0 0 rfl ?_
  refine z_oinit C dX3_init_1 (by decide +kernel) (by decide +kernel) (by decide +kernel) (Nat.le_of_ble_eq_true rfl) (Nat.le_of_ble_eq_true rfl) ?_
  refine z_aln C dX3_init_4 0 rfl ?_
  refine z_new (N := 2) (ci := 1) C [.null, .null] dX3_init_5 hX1 tyX1_ok (by decide +kernel) (by decide +kernel) (by decide +kernel) rfl (fun j hj => by rcases (show j = 0 ∨ j = 1 by omega) with rfl | rfl <;> rfl) (Nat.le_of_ble_eq_true rfl) (Nat.le_of_ble_eq_true rfl) (fun q1 => ?_)
  show Z p l e { frames := 2, cells := 12, slots := 846, locals := 40 } s m args below meth c X A 2 Q 1 2 [(q0, .inr (3, [.int 0, .int 0, .int 0, .int 0, .int 0, .null, .null, .null, .null, .null, .null, .null, .null, .null, .null, .int 0])), (q1, .inr (1, [.null, .null]))] [(0, .ref q0)] 8 [.ref q1, .ref q0]
  refine z_dup C dX3_init_8 rfl ?_
  refine z_cIn (S := Nat → Nat) (As := []) (rest := [.ref q1, .ref q0]) C (mX1_init l X q1) gX3_init_X1_init_n11 rfl hnw.1 (by decide +kernel) (by decide +kernel) rfl ⟨by decide, by decide, (by decide : (parseMethodDescriptor yX1_init.desc).map (fun d => d.parameters.length) = some 0)⟩ ⟨by decide, by decide⟩ ⟨by decide, by decide⟩ [1] [0] [0, 1, 2, 3] rfl rfl (by decide) (by decide) (by decide) (by decide) (fun u2 => [(q0, .inr (3, [.int 0, .int 0, .int 0, .int 0, .int 0, .null, .null, .null, .null, .null, .null, .null, .null, .null, .null, .int 0])), (q1, .inr (1, [.ref (u2 0), .ref (u2 1)])), (u2 0, .inl (X.2.1, 12, .inl (fun _ => 0))), (u2 1, .inl (X.2.1, 732, .inl (fun _ => 0)))]) (fun _ => rfl) (Nat.le_of_ble_eq_true rfl) dX3_init_9 rfl (fun u2 => ?_)
  show Z p l e { frames := 2, cells := 12, slots := 846, locals := 40 } s m args below meth c X A 2 Q 3 746 [(q0, .inr (3, [.int 0, .int 0, .int 0, .int 0, .int 0, .null, .null, .null, .null, .null, .null, .null, .null, .null, .null, .int 0])), (q1, .inr (1, [.ref (u2 0), .ref (u2 1)])), (u2 0, .inl (X.2.1, 12, .inl (fun _ => 0))), (u2 1, .inl (X.2.1, 732, .inl (fun _ => 0)))] [(0, .ref q0)] 12 [.ref q1, .ref q0]
  refine z_putF C 0 5 [(q0, .inr (3, [.int 0, .int 0, .int 0, .int 0, .int 0, .ref q1, .null, .null, .null, .null, .null, .null, .null, .null, .null, .int 0])), (q1, .inr (1, [.ref (u2 0), .ref (u2 1)])), (u2 0, .inl (X.2.1, 12, .inl (fun _ => 0))), (u2 1, .inl (X.2.1, 732, .inl (fun _ => 0)))] dX3_init_12 rfl rfl hX3 tyX3_ok nmX3 (by decide) (by decide +kernel) rfl rfl hin rfl rfl rfl rfl (Nat.le_of_ble_eq_true rfl) rfl ?_
  refine z_aln C dX3_init_15 0 rfl ?_
  refine z_new (N := 5) (ci := 4) C [.int 0, .int 0, .int 0, .int 0, .int 0] dX3_init_16 hX4 tyX4_ok (by decide +kernel) (by decide +kernel) (by decide +kernel) rfl (fun j hj => by rcases (show j = 0 ∨ j = 1 ∨ j = 2 ∨ j = 3 ∨ j = 4 by omega) with rfl | rfl | rfl | rfl | rfl <;> rfl) (Nat.le_of_ble_eq_true rfl) (Nat.le_of_ble_eq_true rfl) (fun q3 => ?_)
  show Z p l e { frames := 2, cells := 12, slots := 846, locals := 40 } s m args below meth c X A 2 Q 4 751 [(q0, .inr (3, [.int 0, .int 0, .int 0, .int 0, .int 0, .ref q1, .null, .null, .null, .null, .null, .null, .null, .null, .null, .int 0])), (q1, .inr (1, [.ref (u2 0), .ref (u2 1)])), (u2 0, .inl (X.2.1, 12, .inl (fun _ => 0))), (u2 1, .inl (X.2.1, 732, .inl (fun _ => 0))), (q3, .inr (4, [.int 0, .int 0, .int 0, .int 0, .int 0]))] [(0, .ref q0)] 19 [.ref q3, .ref q0]
  refine z_dup C dX3_init_19 rfl ?_
  refine z_cIn (S := Unit) (As := []) (rest := [.ref q3, .ref q0]) C (mX4_init l X q3) gX3_init_X4_init_n20 rfl hnw.2.1 (by decide +kernel) (by decide +kernel) rfl ⟨by decide, by decide, (by decide : (parseMethodDescriptor yX4_init.desc).map (fun d => d.parameters.length) = some 0)⟩ ⟨by decide, by decide⟩ ⟨by decide, by decide⟩ [4] [0, 1, 2, 3] [0, 1, 2, 3, 4] rfl rfl (by decide) (by decide) (by decide) (by decide) (fun u4 => [(q0, .inr (3, [.int 0, .int 0, .int 0, .int 0, .int 0, .ref q1, .null, .null, .null, .null, .null, .null, .null, .null, .null, .int 0])), (q1, .inr (1, [.ref (u2 0), .ref (u2 1)])), (u2 0, .inl (X.2.1, 12, .inl (fun _ => 0))), (u2 1, .inl (X.2.1, 732, .inl (fun _ => 0))), (q3, .inr (4, [.int 0, .int 0, .int 0, .int 0, .int 0]))]) (fun _ => rfl) (Nat.le_of_ble_eq_true rfl) dX3_init_20 rfl (fun u4 => ?_)
  show Z p l e { frames := 2, cells := 12, slots := 846, locals := 40 } s m args below meth c X A 2 Q 4 751 [(q0, .inr (3, [.int 0, .int 0, .int 0, .int 0, .int 0, .ref q1, .null, .null, .null, .null, .null, .null, .null, .null, .null, .int 0])), (q1, .inr (1, [.ref (u2 0), .ref (u2 1)])), (u2 0, .inl (X.2.1, 12, .inl (fun _ => 0))), (u2 1, .inl (X.2.1, 732, .inl (fun _ => 0))), (q3, .inr (4, [.int 0, .int 0, .int 0, .int 0, .int 0]))] [(0, .ref q0)] 23 [.ref q3, .ref q0]
  refine z_putF C 0 6 [(q0, .inr (3, [.int 0, .int 0, .int 0, .int 0, .int 0, .ref q1, .ref q3, .null, .null, .null, .null, .null, .null, .null, .null, .int 0])), (q1, .inr (1, [.ref (u2 0), .ref (u2 1)])), (u2 0, .inl (X.2.1, 12, .inl (fun _ => 0))), (u2 1, .inl (X.2.1, 732, .inl (fun _ => 0))), (q3, .inr (4, [.int 0, .int 0, .int 0, .int 0, .int 0]))] dX3_init_23 rfl rfl hX3 tyX3_ok nmX3 (by decide) (by decide +kernel) rfl rfl hin rfl rfl rfl rfl (Nat.le_of_ble_eq_true rfl) rfl ?_
  refine z_aln C dX3_init_26 0 rfl ?_
  refine z_bp C dX3_init_27 12 (by decide) ?_
  refine z_newa (atype := .int) C 0 X.2.1 12 (12, .inl (fun _ => 0)) .int dX3_init_29 rfl rfl (Or.inl rfl) (by decide +kernel) (fun _ => rfl) (by decide) (by decide) (by decide) (Nat.le_of_ble_eq_true rfl) (Nat.le_of_ble_eq_true rfl) (fun q5 => ?_)
  show Z p l e { frames := 2, cells := 12, slots := 846, locals := 40 } s m args below meth c X A 2 Q 5 763 [(q0, .inr (3, [.int 0, .int 0, .int 0, .int 0, .int 0, .ref q1, .ref q3, .null, .null, .null, .null, .null, .null, .null, .null, .int 0])), (q1, .inr (1, [.ref (u2 0), .ref (u2 1)])), (u2 0, .inl (X.2.1, 12, .inl (fun _ => 0))), (u2 1, .inl (X.2.1, 732, .inl (fun _ => 0))), (q3, .inr (4, [.int 0, .int 0, .int 0, .int 0, .int 0])), (q5, .inl (X.2.1, 12, .inl (fun _ => 0)))] [(0, .ref q0)] 31 [.ref q5, .ref q0]
  refine z_putF C 0 7 [(q0, .inr (3, [.int 0, .int 0, .int 0, .int 0, .int 0, .ref q1, .ref q3, .ref q5, .null, .null, .null, .null, .null, .null, .null, .int 0])), (q1, .inr (1, [.ref (u2 0), .ref (u2 1)])), (u2 0, .inl (X.2.1, 12, .inl (fun _ => 0))), (u2 1, .inl (X.2.1, 732, .inl (fun _ => 0))), (q3, .inr (4, [.int 0, .int 0, .int 0, .int 0, .int 0])), (q5, .inl (X.2.1, 12, .inl (fun _ => 0)))] dX3_init_31 rfl rfl hX3 tyX3_ok nmX3 (by decide) (by decide +kernel) rfl rfl hin rfl rfl rfl rfl (Nat.le_of_ble_eq_true rfl) rfl ?_
  refine z_aln C dX3_init_34 0 rfl ?_
  refine z_bp C dX3_init_35 12 (by decide) ?_
  refine z_newa (atype := .int) C 0 X.2.1 12 (12, .inl (fun _ => 0)) .int dX3_init_37 rfl rfl (Or.inl rfl) (by decide +kernel) (fun _ => rfl) (by decide) (by decide) (by decide) (Nat.le_of_ble_eq_true rfl) (Nat.le_of_ble_eq_true rfl) (fun q6 => ?_)
  show Z p l e { frames := 2, cells := 12, slots := 846, locals := 40 } s m args below meth c X A 2 Q 6 775 [(q0, .inr (3, [.int 0, .int 0, .int 0, .int 0, .int 0, .ref q1, .ref q3, .ref q5, .null, .null, .null, .null, .null, .null, .null, .int 0])), (q1, .inr (1, [.ref (u2 0), .ref (u2 1)])), (u2 0, .inl (X.2.1, 12, .inl (fun _ => 0))), (u2 1, .inl (X.2.1, 732, .inl (fun _ => 0))), (q3, .inr (4, [.int 0, .int 0, .int 0, .int 0, .int 0])), (q5, .inl (X.2.1, 12, .inl (fun _ => 0))), (q6, .inl (X.2.1, 12, .inl (fun _ => 0)))] [(0, .ref q0)] 39 [.ref q6, .ref q0]
  refine z_putF C 0 8 [(q0, .inr (3, [.int 0, .int 0, .int 0, .int 0, .int 0, .ref q1, .ref q3, .ref q5, .ref q6, .null, .null, .null, .null, .null, .null, .int 0])), (q1, .inr (1, [.ref (u2 0), .ref (u2 1)])), (u2 0, .inl (X.2.1, 12, .inl (fun _ => 0))), (u2 1, .inl (X.2.1, 732, .inl (fun _ => 0))), (q3, .inr (4, [.int 0, .int 0, .int 0, .int 0, .int 0])), (q5, .inl (X.2.1, 12, .inl (fun _ => 0))), (q6, .inl (X.2.1, 12, .inl (fun _ => 0)))] dX3_init_39 rfl rfl hX3 tyX3_ok nmX3 (by decide) (by decide +kernel) rfl rfl hin rfl rfl rfl rfl (Nat.le_of_ble_eq_true rfl) rfl ?_
  refine z_aln C dX3_init_42 0 rfl ?_
  refine z_bp C dX3_init_43 12 (by decide) ?_
  refine z_newa (atype := .int) C 0 X.2.1 12 (12, .inl (fun _ => 0)) .int dX3_init_45 rfl rfl (Or.inl rfl) (by decide +kernel) (fun _ => rfl) (by decide) (by decide) (by decide) (Nat.le_of_ble_eq_true rfl) (Nat.le_of_ble_eq_true rfl) (fun q7 => ?_)
  show Z p l e { frames := 2, cells := 12, slots := 846, locals := 40 } s m args below meth c X A 2 Q 7 787 [(q0, .inr (3, [.int 0, .int 0, .int 0, .int 0, .int 0, .ref q1, .ref q3, .ref q5, .ref q6, .null, .null, .null, .null, .null, .null, .int 0])), (q1, .inr (1, [.ref (u2 0), .ref (u2 1)])), (u2 0, .inl (X.2.1, 12, .inl (fun _ => 0))), (u2 1, .inl (X.2.1, 732, .inl (fun _ => 0))), (q3, .inr (4, [.int 0, .int 0, .int 0, .int 0, .int 0])), (q5, .inl (X.2.1, 12, .inl (fun _ => 0))), (q6, .inl (X.2.1, 12, .inl (fun _ => 0))), (q7, .inl (X.2.1, 12, .inl (fun _ => 0)))] [(0, .ref q0)] 47 [.ref q7, .ref q0]
  refine z_putF C 0 9 [(q0, .inr (3, [.int 0, .int 0, .int 0, .int 0, .int 0, .ref q1, .ref q3, .ref q5, .ref q6, .ref q7, .null, .null, .null, .null, .null, .int 0])), (q1, .inr (1, [.ref (u2 0), .ref (u2 1)])), (u2 0, .inl (X.2.1, 12, .inl (fun _ => 0))), (u2 1, .inl (X.2.1, 732, .inl (fun _ => 0))), (q3, .inr (4, [.int 0, .int 0, .int 0, .int 0, .int 0])), (q5, .inl (X.2.1, 12, .inl (fun _ => 0))), (q6, .inl (X.2.1, 12, .inl (fun _ => 0))), (q7, .inl (X.2.1, 12, .inl (fun _ => 0)))] dX3_init_47 rfl rfl hX3 tyX3_ok nmX3 (by decide) (by decide +kernel) rfl rfl hin rfl rfl rfl rfl (Nat.le_of_ble_eq_true rfl) rfl ?_
  refine z_aln C dX3_init_50 0 rfl ?_
  refine z_bp C dX3_init_51 12 (by decide) ?_
  refine z_newa (atype := .int) C 0 X.2.1 12 (12, .inl (fun _ => 0)) .int dX3_init_53 rfl rfl (Or.inl rfl) (by decide +kernel) (fun _ => rfl) (by decide) (by decide) (by decide) (Nat.le_of_ble_eq_true rfl) (Nat.le_of_ble_eq_true rfl) (fun q8 => ?_)
  show Z p l e { frames := 2, cells := 12, slots := 846, locals := 40 } s m args below meth c X A 2 Q 8 799 [(q0, .inr (3, [.int 0, .int 0, .int 0, .int 0, .int 0, .ref q1, .ref q3, .ref q5, .ref q6, .ref q7, .null, .null, .null, .null, .null, .int 0])), (q1, .inr (1, [.ref (u2 0), .ref (u2 1)])), (u2 0, .inl (X.2.1, 12, .inl (fun _ => 0))), (u2 1, .inl (X.2.1, 732, .inl (fun _ => 0))), (q3, .inr (4, [.int 0, .int 0, .int 0, .int 0, .int 0])), (q5, .inl (X.2.1, 12, .inl (fun _ => 0))), (q6, .inl (X.2.1, 12, .inl (fun _ => 0))), (q7, .inl (X.2.1, 12, .inl (fun _ => 0))), (q8, .inl (X.2.1, 12, .inl (fun _ => 0)))] [(0, .ref q0)] 55 [.ref q8, .ref q0]
  refine z_putF C 0 10 [(q0, .inr (3, [.int 0, .int 0, .int 0, .int 0, .int 0, .ref q1, .ref q3, .ref q5, .ref q6, .ref q7, .ref q8, .null, .null, .null, .null, .int 0])), (q1, .inr (1, [.ref (u2 0), .ref (u2 1)])), (u2 0, .inl (X.2.1, 12, .inl (fun _ => 0))), (u2 1, .inl (X.2.1, 732, .inl (fun _ => 0))), (q3, .inr (4, [.int 0, .int 0, .int 0, .int 0, .int 0])), (q5, .inl (X.2.1, 12, .inl (fun _ => 0))), (q6, .inl (X.2.1, 12, .inl (fun _ => 0))), (q7, .inl (X.2.1, 12, .inl (fun _ => 0))), (q8, .inl (X.2.1, 12, .inl (fun _ => 0)))] dX3_init_55 rfl rfl hX3 tyX3_ok nmX3 (by decide) (by decide +kernel) rfl rfl hin rfl rfl rfl rfl (Nat.le_of_ble_eq_true rfl) rfl ?_
  refine z_aln C dX3_init_58 0 rfl ?_
  refine z_bp C dX3_init_59 12 (by decide) ?_
  refine z_newa (atype := .int) C 0 X.2.1 12 (12, .inl (fun _ => 0)) .int dX3_init_61 rfl rfl (Or.inl rfl) (by decide +kernel) (fun _ => rfl) (by decide) (by decide) (by decide) (Nat.le_of_ble_eq_true rfl) (Nat.le_of_ble_eq_true rfl) (fun q9 => ?_)
  show Z p l e { frames := 2, cells := 12, slots := 846, locals := 40 } s m args below meth c X A 2 Q 9 811 [(q0, .inr (3, [.int 0, .int 0, .int 0, .int 0, .int 0, .ref q1, .ref q3, .ref q5, .ref q6, .ref q7, .ref q8, .null, .null, .null, .null, .int 0])), (q1, .inr (1, [.ref (u2 0), .ref (u2 1)])), (u2 0, .inl (X.2.1, 12, .inl (fun _ => 0))), (u2 1, .inl (X.2.1, 732, .inl (fun _ => 0))), (q3, .inr (4, [.int 0, .int 0, .int 0, .int 0, .int 0])), (q5, .inl (X.2.1, 12, .inl (fun _ => 0))), (q6, .inl (X.2.1, 12, .inl (fun _ => 0))), (q7, .inl (X.2.1, 12, .inl (fun _ => 0))), (q8, .inl (X.2.1, 12, .inl (fun _ => 0))), (q9, .inl (X.2.1, 12, .inl (fun _ => 0)))] [(0, .ref q0)] 63 [.ref q9, .ref q0]
  refine z_putF C 0 11 [(q0, .inr (3, [.int 0, .int 0, .int 0, .int 0, .int 0, .ref q1, .ref q3, .ref q5, .ref q6, .ref q7, .ref q8, .ref q9, .null, .null, .null, .int 0])), (q1, .inr (1, [.ref (u2 0), .ref (u2 1)])), (u2 0, .inl (X.2.1, 12, .inl (fun _ => 0))), (u2 1, .inl (X.2.1, 732, .inl (fun _ => 0))), (q3, .inr (4, [.int 0, .int 0, .int 0, .int 0, .int 0])), (q5, .inl (X.2.1, 12, .inl (fun _ => 0))), (q6, .inl (X.2.1, 12, .inl (fun _ => 0))), (q7, .inl (X.2.1, 12, .inl (fun _ => 0))), (q8, .inl (X.2.1, 12, .inl (fun _ => 0))), (q9, .inl (X.2.1, 12, .inl (fun _ => 0)))] dX3_init_63 rfl rfl hX3 tyX3_ok nmX3 (by decide) (by decide +kernel) rfl rfl hin rfl rfl rfl rfl (Nat.le_of_ble_eq_true rfl) rfl ?_
  refine z_aln C dX3_init_66 0 rfl ?_
  refine z_bp C dX3_init_67 12 (by decide) ?_
  refine z_newa (atype := .int) C 0 X.2.1 12 (12, .inl (fun _ => 0)) .int dX3_init_69 rfl rfl (Or.inl rfl) (by decide +kernel) (fun _ => rfl) (by decide) (by decide) (by decide) (Nat.le_of_ble_eq_true rfl) (Nat.le_of_ble_eq_true rfl) (fun q10 => ?_)
  show Z p l e { frames := 2, cells := 12, slots := 846, locals := 40 } s m args below meth c X A 2 Q 10 823 [(q0, .inr (3, [.int 0, .int 0, .int 0, .int 0, .int 0, .ref q1, .ref q3, .ref q5, .ref q6, .ref q7, .ref q8, .ref q9, .null, .null, .null, .int 0])), (q1, .inr (1, [.ref (u2 0), .ref (u2 1)])), (u2 0, .inl (X.2.1, 12, .inl (fun _ => 0))), (u2 1, .inl (X.2.1, 732, .inl (fun _ => 0))), (q3, .inr (4, [.int 0, .int 0, .int 0, .int 0, .int 0])), (q5, .inl (X.2.1, 12, .inl (fun _ => 0))), (q6, .inl (X.2.1, 12, .inl (fun _ => 0))), (q7, .inl (X.2.1, 12, .inl (fun _ => 0))), (q8, .inl (X.2.1, 12, .inl (fun _ => 0))), (q9, .inl (X.2.1, 12, .inl (fun _ => 0))), (q10, .inl (X.2.1, 12, .inl (fun _ => 0)))] [(0, .ref q0)] 71 [.ref q10, .ref q0]
  refine z_putF C 0 12 [(q0, .inr (3, [.int 0, .int 0, .int 0, .int 0, .int 0, .ref q1, .ref q3, .ref q5, .ref q6, .ref q7, .ref q8, .ref q9, .ref q10, .null, .null, .int 0])), (q1, .inr (1, [.ref (u2 0), .ref (u2 1)])), (u2 0, .inl (X.2.1, 12, .inl (fun _ => 0))), (u2 1, .inl (X.2.1, 732, .inl (fun _ => 0))), (q3, .inr (4, [.int 0, .int 0, .int 0, .int 0, .int 0])), (q5, .inl (X.2.1, 12, .inl (fun _ => 0))), (q6, .inl (X.2.1, 12, .inl (fun _ => 0))), (q7, .inl (X.2.1, 12, .inl (fun _ => 0))), (q8, .inl (X.2.1, 12, .inl (fun _ => 0))), (q9, .inl (X.2.1, 12, .inl (fun _ => 0))), (q10, .inl (X.2.1, 12, .inl (fun _ => 0)))] dX3_init_71 rfl rfl hX3 tyX3_ok nmX3 (by decide) (by decide +kernel) rfl rfl hin rfl rfl rfl rfl (Nat.le_of_ble_eq_true rfl) rfl ?_
  refine z_aln C dX3_init_74 0 rfl ?_
  refine z_bp C dX3_init_75 11 (by decide) ?_
  refine z_newa (atype := .int) C 0 X.2.1 11 (11, .inl (fun _ => 0)) .int dX3_init_77 rfl rfl (Or.inl rfl) (by decide +kernel) (fun _ => rfl) (by decide) (by decide) (by decide) (Nat.le_of_ble_eq_true rfl) (Nat.le_of_ble_eq_true rfl) (fun q11 => ?_)
  show Z p l e { frames := 2, cells := 12, slots := 846, locals := 40 } s m args below meth c X A 2 Q 11 834 [(q0, .inr (3, [.int 0, .int 0, .int 0, .int 0, .int 0, .ref q1, .ref q3, .ref q5, .ref q6, .ref q7, .ref q8, .ref q9, .ref q10, .null, .null, .int 0])), (q1, .inr (1, [.ref (u2 0), .ref (u2 1)])), (u2 0, .inl (X.2.1, 12, .inl (fun _ => 0))), (u2 1, .inl (X.2.1, 732, .inl (fun _ => 0))), (q3, .inr (4, [.int 0, .int 0, .int 0, .int 0, .int 0])), (q5, .inl (X.2.1, 12, .inl (fun _ => 0))), (q6, .inl (X.2.1, 12, .inl (fun _ => 0))), (q7, .inl (X.2.1, 12, .inl (fun _ => 0))), (q8, .inl (X.2.1, 12, .inl (fun _ => 0))), (q9, .inl (X.2.1, 12, .inl (fun _ => 0))), (q10, .inl (X.2.1, 12, .inl (fun _ => 0))), (q11, .inl (X.2.1, 11, .inl (fun _ => 0)))] [(0, .ref q0)] 79 [.ref q11, .ref q0]
  refine z_putF C 0 13 [(q0, .inr (3, [.int 0, .int 0, .int 0, .int 0, .int 0, .ref q1, .ref q3, .ref q5, .ref q6, .ref q7, .ref q8, .ref q9, .ref q10, .ref q11, .null, .int 0])), (q1, .inr (1, [.ref (u2 0), .ref (u2 1)])), (u2 0, .inl (X.2.1, 12, .inl (fun _ => 0))), (u2 1, .inl (X.2.1, 732, .inl (fun _ => 0))), (q3, .inr (4, [.int 0, .int 0, .int 0, .int 0, .int 0])), (q5, .inl (X.2.1, 12, .inl (fun _ => 0))), (q6, .inl (X.2.1, 12, .inl (fun _ => 0))), (q7, .inl (X.2.1, 12, .inl (fun _ => 0))), (q8, .inl (X.2.1, 12, .inl (fun _ => 0))), (q9, .inl (X.2.1, 12, .inl (fun _ => 0))), (q10, .inl (X.2.1, 12, .inl (fun _ => 0))), (q11, .inl (X.2.1, 11, .inl (fun _ => 0)))] dX3_init_79 rfl rfl hX3 tyX3_ok nmX3 (by decide) (by decide +kernel) rfl rfl hin rfl rfl rfl rfl (Nat.le_of_ble_eq_true rfl) rfl ?_
  refine z_aln C dX3_init_82 0 rfl ?_
  refine z_bp C dX3_init_83 12 (by decide) ?_
  refine z_newa (atype := .int) C 0 X.2.1 12 (12, .inl (fun _ => 0)) .int dX3_init_85 rfl rfl (Or.inl rfl) (by decide +kernel) (fun _ => rfl) (by decide) (by decide) (by decide) (Nat.le_of_ble_eq_true rfl) (Nat.le_of_ble_eq_true rfl) (fun q12 => ?_)
  show Z p l e { frames := 2, cells := 12, slots := 846, locals := 40 } s m args below meth c X A 2 Q 12 846 [(q0, .inr (3, [.int 0, .int 0, .int 0, .int 0, .int 0, .ref q1, .ref q3, .ref q5, .ref q6, .ref q7, .ref q8, .ref q9, .ref q10, .ref q11, .null, .int 0])), (q1, .inr (1, [.ref (u2 0), .ref (u2 1)])), (u2 0, .inl (X.2.1, 12, .inl (fun _ => 0))), (u2 1, .inl (X.2.1, 732, .inl (fun _ => 0))), (q3, .inr (4, [.int 0, .int 0, .int 0, .int 0, .int 0])), (q5, .inl (X.2.1, 12, .inl (fun _ => 0))), (q6, .inl (X.2.1, 12, .inl (fun _ => 0))), (q7, .inl (X.2.1, 12, .inl (fun _ => 0))), (q8, .inl (X.2.1, 12, .inl (fun _ => 0))), (q9, .inl (X.2.1, 12, .inl (fun _ => 0))), (q10, .inl (X.2.1, 12, .inl (fun _ => 0))), (q11, .inl (X.2.1, 11, .inl (fun _ => 0))), (q12, .inl (X.2.1, 12, .inl (fun _ => 0)))] [(0, .ref q0)] 87 [.ref q12, .ref q0]
  refine z_putF C 0 14 [(q0, .inr (3, [.int 0, .int 0, .int 0, .int 0, .int 0, .ref q1, .ref q3, .ref q5, .ref q6, .ref q7, .ref q8, .ref q9, .ref q10, .ref q11, .ref q12, .int 0])), (q1, .inr (1, [.ref (u2 0), .ref (u2 1)])), (u2 0, .inl (X.2.1, 12, .inl (fun _ => 0))), (u2 1, .inl (X.2.1, 732, .inl (fun _ => 0))), (q3, .inr (4, [.int 0, .int 0, .int 0, .int 0, .int 0])), (q5, .inl (X.2.1, 12, .inl (fun _ => 0))), (q6, .inl (X.2.1, 12, .inl (fun _ => 0))), (q7, .inl (X.2.1, 12, .inl (fun _ => 0))), (q8, .inl (X.2.1, 12, .inl (fun _ => 0))), (q9, .inl (X.2.1, 12, .inl (fun _ => 0))), (q10, .inl (X.2.1, 12, .inl (fun _ => 0))), (q11, .inl (X.2.1, 11, .inl (fun _ => 0))), (q12, .inl (X.2.1, 12, .inl (fun _ => 0)))] dX3_init_87 rfl rfl hX3 tyX3_ok nmX3 (by decide) (by decide +kernel) rfl rfl hin rfl rfl rfl rfl (Nat.le_of_ble_eq_true rfl) rfl ?_
  refine z_aln C dX3_init_90 0 rfl ?_
  refine z_ic C dX3_init_91 (-1) (by decide) ?_
  refine z_put C 0 15 [(q0, .inr (3, [.int 0, .int 0, .int 0, .int 0, .int 0, .ref q1, .ref q3, .ref q5, .ref q6, .ref q7, .ref q8, .ref q9, .ref q10, .ref q11, .ref q12, .int (-1)])), (q1, .inr (1, [.ref (u2 0), .ref (u2 1)])), (u2 0, .inl (X.2.1, 12, .inl (fun _ => 0))), (u2 1, .inl (X.2.1, 732, .inl (fun _ => 0))), (q3, .inr (4, [.int 0, .int 0, .int 0, .int 0, .int 0])), (q5, .inl (X.2.1, 12, .inl (fun _ => 0))), (q6, .inl (X.2.1, 12, .inl (fun _ => 0))), (q7, .inl (X.2.1, 12, .inl (fun _ => 0))), (q8, .inl (X.2.1, 12, .inl (fun _ => 0))), (q9, .inl (X.2.1, 12, .inl (fun _ => 0))), (q10, .inl (X.2.1, 12, .inl (fun _ => 0))), (q11, .inl (X.2.1, 11, .inl (fun _ => 0))), (q12, .inl (X.2.1, 12, .inl (fun _ => 0)))] dX3_init_92 rfl rfl hX3 tyX3_ok nmX3 (by decide) (by decide +kernel) rfl rfl rfl rfl rfl (Nat.le_of_ble_eq_true rfl) rfl ?_
  refine z_ic C dX3_init_95 0 (by decide) ?_
  refine z_isn C 1 [(1, .int 0), (0, .ref q0)] dX3_init_96 rfl (by decide) rfl ?_
  refine z_lv [1, 0] [(0, .ref q0), (1, .int 0)] rfl ?_
  have LPk15 : ∀ (nk15 k15 : Nat) (x13 : Nat → Int32) (x14 : Nat → Int32), k15 + nk15 = 12 → (x13 = fill1 k15 ∧ x14 = fill1 k15) → Z p l e { frames := 2, cells := 12, slots := 846, locals := 40 } s m args below meth c X A 2 Q 12 846 [(q0, .inr (3, [.int 0, .int 0, .int 0, .int 0, .int 0, .ref q1, .ref q3, .ref q5, .ref q6, .ref q7, .ref q8, .ref q9, .ref q10, .ref q11, .ref q12, .int (-1)])), (q1, .inr (1, [.ref (u2 0), .ref (u2 1)])), (u2 0, .inl (X.2.1, 12, .inl (fun _ => 0))), (u2 1, .inl (X.2.1, 732, .inl (fun _ => 0))), (q3, .inr (4, [.int 0, .int 0, .int 0, .int 0, .int 0])), (q5, .inl (X.2.1, 12, .inl x13)), (q6, .inl (X.2.1, 12, .inl x14)), (q7, .inl (X.2.1, 12, .inl (fun _ => 0))), (q8, .inl (X.2.1, 12, .inl (fun _ => 0))), (q9, .inl (X.2.1, 12, .inl (fun _ => 0))), (q10, .inl (X.2.1, 12, .inl (fun _ => 0))), (q11, .inl (X.2.1, 11, .inl (fun _ => 0))), (q12, .inl (X.2.1, 12, .inl (fun _ => 0)))] [(0, .ref q0), (1, .int (nI k15))] 97 [] := by
    intro nk15
    induction nk15 with
    | zero =>
      intro k15 x13 x14 hkk15 hik15
      refine z_iln C dX3_init_97 1 rfl ?_
      refine z_bp C dX3_init_98 12 (by decide) ?_
      refine z_ic_geN C k15 12 125 dX3_init_100 (by decide) rfl rfl (by omega) (by omega) (fun c16 => ?_) (fun c16 => ?_)
      rotate_left
      · exact absurd c16 (by omega)
      obtain ⟨hi1, hi2⟩ := hik15
      obtain rfl : k15 = 12 := by omega
      subst hi1
      subst hi2
      refine z_world [0, 1, 4, 5, 6, 7, 8, 9, 10, 11, 12, 2, 3] (LW (ad0 q0 (ad [q0, q1, q3, q5, q6, q7, q8, q9, q10, q11, q12, (u2 0), (u2 1)])) X gL0) rfl (by decide) ?_
      exact z_vret C hQ (ad [q0, q1, q3, q5, q6, q7, q8, q9, q10, q11, q12, (u2 0), (u2 1)]) dX3_init_125 rfl (by decide) (by decide)
    | succ nk15 ihk15 =>
      intro k15 x13 x14 hkk15 hik15
      refine z_iln C dX3_init_97 1 rfl ?_
      refine z_bp C dX3_init_98 12 (by decide) ?_
      refine z_ic_geN C k15 12 125 dX3_init_100 (by decide) rfl rfl (by omega) (by omega) (fun c17 => ?_) (fun c17 => ?_)
      · exact absurd c17 (by omega)
      refine z_aln C dX3_init_103 0 rfl ?_
      refine z_get (v := .ref q5) C 0 7 dX3_init_104 rfl rfl rfl hX3 (by decide) (by decide +kernel) rfl ?_
      refine z_iln C dX3_init_107 1 rfl ?_
      refine z_bp C dX3_init_108 100 (by decide) ?_
      refine z_iast (f := x13) C 5 k15 [(q0, .inr (3, [.int 0, .int 0, .int 0, .int 0, .int 0, .ref q1, .ref q3, .ref q5, .ref q6, .ref q7, .ref q8, .ref q9, .ref q10, .ref q11, .ref q12, .int (-1)])), (q1, .inr (1, [.ref (u2 0), .ref (u2 1)])), (u2 0, .inl (X.2.1, 12, .inl (fun _ => 0))), (u2 1, .inl (X.2.1, 732, .inl (fun _ => 0))), (q3, .inr (4, [.int 0, .int 0, .int 0, .int 0, .int 0])), (q5, .inl (X.2.1, 12, .inl (upd x13 k15 100))), (q6, .inl (X.2.1, 12, .inl x14)), (q7, .inl (X.2.1, 12, .inl (fun _ => 0))), (q8, .inl (X.2.1, 12, .inl (fun _ => 0))), (q9, .inl (X.2.1, 12, .inl (fun _ => 0))), (q10, .inl (X.2.1, 12, .inl (fun _ => 0))), (q11, .inl (X.2.1, 11, .inl (fun _ => 0))), (q12, .inl (X.2.1, 12, .inl (fun _ => 0)))] dX3_init_110 rfl (by decide) rfl (by omega) rfl ?_
      refine z_aln C dX3_init_111 0 rfl ?_
      refine z_get (v := .ref q6) C 0 8 dX3_init_112 rfl rfl rfl hX3 (by decide) (by decide +kernel) rfl ?_
      refine z_iln C dX3_init_115 1 rfl ?_
      refine z_bp C dX3_init_116 100 (by decide) ?_
      refine z_iast (f := x14) C 6 k15 [(q0, .inr (3, [.int 0, .int 0, .int 0, .int 0, .int 0, .ref q1, .ref q3, .ref q5, .ref q6, .ref q7, .ref q8, .ref q9, .ref q10, .ref q11, .ref q12, .int (-1)])), (q1, .inr (1, [.ref (u2 0), .ref (u2 1)])), (u2 0, .inl (X.2.1, 12, .inl (fun _ => 0))), (u2 1, .inl (X.2.1, 732, .inl (fun _ => 0))), (q3, .inr (4, [.int 0, .int 0, .int 0, .int 0, .int 0])), (q5, .inl (X.2.1, 12, .inl (upd x13 k15 100))), (q6, .inl (X.2.1, 12, .inl (upd x14 k15 100))), (q7, .inl (X.2.1, 12, .inl (fun _ => 0))), (q8, .inl (X.2.1, 12, .inl (fun _ => 0))), (q9, .inl (X.2.1, 12, .inl (fun _ => 0))), (q10, .inl (X.2.1, 12, .inl (fun _ => 0))), (q11, .inl (X.2.1, 11, .inl (fun _ => 0))), (q12, .inl (X.2.1, 12, .inl (fun _ => 0)))] dX3_init_118 rfl (by decide) rfl (by omega) rfl ?_
      refine z_inc C 1 (nI (k15 + 1)) [(1, .int (nI (k15 + 1))), (0, .ref q0)] dX3_init_119 rfl (nI_add k15 1) (by decide) rfl ?_
      refine z_go C 97 dX3_init_122 (by decide) ?_
      refine z_lv [1, 0] [(0, .ref q0), (1, .int (nI (k15 + 1)))] rfl ?_
      exact ihk15 (k15 + 1) (upd x13 k15 100) (upd x14 k15 100) (by omega) ⟨by rw [hik15.1]; exact fill1_s _, by rw [hik15.2]; exact fill1_s _⟩
  exact LPk15 12 0 (fun _ => 0) (fun _ => 0) (by omega) ⟨rfl, rfl⟩
set_option maxHeartbeats 4000000 in
set_option maxRecDepth 100000 in
theorem mX5_init (l : Launch) (X : zX) (q0 : Nat) : CUN (S := (Nat → Nat) × (Nat → Nat) × (Nat → Nat) × (Nat → Nat)) l yX5_init wsX5_init 3 61 36 4097 X [(q0, .inr (5, [.null, .null, .null, .null]))] [.ref q0] (fun u => (IW (ad0 q0 (fun _ => 0)) u.1 u.2.1 u.2.2.1 u.2.2.2 X gL0 gL0 gA0 gF0)) := by
  refine cnn_intro (cc := cX5_init) (ret := none) (maxL := 1) (by decide +kernel) rfl (Nat.le_of_ble_eq_true rfl) ?_
  intro p e s m args below meth c A Q C hQ hin0 hnw
  have hin : meth.name = "<init>" := hin0
  have hX0 : ∀ w ∈ wsX00, w ∈ wsX5_init := by decide +kernel
  have hX2 : ∀ w ∈ wsX20, w ∈ wsX5_init := by decide +kernel
  have hX3 : ∀ w ∈ wsX30, w ∈ wsX5_init := by decide +kernel
  have hX5 : ∀ w ∈ wsX50, w ∈ wsX5_init := by decide +kernel
  show Z p l e { frames := 3, cells := 36, slots := 4097, locals := 61 } s m args below meth c X A 1 Q 0 0 [(q0, .inr (5, [.null, .null, .null, .null]))] [(0, .ref q0)] 0 []
  refine z_aln C dX5_init_0 0 rfl ?_
  refine z_oinit C dX5_init_1 (by decide +kernel) (by decide +kernel) (by decide +kernel) (Nat.le_of_ble_eq_true rfl) (Nat.le_of_ble_eq_true rfl) ?_
  refine z_aln C dX5_init_4 0 rfl ?_
  refine z_new (N := 16) (ci := 3) C [.int 0, .int 0, .int 0, .int 0, .int 0, .null, .null, .null, .null, .null, .null, .null, .null, .null, .null, .int 0] dX5_init_5 hX3 tyX3_ok (by decide +kernel) (by decide +kernel) (by decide +kernel) rfl (fun j hj => by rcases (show j = 0 ∨ j = 1 ∨ j = 2 ∨ j = 3 ∨ j = 4 ∨ j = 5 ∨ j = 6 ∨ j = 7 ∨ j = 8 ∨ j = 9 ∨ j = 10 ∨ j = 11 ∨ j = 12 ∨ j = 13 ∨ j = 14 ∨ j = 15 by omega) with rfl | rfl | rfl | rfl | rfl | rfl | rfl | rfl | rfl | rfl | rfl | rfl | rfl | rfl | rfl | rfl <;> rfl) (Nat.le_of_ble_eq_true rfl) (Nat.le_of_ble_eq_true rfl) (fun q1 => ?_)
  show Z p l e { frames := 3, cells := 36, slots := 4097, locals := 61 } s m args below meth c X A 1 Q 1 16 [(q0, .inr (5, [.null, .null, .null, .null])), (q1, .inr (3, [.int 0, .int 0, .int 0, .int 0, .int 0, .null, .null, .null, .null, .null, .null, .null, .null, .null, .null, .int 0]))] [(0, .ref q0)] 8 [.ref q1, .ref q0]
  refine z_dup C dX5_init_8 rfl ?_
  refine z_cIuN (S := Nat → Nat) (As := []) (rest := [.ref q1, .ref q0]) C (mX3_init l X q1) gX5_init_X3_init rfl hnw (by decide +kernel) (by decide +kernel) (by decide +kernel) rfl ⟨by decide, by decide, (by decide : (parseMethodDescriptor yX3_init.desc).map (fun d => d.parameters.length) = some 0)⟩ ⟨by decide, by decide⟩ ⟨by decide, by decide⟩ [1] [0] [0, 1, 2, 3, 4, 5, 6, 7, 8, 9, 10, 11, 12, 13] rfl rfl (by decide) (by decide) (by decide) (by decide) (fun u2 => ([(q0, .inr (5, [.null, .null, .null, .null]))] ++ (LW (ad0 q1 u2) X gL0))) (fun _ => rfl) (Nat.le_of_ble_eq_true rfl) dX5_init_9 rfl (fun u2 => ?_)
  show Z p l e { frames := 3, cells := 36, slots := 4097, locals := 61 } s m args below meth c X A 1 Q 13 862 ([(q0, .inr (5, [.null, .null, .null, .null]))] ++ (LW (ad0 q1 u2) X gL0)) [(0, .ref q0)] 12 [.ref q1, .ref q0]
  refine z_putF C 0 0 ([(q0, .inr (5, [.ref q1, .null, .null, .null]))] ++ (LW (ad0 q1 u2) X gL0)) dX5_init_12 rfl rfl hX5 tyX5_ok nmX5 (by decide) (by decide +kernel) rfl rfl hin rfl rfl rfl rfl (Nat.le_of_ble_eq_true rfl) rfl ?_
  refine z_aln C dX5_init_15 0 rfl ?_
  refine z_new (N := 16) (ci := 3) C [.int 0, .int 0, .int 0, .int 0, .int 0, .null, .null, .null, .null, .null, .null, .null, .null, .null, .null, .int 0] dX5_init_16 hX3 tyX3_ok (by decide +kernel) (by decide +kernel) (by decide +kernel) rfl (fun j hj => by rcases (show j = 0 ∨ j = 1 ∨ j = 2 ∨ j = 3 ∨ j = 4 ∨ j = 5 ∨ j = 6 ∨ j = 7 ∨ j = 8 ∨ j = 9 ∨ j = 10 ∨ j = 11 ∨ j = 12 ∨ j = 13 ∨ j = 14 ∨ j = 15 by omega) with rfl | rfl | rfl | rfl | rfl | rfl | rfl | rfl | rfl | rfl | rfl | rfl | rfl | rfl | rfl | rfl <;> rfl) (Nat.le_of_ble_eq_true rfl) (Nat.le_of_ble_eq_true rfl) (fun q3 => ?_)
  show Z p l e { frames := 3, cells := 36, slots := 4097, locals := 61 } s m args below meth c X A 1 Q 14 878 ([(q0, .inr (5, [.ref q1, .null, .null, .null]))] ++ (LW (ad0 q1 u2) X gL0 ++ ([(q3, .inr (3, [.int 0, .int 0, .int 0, .int 0, .int 0, .null, .null, .null, .null, .null, .null, .null, .null, .null, .null, .int 0]))]))) [(0, .ref q0)] 19 [.ref q3, .ref q0]
  refine z_dup C dX5_init_19 rfl ?_
  refine z_cIuN (S := Nat → Nat) (As := []) (rest := [.ref q3, .ref q0]) C (mX3_init l X q3) gX5_init_X3_init rfl hnw (by decide +kernel) (by decide +kernel) (by decide +kernel) rfl ⟨by decide, by decide, (by decide : (parseMethodDescriptor yX3_init.desc).map (fun d => d.parameters.length) = some 0)⟩ ⟨by decide, by decide⟩ ⟨by decide, by decide⟩ [14] [0, 1, 2, 3, 4, 5, 6, 7, 8, 9, 10, 11, 12, 13] [0, 1, 2, 3, 4, 5, 6, 7, 8, 9, 10, 11, 12, 13, 14, 15, 16, 17, 18, 19, 20, 21, 22, 23, 24, 25, 26] rfl rfl (by decide) (by decide) (by decide) (by decide) (fun u4 => ([(q0, .inr (5, [.ref q1, .null, .null, .null]))] ++ (LW (ad0 q1 u2) X gL0 ++ (LW (ad0 q3 u4) X gL0)))) (fun _ => rfl) (Nat.le_of_ble_eq_true rfl) dX5_init_20 rfl (fun u4 => ?_)
  show Z p l e { frames := 3, cells := 36, slots := 4097, locals := 61 } s m args below meth c X A 1 Q 26 1724 ([(q0, .inr (5, [.ref q1, .null, .null, .null]))] ++ (LW (ad0 q1 u2) X gL0 ++ (LW (ad0 q3 u4) X gL0))) [(0, .ref q0)] 23 [.ref q3, .ref q0]
  refine z_putF C 0 1 ([(q0, .inr (5, [.ref q1, .ref q3, .null, .null]))] ++ (LW (ad0 q1 u2) X gL0 ++ (LW (ad0 q3 u4) X gL0))) dX5_init_23 rfl rfl hX5 tyX5_ok nmX5 (by decide) (by decide +kernel) rfl rfl hin rfl rfl rfl rfl (Nat.le_of_ble_eq_true rfl) rfl ?_
  refine z_aln C dX5_init_26 0 rfl ?_
  refine z_new (N := 7) (ci := 0) C [.null, .null, .null, .null, .null, .null, .int 0] dX5_init_27 hX0 tyX0_ok (by decide +kernel) (by decide +kernel) (by decide +kernel) rfl (fun j hj => by rcases (show j = 0 ∨ j = 1 ∨ j = 2 ∨ j = 3 ∨ j = 4 ∨ j = 5 ∨ j = 6 by omega) with rfl | rfl | rfl | rfl | rfl | rfl | rfl <;> rfl) (Nat.le_of_ble_eq_true rfl) (Nat.le_of_ble_eq_true rfl) (fun q5 => ?_)
  show Z p l e { frames := 3, cells := 36, slots := 4097, locals := 61 } s m args below meth c X A 1 Q 27 1731 ([(q0, .inr (5, [.ref q1, .ref q3, .null, .null]))] ++ (LW (ad0 q1 u2) X gL0 ++ (LW (ad0 q3 u4) X gL0 ++ ([(q5, .inr (0, [.null, .null, .null, .null, .null, .null, .int 0]))])))) [(0, .ref q0)] 30 [.ref q5, .ref q0]
  refine z_dup C dX5_init_30 rfl ?_
  refine z_cIu (S := Nat → Nat) (As := []) (rest := [.ref q5, .ref q0]) C (mX0_init l X q5) gX5_init_X0_init rfl (by decide +kernel) (by decide +kernel) (by decide +kernel) rfl ⟨by decide, by decide, (by decide : (parseMethodDescriptor yX0_init.desc).map (fun d => d.parameters.length) = some 0)⟩ ⟨by decide, by decide⟩ ⟨by decide, by decide⟩ [27] [0, 1, 2, 3, 4, 5, 6, 7, 8, 9, 10, 11, 12, 13, 14, 15, 16, 17, 18, 19, 20, 21, 22, 23, 24, 25, 26] [0, 1, 2, 3, 4, 5, 6, 7, 8, 9, 10, 11, 12, 13, 14, 15, 16, 17, 18, 19, 20, 21, 22, 23, 24, 25, 26, 27, 28, 29, 30, 31, 32, 33] rfl rfl (by decide) (by decide) (by decide) (by decide) (fun u6 => ([(q0, .inr (5, [.ref q1, .ref q3, .null, .null]))] ++ (LW (ad0 q1 u2) X gL0 ++ (LW (ad0 q3 u4) X gL0 ++ (AW (ad0 q5 u6) X gA0))))) (fun _ => rfl) (Nat.le_of_ble_eq_true rfl) dX5_init_31 rfl (fun u6 => ?_)
  show Z p l e { frames := 3, cells := 36, slots := 4097, locals := 61 } s m args below meth c X A 1 Q 33 4074 ([(q0, .inr (5, [.ref q1, .ref q3, .null, .null]))] ++ (LW (ad0 q1 u2) X gL0 ++ (LW (ad0 q3 u4) X gL0 ++ (AW (ad0 q5 u6) X gA0)))) [(0, .ref q0)] 34 [.ref q5, .ref q0]
  refine z_putF C 0 2 ([(q0, .inr (5, [.ref q1, .ref q3, .ref q5, .null]))] ++ (LW (ad0 q1 u2) X gL0 ++ (LW (ad0 q3 u4) X gL0 ++ (AW (ad0 q5 u6) X gA0)))) dX5_init_34 rfl rfl hX5 tyX5_ok nmX5 (by decide) (by decide +kernel) rfl rfl hin rfl rfl rfl rfl (Nat.le_of_ble_eq_true rfl) rfl ?_
  refine z_aln C dX5_init_37 0 rfl ?_
  refine z_new (N := 3) (ci := 2) C [.null, .null, .int 0] dX5_init_38 hX2 tyX2_ok (by decide +kernel) (by decide +kernel) (by decide +kernel) rfl (fun j hj => by rcases (show j = 0 ∨ j = 1 ∨ j = 2 by omega) with rfl | rfl | rfl <;> rfl) (Nat.le_of_ble_eq_true rfl) (Nat.le_of_ble_eq_true rfl) (fun q7 => ?_)
  show Z p l e { frames := 3, cells := 36, slots := 4097, locals := 61 } s m args below meth c X A 1 Q 34 4077 ([(q0, .inr (5, [.ref q1, .ref q3, .ref q5, .null]))] ++ (LW (ad0 q1 u2) X gL0 ++ (LW (ad0 q3 u4) X gL0 ++ (AW (ad0 q5 u6) X gA0 ++ ([(q7, .inr (2, [.null, .null, .int 0]))]))))) [(0, .ref q0)] 41 [.ref q7, .ref q0]
  refine z_dup C dX5_init_41 rfl ?_
  refine z_cIn (S := Nat → Nat) (As := []) (rest := [.ref q7, .ref q0]) C (mX2_init l X q7) gX5_init_X2_init_n28 rfl hnw.2.2 (by decide +kernel) (by decide +kernel) rfl ⟨by decide, by decide, (by decide : (parseMethodDescriptor yX2_init.desc).map (fun d => d.parameters.length) = some 0)⟩ ⟨by decide, by decide⟩ ⟨by decide, by decide⟩ [34] [0, 1, 2, 3, 4, 5, 6, 7, 8, 9, 10, 11, 12, 13, 14, 15, 16, 17, 18, 19, 20, 21, 22, 23, 24, 25, 26, 27, 28, 29, 30, 31, 32, 33] [0, 1, 2, 3, 4, 5, 6, 7, 8, 9, 10, 11, 12, 13, 14, 15, 16, 17, 18, 19, 20, 21, 22, 23, 24, 25, 26, 27, 28, 29, 30, 31, 32, 33, 34, 35, 36] rfl rfl (by decide) (by decide) (by decide) (by decide) (fun u8 => ([(q0, .inr (5, [.ref q1, .ref q3, .ref q5, .null]))] ++ (LW (ad0 q1 u2) X gL0 ++ (LW (ad0 q3 u4) X gL0 ++ (AW (ad0 q5 u6) X gA0 ++ (FW (ad0 q7 u8) X gF0)))))) (fun _ => rfl) (Nat.le_of_ble_eq_true rfl) dX5_init_42 rfl (fun u8 => ?_)
  show Z p l e { frames := 3, cells := 36, slots := 4097, locals := 61 } s m args below meth c X A 1 Q 36 4097 ([(q0, .inr (5, [.ref q1, .ref q3, .ref q5, .null]))] ++ (LW (ad0 q1 u2) X gL0 ++ (LW (ad0 q3 u4) X gL0 ++ (AW (ad0 q5 u6) X gA0 ++ (FW (ad0 q7 u8) X gF0))))) [(0, .ref q0)] 45 [.ref q7, .ref q0]
  refine z_putF C 0 3 ([(q0, .inr (5, [.ref q1, .ref q3, .ref q5, .ref q7]))] ++ (LW (ad0 q1 u2) X gL0 ++ (LW (ad0 q3 u4) X gL0 ++ (AW (ad0 q5 u6) X gA0 ++ (FW (ad0 q7 u8) X gF0))))) dX5_init_45 rfl rfl hX5 tyX5_ok nmX5 (by decide) (by decide +kernel) rfl rfl hin rfl rfl rfl rfl (Nat.le_of_ble_eq_true rfl) rfl ?_
  exact z_vret C hQ ((ad0 q1 u2), (ad0 q3 u4), (ad0 q5 u6), (ad0 q7 u8)) dX5_init_48 rfl (by decide) (by decide)
def fillM (k : Nat) : Nat → Int32 := fun j => if j < k ∨ (12 ≤ j ∧ j < 12 + k) then 100 else 0
theorem fillM_0 : (fun _ => 0) = fillM 0 := by
  funext j
  unfold fillM
  rw [if_neg (by omega)]
theorem fillM_s (k : Nat) (hk : k < 12) : upd (upd (fillM k) (0 + k) 100) (12 + k) 100 = fillM (k + 1) := by
  funext j
  unfold upd fillM
  by_cases h : j = 12 + k
  · rw [if_pos h, if_pos (by omega)]
  · rw [if_neg h]
    by_cases h1 : j = 0 + k
    · rw [if_pos h1, if_pos (by omega)]
    · rw [if_neg h1]
      by_cases h2 : j < k ∨ (12 ≤ j ∧ j < 12 + k)
      · rw [if_pos h2, if_pos (by omega)]
      · rw [if_neg h2, if_neg (by omega)]
def gM0 : zG := fun c => if c = 0 then upd (fillM 12) 900 (-1) else fun _ => 0
