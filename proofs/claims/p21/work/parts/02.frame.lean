/-! the judgement Z: from every heap that holds the cells ws, with the locals lv, the machine comes from pc and the stack st to Q -/
abbrev zX : Type := va_G × (ClassId × ClassId × ClassId)
/-- the classes of the arrays of int, boolean, long -/
def zT (X : zX) : List (ClassId × FieldType) := [(X.2.1, .int), (X.2.2.1, .boolean)]
def Z (p : Program) (l : Launch) (e : Env) (R : Room) (s : State) (m : MethodId) (args : Array Value) (below : List Frame) (meth : Method) (c : Code) (X : zX) (A : Nat → Prop) (nL : Nat) (Q : State → Prop) (cells slots : Nat) (ws : va_W) (lv : List (Nat × Value)) (pc : Nat) (st : List Value) : Prop :=
  ∀ (H : Heap) (locs : List Loc) (ls : Array Slot), va_P X.1 vwCl ws H → va_D A ws → va_S A s.heap H locs → lv_has ls nL lv → W p l e R s m args below meth c H locs cells slots Q (F0 m pc ls st)
def ZC (p : Program) (s : State) (m : MethodId) (args : Array Value) (meth : Method) (c : Code) (X : zX) (A : Nat → Prop) (nL : Nat) (cc : ByteArray) (own : String) (Ts : List Cond) (ret : Option FieldType) : Prop :=
  p.tables.exec = Jvm.exec ∧ c.code = cc ∧ c.maxLocals = nL ∧ s.vm.findClass own = some m.cls ∧ (∀ w ∈ Ts, w.before args s = true) ∧ va_K X.1 vwCl (zT X) s ∧ (∀ q : Nat, s.heap.size ≤ q → A q) ∧ meth.locks = false ∧ meth.sig.returnType = ret
theorem zfm {α β : Type} {f : α → Option β} : ∀ {is : List α} {w : List β}, is.map f = w.map some → is.filterMap f = w
  | [], w, h => by
    cases w with
    | nil => rfl
    | cons b w => simp at h
  | i :: is, [], h => by simp at h
  | i :: is, b :: w, h => by
    rw [List.map_cons, List.map_cons, List.cons.injEq] at h
    rw [List.filterMap_cons, h.1, zfm h.2]
section ZF
variable {p : Program} {l : Launch} {e : Env} {R : Room} {s : State} {m : MethodId} {args : Array Value} {below : List Frame} {meth : Method} {c : Code} {cells slots : Nat} {Q : State → Prop} {X : zX} {A : Nat → Prop} {nL pc : Nat} {cc : ByteArray} {own : String} {Ts : List Cond} {ret : Option FieldType} {ws : va_W} {lv : List (Nat × Value)} {st : List Value}
theorem ZC.ex (C : ZC p s m args meth c X A nL cc own Ts ret) : p.tables.exec = Jvm.exec := C.1
theorem ZC.cb (C : ZC p s m args meth c X A nL cc own Ts ret) : c.code = cc := C.2.1
theorem ZC.ml (C : ZC p s m args meth c X A nL cc own Ts ret) : c.maxLocals = nL := C.2.2.1
theorem ZC.ow (C : ZC p s m args meth c X A nL cc own Ts ret) : s.vm.findClass own = some m.cls := C.2.2.2.1
theorem ZC.ts (C : ZC p s m args meth c X A nL cc own Ts ret) : ∀ w ∈ Ts, w.before args s = true := C.2.2.2.2.1
theorem ZC.hK (C : ZC p s m args meth c X A nL cc own Ts ret) : va_K X.1 vwCl (zT X) s := C.2.2.2.2.2.1
theorem ZC.hA (C : ZC p s m args meth c X A nL cc own Ts ret) : ∀ q : Nat, s.heap.size ≤ q → A q := C.2.2.2.2.2.2.1
theorem ZC.lo (C : ZC p s m args meth c X A nL cc own Ts ret) : meth.locks = false := C.2.2.2.2.2.2.2.1
theorem ZC.re (C : ZC p s m args meth c X A nL cc own Ts ret) : meth.sig.returnType = ret := C.2.2.2.2.2.2.2.2
theorem z_ic (C : ZC p s m args meth c X A nL cc own Ts ret) {n : Int} (d : decode cc pc = .ok (.iconst n, 1)) (v : Int32) (hv : Int32.ofInt n = v) (k : Z p l e R s m args below meth c X A nL Q cells slots ws lv (pc + 1) (.int v :: st)) : Z p l e R s m args below meth c X A nL Q cells slots ws lv pc st := fun H locs ls hP hD hS hl => lv_iconst C.ex C.cb d hv (k H locs ls hP hD hS hl)
theorem z_bp (C : ZC p s m args meth c X A nL cc own Ts ret) {n : Int} (d : decode cc pc = .ok (.bipush n, 2)) (v : Int32) (hv : (Int8.ofInt n).toInt32 = v) (k : Z p l e R s m args below meth c X A nL Q cells slots ws lv (pc + 2) (.int v :: st)) : Z p l e R s m args below meth c X A nL Q cells slots ws lv pc st := fun H locs ls hP hD hS hl => lv_bipush C.ex C.cb d hv (k H locs ls hP hD hS hl)
theorem z_sp (C : ZC p s m args meth c X A nL cc own Ts ret) {n : Int} (d : decode cc pc = .ok (.sipush n, 3)) (v : Int32) (hv : (Int16.ofInt n).toInt32 = v) (k : Z p l e R s m args below meth c X A nL Q cells slots ws lv (pc + 3) (.int v :: st)) : Z p l e R s m args below meth c X A nL Q cells slots ws lv pc st := fun H locs ls hP hD hS hl => lv_sipush C.ex C.cb d hv (k H locs ls hP hD hS hl)
theorem z_lc (C : ZC p s m args meth c X A nL cc own Ts ret) {n : Fin 2} (d : decode cc pc = .ok (.lconst n, 1)) (v : Int64) (hv : Int64.ofNat (n : Nat) = v) (k : Z p l e R s m args below meth c X A nL Q cells slots ws lv (pc + 1) (.long v :: st)) : Z p l e R s m args below meth c X A nL Q cells slots ws lv pc st := fun H locs ls hP hD hS hl => lv_lconst C.ex C.cb d hv (k H locs ls hP hD hS hl)
theorem z_ldc (C : ZC p s m args meth c X A nL cc own Ts ret) {index : Nat} {v : Int32} (d : decode cc pc = .ok (.ldc index, 2)) (h : Jvm.Cond.constant own index v ∈ Ts) (k : Z p l e R s m args below meth c X A nL Q cells slots ws lv (pc + 2) (.int v :: st)) : Z p l e R s m args below meth c X A nL Q cells slots ws lv pc st := fun H locs ls hP hD hS hl => lv_ldc C.ex C.cb C.ow (C.ts _ h) d (k H locs ls hP hD hS hl)
theorem z_ldc2 (C : ZC p s m args meth c X A nL cc own Ts ret) {index : Nat} {v : Int64} (d : decode cc pc = .ok (.ldc2_w index, 3)) (h : Jvm.Cond.constantLong own index v ∈ Ts) (k : Z p l e R s m args below meth c X A nL Q cells slots ws lv (pc + 3) (.long v :: st)) : Z p l e R s m args below meth c X A nL Q cells slots ws lv pc st := fun H locs ls hP hD hS hl => lv_ldc2 C.ex C.cb C.ow (C.ts _ h) d (k H locs ls hP hD hS hl)
theorem z_iln (C : ZC p s m args meth c X A nL cc own Ts ret) {k0 : Fin 4} {x : Int32} (d : decode cc pc = .ok (.iload_n k0, 1)) (j : Nat) (hj : lv[j]? = some ((k0 : Nat), .int x)) (k : Z p l e R s m args below meth c X A nL Q cells slots ws lv (pc + 1) (.int x :: st)) : Z p l e R s m args below meth c X A nL Q cells slots ws lv pc st := fun H locs ls hP hD hS hl => lv_iload_n C.ex C.cb d rfl (lv_at hl j hj) (k H locs ls hP hD hS hl)
theorem z_il (C : ZC p s m args meth c X A nL cc own Ts ret) {i : Nat} {x : Int32} (d : decode cc pc = .ok (.iload i, 2)) (j : Nat) (hj : lv[j]? = some (i, .int x)) (k : Z p l e R s m args below meth c X A nL Q cells slots ws lv (pc + 2) (.int x :: st)) : Z p l e R s m args below meth c X A nL Q cells slots ws lv pc st := fun H locs ls hP hD hS hl => lv_iload C.ex C.cb d (lv_at hl j hj) (k H locs ls hP hD hS hl)
theorem z_lln (C : ZC p s m args meth c X A nL cc own Ts ret) {k0 : Fin 4} {x : Int64} (d : decode cc pc = .ok (.lload_n k0, 1)) (j : Nat) (hj : lv[j]? = some ((k0 : Nat), .long x)) (k : Z p l e R s m args below meth c X A nL Q cells slots ws lv (pc + 1) (.long x :: st)) : Z p l e R s m args below meth c X A nL Q cells slots ws lv pc st := fun H locs ls hP hD hS hl => lv_lload_n C.ex C.cb d rfl (lv_at hl j hj) (k H locs ls hP hD hS hl)
theorem z_ll (C : ZC p s m args meth c X A nL cc own Ts ret) {i : Nat} {x : Int64} (d : decode cc pc = .ok (.lload i, 2)) (j : Nat) (hj : lv[j]? = some (i, .long x)) (k : Z p l e R s m args below meth c X A nL Q cells slots ws lv (pc + 2) (.long x :: st)) : Z p l e R s m args below meth c X A nL Q cells slots ws lv pc st := fun H locs ls hP hD hS hl => lv_lload C.ex C.cb d (lv_at hl j hj) (k H locs ls hP hD hS hl)
theorem z_aln (C : ZC p s m args meth c X A nL cc own Ts ret) {k0 : Fin 4} {x : Nat} (d : decode cc pc = .ok (.aload_n k0, 1)) (j : Nat) (hj : lv[j]? = some ((k0 : Nat), .ref x)) (k : Z p l e R s m args below meth c X A nL Q cells slots ws lv (pc + 1) (.ref x :: st)) : Z p l e R s m args below meth c X A nL Q cells slots ws lv pc st := fun H locs ls hP hD hS hl => lv_aload_n C.ex C.cb d rfl (lv_at hl j hj) (k H locs ls hP hD hS hl)
theorem z_al (C : ZC p s m args meth c X A nL cc own Ts ret) {i : Nat} {x : Nat} (d : decode cc pc = .ok (.aload i, 2)) (j : Nat) (hj : lv[j]? = some (i, .ref x)) (k : Z p l e R s m args below meth c X A nL Q cells slots ws lv (pc + 2) (.ref x :: st)) : Z p l e R s m args below meth c X A nL Q cells slots ws lv pc st := fun H locs ls hP hD hS hl => lv_aload C.ex C.cb d (lv_at hl j hj) (k H locs ls hP hD hS hl)
theorem z_is (C : ZC p s m args meth c X A nL cc own Ts ret) {i : Nat} {x : Int32} (lv1 : List (Nat × Value)) (d : decode cc pc = .ok (.istore i, 2)) (hn : i < nL) (hv : (i, Value.int x) :: lv.filter (fun q => !(q.1 == i) && !(q.1 + 1 == i && q.2.category == 2)) = lv1) (k : Z p l e R s m args below meth c X A nL Q cells slots ws lv1 (pc + 2) st) : Z p l e R s m args below meth c X A nL Q cells slots ws lv pc (.int x :: st) := fun H locs ls hP hD hS hl => lv_istore C.ex C.cb d hl hn hv (fun ls1 hl1 => k H locs ls1 hP hD hS hl1)
theorem z_isn (C : ZC p s m args meth c X A nL cc own Ts ret) {k0 : Fin 4} {x : Int32} (i : Nat) (lv1 : List (Nat × Value)) (d : decode cc pc = .ok (.istore_n k0, 1)) (hi : (k0 : Nat) = i) (hn : i < nL) (hv : (i, Value.int x) :: lv.filter (fun q => !(q.1 == i) && !(q.1 + 1 == i && q.2.category == 2)) = lv1) (k : Z p l e R s m args below meth c X A nL Q cells slots ws lv1 (pc + 1) st) : Z p l e R s m args below meth c X A nL Q cells slots ws lv pc (.int x :: st) := fun H locs ls hP hD hS hl => lv_istore_n C.ex C.cb d hi hl hn hv (fun ls1 hl1 => k H locs ls1 hP hD hS hl1)
theorem z_as (C : ZC p s m args meth c X A nL cc own Ts ret) {i : Nat} {x : Nat} (lv1 : List (Nat × Value)) (d : decode cc pc = .ok (.astore i, 2)) (hn : i < nL) (hv : (i, Value.ref x) :: lv.filter (fun q => !(q.1 == i) && !(q.1 + 1 == i && q.2.category == 2)) = lv1) (k : Z p l e R s m args below meth c X A nL Q cells slots ws lv1 (pc + 2) st) : Z p l e R s m args below meth c X A nL Q cells slots ws lv pc (.ref x :: st) := fun H locs ls hP hD hS hl => lv_astore C.ex C.cb d hl hn hv (fun ls1 hl1 => k H locs ls1 hP hD hS hl1)
theorem z_asn (C : ZC p s m args meth c X A nL cc own Ts ret) {k0 : Fin 4} {x : Nat} (i : Nat) (lv1 : List (Nat × Value)) (d : decode cc pc = .ok (.astore_n k0, 1)) (hi : (k0 : Nat) = i) (hn : i < nL) (hv : (i, Value.ref x) :: lv.filter (fun q => !(q.1 == i) && !(q.1 + 1 == i && q.2.category == 2)) = lv1) (k : Z p l e R s m args below meth c X A nL Q cells slots ws lv1 (pc + 1) st) : Z p l e R s m args below meth c X A nL Q cells slots ws lv pc (.ref x :: st) := fun H locs ls hP hD hS hl => lv_astore_n C.ex C.cb d hi hl hn hv (fun ls1 hl1 => k H locs ls1 hP hD hS hl1)
theorem z_ls (C : ZC p s m args meth c X A nL cc own Ts ret) {i : Nat} {x : Int64} (lv1 : List (Nat × Value)) (d : decode cc pc = .ok (.lstore i, 2)) (hn : i + 1 < nL) (hv : (i, Value.long x) :: lv.filter (fun q => !(q.1 == i) && (!(q.1 == i + 1) && !(q.1 + 1 == i && q.2.category == 2))) = lv1) (k : Z p l e R s m args below meth c X A nL Q cells slots ws lv1 (pc + 2) st) : Z p l e R s m args below meth c X A nL Q cells slots ws lv pc (.long x :: st) := fun H locs ls hP hD hS hl => lv_lstore C.ex C.cb d hl hn hv (fun ls1 hl1 => k H locs ls1 hP hD hS hl1)
theorem z_lsn (C : ZC p s m args meth c X A nL cc own Ts ret) {k0 : Fin 4} {x : Int64} (i : Nat) (lv1 : List (Nat × Value)) (d : decode cc pc = .ok (.lstore_n k0, 1)) (hi : (k0 : Nat) = i) (hn : i + 1 < nL) (hv : (i, Value.long x) :: lv.filter (fun q => !(q.1 == i) && (!(q.1 == i + 1) && !(q.1 + 1 == i && q.2.category == 2))) = lv1) (k : Z p l e R s m args below meth c X A nL Q cells slots ws lv1 (pc + 1) st) : Z p l e R s m args below meth c X A nL Q cells slots ws lv pc (.long x :: st) := fun H locs ls hP hD hS hl => lv_lstore_n C.ex C.cb d hi hl hn hv (fun ls1 hl1 => k H locs ls1 hP hD hS hl1)
theorem z_inc (C : ZC p s m args meth c X A nL cc own Ts ret) {i : Nat} {n : Int} {x : Int32} (j : Nat) (v : Int32) (lv1 : List (Nat × Value)) (d : decode cc pc = .ok (.iinc i n, 3)) (hj : lv[j]? = some (i, .int x)) (hv : x + Int32.ofInt n = v) (hn : i < nL) (hw : (i, Value.int v) :: lv.filter (fun q => !(q.1 == i) && !(q.1 + 1 == i && q.2.category == 2)) = lv1) (k : Z p l e R s m args below meth c X A nL Q cells slots ws lv1 (pc + 3) st) : Z p l e R s m args below meth c X A nL Q cells slots ws lv pc st := fun H locs ls hP hD hS hl => lv_iinc C.ex C.cb d hl hj hv hn hw (fun ls1 hl1 => k H locs ls1 hP hD hS hl1)
theorem z_lv (js : List Nat) (lv1 : List (Nat × Value)) (h : lv_pick lv js = lv1) (k : Z p l e R s m args below meth c X A nL Q cells slots ws lv1 pc st) : Z p l e R s m args below meth c X A nL Q cells slots ws lv pc st := fun H locs ls hP hD hS hl => k H locs ls hP hD hS (lv_sub hl js h)
theorem z_iadd (C : ZC p s m args meth c X A nL cc own Ts ret) {x y : Int32} (d : decode cc pc = .ok (.iadd, 1)) (v : Int32) (hv : x + y = v) (k : Z p l e R s m args below meth c X A nL Q cells slots ws lv (pc + 1) (.int v :: st)) : Z p l e R s m args below meth c X A nL Q cells slots ws lv pc (.int y :: .int x :: st) := by subst hv; exact fun H locs ls hP hD hS hl => lv_iadd C.ex C.cb d (k H locs ls hP hD hS hl)
theorem z_isub (C : ZC p s m args meth c X A nL cc own Ts ret) {x y : Int32} (d : decode cc pc = .ok (.isub, 1)) (v : Int32) (hv : x - y = v) (k : Z p l e R s m args below meth c X A nL Q cells slots ws lv (pc + 1) (.int v :: st)) : Z p l e R s m args below meth c X A nL Q cells slots ws lv pc (.int y :: .int x :: st) := by subst hv; exact fun H locs ls hP hD hS hl => lv_isub C.ex C.cb d (k H locs ls hP hD hS hl)
theorem z_imul (C : ZC p s m args meth c X A nL cc own Ts ret) {x y : Int32} (d : decode cc pc = .ok (.imul, 1)) (v : Int32) (hv : x * y = v) (k : Z p l e R s m args below meth c X A nL Q cells slots ws lv (pc + 1) (.int v :: st)) : Z p l e R s m args below meth c X A nL Q cells slots ws lv pc (.int y :: .int x :: st) := by subst hv; exact fun H locs ls hP hD hS hl => lv_imul C.ex C.cb d (k H locs ls hP hD hS hl)
theorem z_iand (C : ZC p s m args meth c X A nL cc own Ts ret) {x y : Int32} (d : decode cc pc = .ok (.iand, 1)) (v : Int32) (hv : x &&& y = v) (k : Z p l e R s m args below meth c X A nL Q cells slots ws lv (pc + 1) (.int v :: st)) : Z p l e R s m args below meth c X A nL Q cells slots ws lv pc (.int y :: .int x :: st) := by subst hv; exact fun H locs ls hP hD hS hl => lv_iand C.ex C.cb d (k H locs ls hP hD hS hl)
theorem z_ixor (C : ZC p s m args meth c X A nL cc own Ts ret) {x y : Int32} (d : decode cc pc = .ok (.ixor, 1)) (v : Int32) (hv : x ^^^ y = v) (k : Z p l e R s m args below meth c X A nL Q cells slots ws lv (pc + 1) (.int v :: st)) : Z p l e R s m args below meth c X A nL Q cells slots ws lv pc (.int y :: .int x :: st) := by subst hv; exact fun H locs ls hP hD hS hl => lv_ixor C.ex C.cb d (k H locs ls hP hD hS hl)
theorem z_lxor (C : ZC p s m args meth c X A nL cc own Ts ret) {x y : Int64} (d : decode cc pc = .ok (.lxor, 1)) (v : Int64) (hv : x ^^^ y = v) (k : Z p l e R s m args below meth c X A nL Q cells slots ws lv (pc + 1) (.long v :: st)) : Z p l e R s m args below meth c X A nL Q cells slots ws lv pc (.long y :: .long x :: st) := by subst hv; exact fun H locs ls hP hD hS hl => lv_lxor C.ex C.cb d (k H locs ls hP hD hS hl)
theorem z_ishr (C : ZC p s m args meth c X A nL cc own Ts ret) {x y : Int32} (d : decode cc pc = .ok (.ishr, 1)) (v : Int32) (hv : x >>> (y &&& 31) = v) (k : Z p l e R s m args below meth c X A nL Q cells slots ws lv (pc + 1) (.int v :: st)) : Z p l e R s m args below meth c X A nL Q cells slots ws lv pc (.int y :: .int x :: st) := by subst hv; exact fun H locs ls hP hD hS hl => lv_ishr C.ex C.cb d (k H locs ls hP hD hS hl)
theorem z_idiv (C : ZC p s m args meth c X A nL cc own Ts ret) {x y : Int32} (d : decode cc pc = .ok (.idiv, 1)) (hne : ¬ y = 0) (v : Int32) (hv : x / y = v) (k : Z p l e R s m args below meth c X A nL Q cells slots ws lv (pc + 1) (.int v :: st)) : Z p l e R s m args below meth c X A nL Q cells slots ws lv pc (.int y :: .int x :: st) := by subst hv; exact fun H locs ls hP hD hS hl => lv_idiv C.ex C.cb d hne (k H locs ls hP hD hS hl)
theorem z_ineg (C : ZC p s m args meth c X A nL cc own Ts ret) {x : Int32} (d : decode cc pc = .ok (.ineg, 1)) (v : Int32) (hv : -x = v) (k : Z p l e R s m args below meth c X A nL Q cells slots ws lv (pc + 1) (.int v :: st)) : Z p l e R s m args below meth c X A nL Q cells slots ws lv pc (.int x :: st) := by subst hv; exact fun H locs ls hP hD hS hl => lv_ineg C.ex C.cb d (k H locs ls hP hD hS hl)
theorem z_lmul (C : ZC p s m args meth c X A nL cc own Ts ret) {x y : Int64} (d : decode cc pc = .ok (.lmul, 1)) (v : Int64) (hv : x * y = v) (k : Z p l e R s m args below meth c X A nL Q cells slots ws lv (pc + 1) (.long v :: st)) : Z p l e R s m args below meth c X A nL Q cells slots ws lv pc (.long y :: .long x :: st) := by subst hv; exact fun H locs ls hP hD hS hl => lv_lmul C.ex C.cb d (k H locs ls hP hD hS hl)
theorem z_lsub (C : ZC p s m args meth c X A nL cc own Ts ret) {x y : Int64} (d : decode cc pc = .ok (.lsub, 1)) (v : Int64) (hv : x - y = v) (k : Z p l e R s m args below meth c X A nL Q cells slots ws lv (pc + 1) (.long v :: st)) : Z p l e R s m args below meth c X A nL Q cells slots ws lv pc (.long y :: .long x :: st) := by subst hv; exact fun H locs ls hP hD hS hl => lv_lsub C.ex C.cb d (k H locs ls hP hD hS hl)
theorem z_ldiv (C : ZC p s m args meth c X A nL cc own Ts ret) {x y : Int64} (d : decode cc pc = .ok (.ldiv, 1)) (hne : ¬ y = 0) (v : Int64) (hv : x / y = v) (k : Z p l e R s m args below meth c X A nL Q cells slots ws lv (pc + 1) (.long v :: st)) : Z p l e R s m args below meth c X A nL Q cells slots ws lv pc (.long y :: .long x :: st) := by subst hv; exact fun H locs ls hP hD hS hl => lv_ldiv C.ex C.cb d hne (k H locs ls hP hD hS hl)
theorem z_lcmp (C : ZC p s m args meth c X A nL cc own Ts ret) {x y : Int64} (d : decode cc pc = .ok (.lcmp, 1)) (k : Z p l e R s m args below meth c X A nL Q cells slots ws lv (pc + 1) (.int (lg_cmp x y) :: st)) : Z p l e R s m args below meth c X A nL Q cells slots ws lv pc (.long y :: .long x :: st) := fun H locs ls hP hD hS hl => W.lcmp C.ex C.cb d (k H locs ls hP hD hS hl)
theorem z_i2l (C : ZC p s m args meth c X A nL cc own Ts ret) {x : Int32} (d : decode cc pc = .ok (.i2l, 1)) (v : Int64) (hv : x.toInt64 = v) (k : Z p l e R s m args below meth c X A nL Q cells slots ws lv (pc + 1) (.long v :: st)) : Z p l e R s m args below meth c X A nL Q cells slots ws lv pc (.int x :: st) := fun H locs ls hP hD hS hl => lv_i2l C.ex C.cb d hv (k H locs ls hP hD hS hl)
theorem z_l2i (C : ZC p s m args meth c X A nL cc own Ts ret) {x : Int64} (d : decode cc pc = .ok (.l2i, 1)) (v : Int32) (hv : x.toInt32 = v) (k : Z p l e R s m args below meth c X A nL Q cells slots ws lv (pc + 1) (.int v :: st)) : Z p l e R s m args below meth c X A nL Q cells slots ws lv pc (.long x :: st) := fun H locs ls hP hD hS hl => lv_l2i C.ex C.cb d hv (k H locs ls hP hD hS hl)
theorem z_dup (C : ZC p s m args meth c X A nL cc own Ts ret) {v : Value} (d : decode cc pc = .ok (.dup, 1)) (hv : v.category = 1) (k : Z p l e R s m args below meth c X A nL Q cells slots ws lv (pc + 1) (v :: v :: st)) : Z p l e R s m args below meth c X A nL Q cells slots ws lv pc (v :: st) := fun H locs ls hP hD hS hl => lv_dup C.ex C.cb d hv (k H locs ls hP hD hS hl)
theorem z_dup2 (C : ZC p s m args meth c X A nL cc own Ts ret) {v w : Value} (d : decode cc pc = .ok (.dup2, 1)) (hv : v.category = 1) (hw : w.category = 1) (k : Z p l e R s m args below meth c X A nL Q cells slots ws lv (pc + 1) (v :: w :: v :: w :: st)) : Z p l e R s m args below meth c X A nL Q cells slots ws lv pc (v :: w :: st) := fun H locs ls hP hD hS hl => lv_dup2_11 C.ex C.cb d hv hw (k H locs ls hP hD hS hl)
theorem z_pop (C : ZC p s m args meth c X A nL cc own Ts ret) {v : Value} (d : decode cc pc = .ok (.pop, 1)) (hv : v.category = 1) (k : Z p l e R s m args below meth c X A nL Q cells slots ws lv (pc + 1) st) : Z p l e R s m args below meth c X A nL Q cells slots ws lv pc (v :: st) := fun H locs ls hP hD hS hl => lv_pop C.ex C.cb d hv (k H locs ls hP hD hS hl)
theorem zn_eq {a : Nat} (ha : a < 2 ^ 31) : nI a = 0 ↔ a = 0 := nI_eq (b := 0) ha (by decide)
theorem zn_le {a : Nat} (ha : a < 2 ^ 31) : nI a ≤ 0 ↔ a = 0 := (nI_leI (b := 0) ha (by decide)).trans Nat.le_zero
theorem zn_gt {a : Nat} (ha : a < 2 ^ 31) : 0 < nI a ↔ 0 < a := nI_ltI (a := 0) (by decide) ha
theorem zn_dn (n : Nat) : nI n + Int32.ofInt (-1) = nI n - 1 := by
  rw [Int32.sub_eq_add_neg]
  rfl
theorem z_if_eq (C : ZC p s m args meth c X A nL cc own Ts ret) {x : Int32} {off : Int} (tgt : Nat) (d : decode cc pc = .ok (.ifCond .eq off, 3)) (ht : (pc : Int) + off = (tgt : Int)) (k1 : x = 0 → Z p l e R s m args below meth c X A nL Q cells slots ws lv tgt st) (k2 : ¬ (x = 0) → Z p l e R s m args below meth c X A nL Q cells slots ws lv (pc + 3) st) : Z p l e R s m args below meth c X A nL Q cells slots ws lv pc (.int x :: st) := fun H locs ls hP hD hS hl => lv_if_eq C.ex C.cb d ht (fun h => k1 h H locs ls hP hD hS hl) (fun h => k2 h H locs ls hP hD hS hl)
theorem z_if_lt (C : ZC p s m args meth c X A nL cc own Ts ret) {x : Int32} {off : Int} (tgt : Nat) (d : decode cc pc = .ok (.ifCond .lt off, 3)) (ht : (pc : Int) + off = (tgt : Int)) (k1 : x < 0 → Z p l e R s m args below meth c X A nL Q cells slots ws lv tgt st) (k2 : ¬ (x < 0) → Z p l e R s m args below meth c X A nL Q cells slots ws lv (pc + 3) st) : Z p l e R s m args below meth c X A nL Q cells slots ws lv pc (.int x :: st) := fun H locs ls hP hD hS hl => lv_if_lt C.ex C.cb d ht (fun h => k1 h H locs ls hP hD hS hl) (fun h => k2 h H locs ls hP hD hS hl)
theorem z_if_ge (C : ZC p s m args meth c X A nL cc own Ts ret) {x : Int32} {off : Int} (tgt : Nat) (d : decode cc pc = .ok (.ifCond .ge off, 3)) (ht : (pc : Int) + off = (tgt : Int)) (k1 : 0 ≤ x → Z p l e R s m args below meth c X A nL Q cells slots ws lv tgt st) (k2 : ¬ (0 ≤ x) → Z p l e R s m args below meth c X A nL Q cells slots ws lv (pc + 3) st) : Z p l e R s m args below meth c X A nL Q cells slots ws lv pc (.int x :: st) := fun H locs ls hP hD hS hl => lv_if_ge C.ex C.cb d ht (fun h => k1 h H locs ls hP hD hS hl) (fun h => k2 h H locs ls hP hD hS hl)
theorem z_if_gt (C : ZC p s m args meth c X A nL cc own Ts ret) {x : Int32} {off : Int} (tgt : Nat) (d : decode cc pc = .ok (.ifCond .gt off, 3)) (ht : (pc : Int) + off = (tgt : Int)) (k1 : 0 < x → Z p l e R s m args below meth c X A nL Q cells slots ws lv tgt st) (k2 : ¬ (0 < x) → Z p l e R s m args below meth c X A nL Q cells slots ws lv (pc + 3) st) : Z p l e R s m args below meth c X A nL Q cells slots ws lv pc (.int x :: st) := fun H locs ls hP hD hS hl => lv_if_gt C.ex C.cb d ht (fun h => k1 h H locs ls hP hD hS hl) (fun h => k2 h H locs ls hP hD hS hl)
theorem z_if_le (C : ZC p s m args meth c X A nL cc own Ts ret) {x : Int32} {off : Int} (tgt : Nat) (d : decode cc pc = .ok (.ifCond .le off, 3)) (ht : (pc : Int) + off = (tgt : Int)) (k1 : x ≤ 0 → Z p l e R s m args below meth c X A nL Q cells slots ws lv tgt st) (k2 : ¬ (x ≤ 0) → Z p l e R s m args below meth c X A nL Q cells slots ws lv (pc + 3) st) : Z p l e R s m args below meth c X A nL Q cells slots ws lv pc (.int x :: st) := fun H locs ls hP hD hS hl => lv_if_le C.ex C.cb d ht (fun h => k1 h H locs ls hP hD hS hl) (fun h => k2 h H locs ls hP hD hS hl)
theorem z_ic_eq (C : ZC p s m args meth c X A nL cc own Ts ret) {x y : Int32} {off : Int} (tgt : Nat) (d : decode cc pc = .ok (.if_icmp .eq off, 3)) (ht : (pc : Int) + off = (tgt : Int)) (k1 : x = y → Z p l e R s m args below meth c X A nL Q cells slots ws lv tgt st) (k2 : ¬ (x = y) → Z p l e R s m args below meth c X A nL Q cells slots ws lv (pc + 3) st) : Z p l e R s m args below meth c X A nL Q cells slots ws lv pc (.int y :: .int x :: st) := fun H locs ls hP hD hS hl => lv_icmp_eq C.ex C.cb d ht (fun h => k1 h H locs ls hP hD hS hl) (fun h => k2 h H locs ls hP hD hS hl)
theorem z_ic_lt (C : ZC p s m args meth c X A nL cc own Ts ret) {x y : Int32} {off : Int} (tgt : Nat) (d : decode cc pc = .ok (.if_icmp .lt off, 3)) (ht : (pc : Int) + off = (tgt : Int)) (k1 : x < y → Z p l e R s m args below meth c X A nL Q cells slots ws lv tgt st) (k2 : ¬ (x < y) → Z p l e R s m args below meth c X A nL Q cells slots ws lv (pc + 3) st) : Z p l e R s m args below meth c X A nL Q cells slots ws lv pc (.int y :: .int x :: st) := fun H locs ls hP hD hS hl => lv_icmp_lt C.ex C.cb d ht (fun h => k1 h H locs ls hP hD hS hl) (fun h => k2 h H locs ls hP hD hS hl)
theorem z_ic_ge (C : ZC p s m args meth c X A nL cc own Ts ret) {x y : Int32} {off : Int} (tgt : Nat) (d : decode cc pc = .ok (.if_icmp .ge off, 3)) (ht : (pc : Int) + off = (tgt : Int)) (k1 : y ≤ x → Z p l e R s m args below meth c X A nL Q cells slots ws lv tgt st) (k2 : ¬ (y ≤ x) → Z p l e R s m args below meth c X A nL Q cells slots ws lv (pc + 3) st) : Z p l e R s m args below meth c X A nL Q cells slots ws lv pc (.int y :: .int x :: st) := fun H locs ls hP hD hS hl => lv_icmp_ge C.ex C.cb d ht (fun h => k1 h H locs ls hP hD hS hl) (fun h => k2 h H locs ls hP hD hS hl)
theorem z_ic_gt (C : ZC p s m args meth c X A nL cc own Ts ret) {x y : Int32} {off : Int} (tgt : Nat) (d : decode cc pc = .ok (.if_icmp .gt off, 3)) (ht : (pc : Int) + off = (tgt : Int)) (k1 : y < x → Z p l e R s m args below meth c X A nL Q cells slots ws lv tgt st) (k2 : ¬ (y < x) → Z p l e R s m args below meth c X A nL Q cells slots ws lv (pc + 3) st) : Z p l e R s m args below meth c X A nL Q cells slots ws lv pc (.int y :: .int x :: st) := fun H locs ls hP hD hS hl => lv_icmp_gt C.ex C.cb d ht (fun h => k1 h H locs ls hP hD hS hl) (fun h => k2 h H locs ls hP hD hS hl)
theorem z_ic_le (C : ZC p s m args meth c X A nL cc own Ts ret) {x y : Int32} {off : Int} (tgt : Nat) (d : decode cc pc = .ok (.if_icmp .le off, 3)) (ht : (pc : Int) + off = (tgt : Int)) (k1 : x ≤ y → Z p l e R s m args below meth c X A nL Q cells slots ws lv tgt st) (k2 : ¬ (x ≤ y) → Z p l e R s m args below meth c X A nL Q cells slots ws lv (pc + 3) st) : Z p l e R s m args below meth c X A nL Q cells slots ws lv pc (.int y :: .int x :: st) := fun H locs ls hP hD hS hl => lv_icmp_le C.ex C.cb d ht (fun h => k1 h H locs ls hP hD hS hl) (fun h => k2 h H locs ls hP hD hS hl)
theorem z_if_ne (C : ZC p s m args meth c X A nL cc own Ts ret) {x : Int32} {off : Int} (tgt : Nat) (d : decode cc pc = .ok (.ifCond .ne off, 3)) (ht : (pc : Int) + off = (tgt : Int)) (k1 : ¬ x = 0 → Z p l e R s m args below meth c X A nL Q cells slots ws lv tgt st) (k2 : x = 0 → Z p l e R s m args below meth c X A nL Q cells slots ws lv (pc + 3) st) : Z p l e R s m args below meth c X A nL Q cells slots ws lv pc (.int x :: st) := fun H locs ls hP hD hS hl => lv_if_ne C.ex C.cb d ht (fun h => k1 h H locs ls hP hD hS hl) (fun h => k2 h H locs ls hP hD hS hl)
theorem z_ic_ne (C : ZC p s m args meth c X A nL cc own Ts ret) {x y : Int32} {off : Int} (tgt : Nat) (d : decode cc pc = .ok (.if_icmp .ne off, 3)) (ht : (pc : Int) + off = (tgt : Int)) (k1 : ¬ x = y → Z p l e R s m args below meth c X A nL Q cells slots ws lv tgt st) (k2 : x = y → Z p l e R s m args below meth c X A nL Q cells slots ws lv (pc + 3) st) : Z p l e R s m args below meth c X A nL Q cells slots ws lv pc (.int y :: .int x :: st) := fun H locs ls hP hD hS hl => lv_icmp_ne C.ex C.cb d ht (fun h => k1 h H locs ls hP hD hS hl) (fun h => k2 h H locs ls hP hD hS hl)
theorem z_ic_eqN (C : ZC p s m args meth c X A nL cc own Ts ret) {x y : Int32} {off : Int} (a b tgt : Nat) (d : decode cc pc = .ok (.if_icmp .eq off, 3)) (ht : (pc : Int) + off = (tgt : Int)) (hx : x = nI a) (hy : y = nI b) (ha : a < 2 ^ 31) (hb : b < 2 ^ 31) (k1 : a = b → Z p l e R s m args below meth c X A nL Q cells slots ws lv tgt st) (k2 : ¬ (a = b) → Z p l e R s m args below meth c X A nL Q cells slots ws lv (pc + 3) st) : Z p l e R s m args below meth c X A nL Q cells slots ws lv pc (.int y :: .int x :: st) := by
  subst hx
  subst hy
  exact z_ic_eq C tgt d ht (fun h => k1 ((nI_eq ha hb).mp h)) (fun h => k2 (fun h2 => h ((nI_eq ha hb).mpr h2)))
theorem z_ic_ltN (C : ZC p s m args meth c X A nL cc own Ts ret) {x y : Int32} {off : Int} (a b tgt : Nat) (d : decode cc pc = .ok (.if_icmp .lt off, 3)) (ht : (pc : Int) + off = (tgt : Int)) (hx : x = nI a) (hy : y = nI b) (ha : a < 2 ^ 31) (hb : b < 2 ^ 31) (k1 : a < b → Z p l e R s m args below meth c X A nL Q cells slots ws lv tgt st) (k2 : ¬ (a < b) → Z p l e R s m args below meth c X A nL Q cells slots ws lv (pc + 3) st) : Z p l e R s m args below meth c X A nL Q cells slots ws lv pc (.int y :: .int x :: st) := by
  subst hx
  subst hy
  exact z_ic_lt C tgt d ht (fun h => k1 ((nI_ltI ha hb).mp h)) (fun h => k2 (fun h2 => h ((nI_ltI ha hb).mpr h2)))
theorem z_ic_geN (C : ZC p s m args meth c X A nL cc own Ts ret) {x y : Int32} {off : Int} (a b tgt : Nat) (d : decode cc pc = .ok (.if_icmp .ge off, 3)) (ht : (pc : Int) + off = (tgt : Int)) (hx : x = nI a) (hy : y = nI b) (ha : a < 2 ^ 31) (hb : b < 2 ^ 31) (k1 : b ≤ a → Z p l e R s m args below meth c X A nL Q cells slots ws lv tgt st) (k2 : ¬ (b ≤ a) → Z p l e R s m args below meth c X A nL Q cells slots ws lv (pc + 3) st) : Z p l e R s m args below meth c X A nL Q cells slots ws lv pc (.int y :: .int x :: st) := by
  subst hx
  subst hy
  exact z_ic_ge C tgt d ht (fun h => k1 ((nI_leI hb ha).mp h)) (fun h => k2 (fun h2 => h ((nI_leI hb ha).mpr h2)))
theorem z_ic_gtN (C : ZC p s m args meth c X A nL cc own Ts ret) {x y : Int32} {off : Int} (a b tgt : Nat) (d : decode cc pc = .ok (.if_icmp .gt off, 3)) (ht : (pc : Int) + off = (tgt : Int)) (hx : x = nI a) (hy : y = nI b) (ha : a < 2 ^ 31) (hb : b < 2 ^ 31) (k1 : b < a → Z p l e R s m args below meth c X A nL Q cells slots ws lv tgt st) (k2 : ¬ (b < a) → Z p l e R s m args below meth c X A nL Q cells slots ws lv (pc + 3) st) : Z p l e R s m args below meth c X A nL Q cells slots ws lv pc (.int y :: .int x :: st) := by
  subst hx
  subst hy
  exact z_ic_gt C tgt d ht (fun h => k1 ((nI_ltI hb ha).mp h)) (fun h => k2 (fun h2 => h ((nI_ltI hb ha).mpr h2)))
theorem z_ic_leN (C : ZC p s m args meth c X A nL cc own Ts ret) {x y : Int32} {off : Int} (a b tgt : Nat) (d : decode cc pc = .ok (.if_icmp .le off, 3)) (ht : (pc : Int) + off = (tgt : Int)) (hx : x = nI a) (hy : y = nI b) (ha : a < 2 ^ 31) (hb : b < 2 ^ 31) (k1 : a ≤ b → Z p l e R s m args below meth c X A nL Q cells slots ws lv tgt st) (k2 : ¬ (a ≤ b) → Z p l e R s m args below meth c X A nL Q cells slots ws lv (pc + 3) st) : Z p l e R s m args below meth c X A nL Q cells slots ws lv pc (.int y :: .int x :: st) := by
  subst hx
  subst hy
  exact z_ic_le C tgt d ht (fun h => k1 ((nI_leI ha hb).mp h)) (fun h => k2 (fun h2 => h ((nI_leI ha hb).mpr h2)))
theorem z_ic_neN (C : ZC p s m args meth c X A nL cc own Ts ret) {x y : Int32} {off : Int} (a b tgt : Nat) (d : decode cc pc = .ok (.if_icmp .ne off, 3)) (ht : (pc : Int) + off = (tgt : Int)) (hx : x = nI a) (hy : y = nI b) (ha : a < 2 ^ 31) (hb : b < 2 ^ 31) (k1 : ¬ a = b → Z p l e R s m args below meth c X A nL Q cells slots ws lv tgt st) (k2 : a = b → Z p l e R s m args below meth c X A nL Q cells slots ws lv (pc + 3) st) : Z p l e R s m args below meth c X A nL Q cells slots ws lv pc (.int y :: .int x :: st) := by
  subst hx
  subst hy
  exact z_ic_ne C tgt d ht (fun h => k1 (fun h2 => h ((nI_eq ha hb).mpr h2))) (fun h => k2 ((nI_eq ha hb).mp h))
theorem z_if_eqN (C : ZC p s m args meth c X A nL cc own Ts ret) {x : Int32} {off : Int} (a tgt : Nat) (d : decode cc pc = .ok (.ifCond .eq off, 3)) (ht : (pc : Int) + off = (tgt : Int)) (hx : x = nI a) (ha : a < 2 ^ 31) (k1 : a = 0 → Z p l e R s m args below meth c X A nL Q cells slots ws lv tgt st) (k2 : ¬ (a = 0) → Z p l e R s m args below meth c X A nL Q cells slots ws lv (pc + 3) st) : Z p l e R s m args below meth c X A nL Q cells slots ws lv pc (.int x :: st) := by
  subst hx
  exact z_if_eq C tgt d ht (fun h => k1 ((zn_eq ha).mp h)) (fun h => k2 (fun h2 => h ((zn_eq ha).mpr h2)))
theorem z_if_leN (C : ZC p s m args meth c X A nL cc own Ts ret) {x : Int32} {off : Int} (a tgt : Nat) (d : decode cc pc = .ok (.ifCond .le off, 3)) (ht : (pc : Int) + off = (tgt : Int)) (hx : x = nI a) (ha : a < 2 ^ 31) (k1 : a = 0 → Z p l e R s m args below meth c X A nL Q cells slots ws lv tgt st) (k2 : ¬ (a = 0) → Z p l e R s m args below meth c X A nL Q cells slots ws lv (pc + 3) st) : Z p l e R s m args below meth c X A nL Q cells slots ws lv pc (.int x :: st) := by
  subst hx
  exact z_if_le C tgt d ht (fun h => k1 ((zn_le ha).mp h)) (fun h => k2 (fun h2 => h ((zn_le ha).mpr h2)))
theorem z_if_gtN (C : ZC p s m args meth c X A nL cc own Ts ret) {x : Int32} {off : Int} (a tgt : Nat) (d : decode cc pc = .ok (.ifCond .gt off, 3)) (ht : (pc : Int) + off = (tgt : Int)) (hx : x = nI a) (ha : a < 2 ^ 31) (k1 : 0 < a → Z p l e R s m args below meth c X A nL Q cells slots ws lv tgt st) (k2 : ¬ (0 < a) → Z p l e R s m args below meth c X A nL Q cells slots ws lv (pc + 3) st) : Z p l e R s m args below meth c X A nL Q cells slots ws lv pc (.int x :: st) := by
  subst hx
  exact z_if_gt C tgt d ht (fun h => k1 ((zn_gt ha).mp h)) (fun h => k2 (fun h2 => h ((zn_gt ha).mpr h2)))
theorem z_if_neN (C : ZC p s m args meth c X A nL cc own Ts ret) {x : Int32} {off : Int} (a tgt : Nat) (d : decode cc pc = .ok (.ifCond .ne off, 3)) (ht : (pc : Int) + off = (tgt : Int)) (hx : x = nI a) (ha : a < 2 ^ 31) (k1 : ¬ a = 0 → Z p l e R s m args below meth c X A nL Q cells slots ws lv tgt st) (k2 : a = 0 → Z p l e R s m args below meth c X A nL Q cells slots ws lv (pc + 3) st) : Z p l e R s m args below meth c X A nL Q cells slots ws lv pc (.int x :: st) := by
  subst hx
  exact z_if_ne C tgt d ht (fun h => k1 (fun h2 => h ((zn_eq ha).mpr h2))) (fun h => k2 ((zn_eq ha).mp h))
theorem z_go (C : ZC p s m args meth c X A nL cc own Ts ret) {off : Int} (tgt : Nat) (d : decode cc pc = .ok (.goto off, 3)) (ht : (pc : Int) + off = (tgt : Int)) (k : Z p l e R s m args below meth c X A nL Q cells slots ws lv tgt st) : Z p l e R s m args below meth c X A nL Q cells slots ws lv pc st := fun H locs ls hP hD hS hl => lv_goto C.ex C.cb d ht (k H locs ls hP hD hS hl)
theorem z_tin (C : ZC p s m args meth c X A nL cc own Ts ret) {dflt lo hi : Int} {offs : Array Int} {len : Nat} {x : Int32} {off : Int} (tgt : Nat) (d : decode cc pc = .ok (.tableswitch dflt lo hi offs, len)) (h1 : ¬ x.toInt < lo) (h2 : ¬ hi < x.toInt) (ho : offs[(x.toInt - lo).toNat]? = some off) (ht : (pc : Int) + off = (tgt : Int)) (k : Z p l e R s m args below meth c X A nL Q cells slots ws lv tgt st) : Z p l e R s m args below meth c X A nL Q cells slots ws lv pc (.int x :: st) := fun H locs ls hP hD hS hl => lv_tableIn C.ex C.cb d h1 h2 ho ht (k H locs ls hP hD hS hl)
theorem z_tout (C : ZC p s m args meth c X A nL cc own Ts ret) {dflt lo hi : Int} {offs : Array Int} {len : Nat} {x : Int32} (tgt : Nat) (d : decode cc pc = .ok (.tableswitch dflt lo hi offs, len)) (h : x.toInt < lo ∨ hi < x.toInt) (ht : (pc : Int) + dflt = (tgt : Int)) (k : Z p l e R s m args below meth c X A nL Q cells slots ws lv tgt st) : Z p l e R s m args below meth c X A nL Q cells slots ws lv pc (.int x :: st) := fun H locs ls hP hD hS hl => lv_tableOut C.ex C.cb d h ht (k H locs ls hP hD hS hl)
theorem z_look (C : ZC p s m args meth c X A nL cc own Ts ret) {dflt : Int} {ps : Array (Int × Int)} {len : Nat} {x : Int32} {off : Int} (tgt : Nat) (d : decode cc pc = .ok (.lookupswitch dflt ps, len)) (hp : (ps.toList.zip (ps.toList.drop 1)).all (fun (a, next) => a.1 < next.1) = true) (ho : Op.lookupswitch.offset ps.toList dflt x.toInt = off) (ht : (pc : Int) + off = (tgt : Int)) (k : Z p l e R s m args below meth c X A nL Q cells slots ws lv tgt st) : Z p l e R s m args below meth c X A nL Q cells slots ws lv pc (.int x :: st) := fun H locs ls hP hD hS hl => lv_lookup C.ex C.cb d hp ho ht (k H locs ls hP hD hS hl)
theorem z_get (C : ZC p s m args meth c X A nL cc own Ts ret) {ref Cn : String} {T : u_T} {N ci index a : Nat} {fs : List Value} {v : Value} (q0 k0 : Nat) (d : decode cc pc = .ok (.getfield index, 3)) (he : ws[q0]? = some (a, .inr (ci, fs))) (hc : vwCl[ci]? = some (Cn, T, N)) (hv : fs[k0]? = some v) (hin : ∀ w ∈ u_ws Cn T N, w ∈ Ts) (hk : k0 < N) (hlink : Cond.fieldLink own index ref (T k0).2.1 (T k0).2.2.1 ∈ Ts) (href : (T k0).1 = ref) (k : Z p l e R s m args below meth c X A nL Q cells slots ws lv (pc + 3) (v :: st)) : Z p l e R s m args below meth c X A nL Q cells slots ws lv pc (.ref a :: st) :=
  fun H locs ls hP hD hS hl => va_get (D := X.1) C.ex C.cb C.ts hin C.ow C.hK hP q0 he hc k0 hk (C.ts _ hlink) (fun _ h9 => by rw [← href]; exact h9) hv d (k H locs ls hP hD hS hl)
theorem z_put (C : ZC p s m args meth c X A nL cc own Ts ret) {ref Cn : String} {T : u_T} {N ci index a : Nat} {fs : List Value} {v : Value} {ty0 : Nat → FieldType} {ty : FieldType} (q0 k0 : Nat) (ws1 : va_W) (d : decode cc pc = .ok (.putfield index, 3)) (he : ws[q0]? = some (a, .inr (ci, fs))) (hc : vwCl[ci]? = some (Cn, T, N)) (hin : ∀ w ∈ u_ws Cn T N, w ∈ Ts) (hty : ∀ k, k < N → parseFieldDescriptor (T k).2.2.1 = some (ty0 k)) (hnm : ∀ a, a < N → ∀ b, b < N → a ≠ b → (T a).2.1 ≠ (T b).2.1) (hk : k0 < N) (hlink : Cond.fieldLink own index ref (T k0).2.1 (T k0).2.2.1 ∈ Ts) (href : (T k0).1 = ref) (hfin : (T k0).2.2.2 = false) (hd : parseFieldDescriptor (T k0).2.2.1 = some ty) (hn : narrow ty v = v) (hfit : fits ty v = true) (hl0 : k0 < fs.length) (hw : ws.set q0 (a, .inr (ci, fs.set k0 v)) = ws1) (k : Z p l e R s m args below meth c X A nL Q cells slots ws1 lv (pc + 3) st) : Z p l e R s m args below meth c X A nL Q cells slots ws lv pc (v :: .ref a :: st) :=
  fun H locs ls hP hD hS hl => va_put (D := X.1) C.ex C.cb C.ts hin ty0 hty hnm C.ow C.hK hP hD hS q0 he hc k0 hk (C.ts _ hlink) (fun _ h9 => by rw [← href]; exact h9) hfin hd hn hfit hl0 d (fun H1 locs1 hP1 hD1 hS1 => k H1 locs1 ls (by rw [← hw]; exact hP1) (by rw [← hw]; exact hD1) hS1 hl)
theorem z_putF (C : ZC p s m args meth c X A nL cc own Ts ret) {ref Cn : String} {T : u_T} {N ci index a : Nat} {fs : List Value} {v : Value} {ty0 : Nat → FieldType} {ty : FieldType} (q0 k0 : Nat) (ws1 : va_W) (d : decode cc pc = .ok (.putfield index, 3)) (he : ws[q0]? = some (a, .inr (ci, fs))) (hc : vwCl[ci]? = some (Cn, T, N)) (hin : ∀ w ∈ u_ws Cn T N, w ∈ Ts) (hty : ∀ k, k < N → parseFieldDescriptor (T k).2.2.1 = some (ty0 k)) (hnm : ∀ a, a < N → ∀ b, b < N → a ≠ b → (T a).2.1 ≠ (T b).2.1) (hk : k0 < N) (hlink : Cond.fieldLink own index ref (T k0).2.1 (T k0).2.2.1 ∈ Ts) (href : (T k0).1 = ref) (hfin : (T k0).2.2.2 = true) (hini : meth.name = "<init>") (hdecl : (T k0).1 = own) (hd : parseFieldDescriptor (T k0).2.2.1 = some ty) (hn : narrow ty v = v) (hfit : fits ty v = true) (hl0 : k0 < fs.length) (hw : ws.set q0 (a, .inr (ci, fs.set k0 v)) = ws1) (k : Z p l e R s m args below meth c X A nL Q cells slots ws1 lv (pc + 3) st) : Z p l e R s m args below meth c X A nL Q cells slots ws lv pc (v :: .ref a :: st) :=
  fun H locs ls hP hD hS hl => va_putF (D := X.1) C.ex C.cb C.ts hin ty0 hty hnm C.ow C.hK hP hD hS q0 he hc k0 hk (C.ts _ hlink) (fun _ h9 => by rw [← href]; exact h9) hfin hini hdecl hd hn hfit hl0 d (fun H1 locs1 hP1 hD1 hS1 => k H1 locs1 ls (by rw [← hw]; exact hP1) (by rw [← hw]; exact hD1) hS1 hl)
theorem z_iald (C : ZC p s m args meth c X A nL cc own Ts ret) {a n : Nat} {f : Nat → Int32} {i : Int32} (q0 j : Nat) (d : decode cc pc = .ok (.iaload, 1)) (ha : ws[q0]? = some (a, .inl (X.2.1, n, .inl f))) (hn : n < 2 ^ 31) (hi : i = nI j) (hj : j < n) (k : Z p l e R s m args below meth c X A nL Q cells slots ws lv (pc + 1) (.int (f j) :: st)) : Z p l e R s m args below meth c X A nL Q cells slots ws lv pc (.int i :: .ref a :: st) := by
  subst hi
  intro H locs ls hP hD hS hl
  refine va_iald (D := X.1) C.ex C.cb C.hK hP q0 0 ha rfl (vp_in_nI hj hn) d ?_
  rw [nI_clamp (Nat.lt_trans hj hn)]
  exact k H locs ls hP hD hS hl
theorem z_zald (C : ZC p s m args meth c X A nL cc own Ts ret) {a n : Nat} {f : Nat → Int32} {i : Int32} (q0 j : Nat) (d : decode cc pc = .ok (.baload, 1)) (ha : ws[q0]? = some (a, .inl (X.2.2.1, n, .inl f))) (hn : n < 2 ^ 31) (hi : i = nI j) (hj : j < n) (k : Z p l e R s m args below meth c X A nL Q cells slots ws lv (pc + 1) (.int (f j) :: st)) : Z p l e R s m args below meth c X A nL Q cells slots ws lv pc (.int i :: .ref a :: st) := by
  subst hi
  intro H locs ls hP hD hS hl
  refine va_zald (D := X.1) C.ex C.cb C.hK hP q0 1 ha rfl (vp_in_nI hj hn) d ?_
  rw [nI_clamp (Nat.lt_trans hj hn)]
  exact k H locs ls hP hD hS hl
theorem z_iast (C : ZC p s m args meth c X A nL cc own Ts ret) {a n : Nat} {f : Nat → Int32} {i : Int32} {x : Int32} (q0 j : Nat) (ws1 : va_W) (d : decode cc pc = .ok (.iastore, 1)) (ha : ws[q0]? = some (a, .inl (X.2.1, n, .inl f))) (hn : n < 2 ^ 31) (hi : i = nI j) (hj : j < n) (hw : ws.set q0 (a, .inl (X.2.1, n, .inl (upd f j x))) = ws1) (k : Z p l e R s m args below meth c X A nL Q cells slots ws1 lv (pc + 1) st) : Z p l e R s m args below meth c X A nL Q cells slots ws lv pc (.int x :: .int i :: .ref a :: st) := by
  subst hi
  intro H locs ls hP hD hS hl
  refine va_iast (D := X.1) C.ex C.cb C.hK hP hD hS q0 0 ha rfl (vp_in_nI hj hn) d ?_
  rw [nI_clamp (Nat.lt_trans hj hn), hw]
  exact fun H1 locs1 hP1 hD1 hS1 => k H1 locs1 ls hP1 hD1 hS1 hl
theorem z_zast (C : ZC p s m args meth c X A nL cc own Ts ret) {a n : Nat} {f : Nat → Int32} {i : Int32} {x : Int32} (q0 j : Nat) (ws1 : va_W) (d : decode cc pc = .ok (.bastore, 1)) (ha : ws[q0]? = some (a, .inl (X.2.2.1, n, .inl f))) (hn : n < 2 ^ 31) (hi : i = nI j) (hj : j < n) (hw : ws.set q0 (a, .inl (X.2.2.1, n, .inl (upd f j (vp_nar .boolean x)))) = ws1) (k : Z p l e R s m args below meth c X A nL Q cells slots ws1 lv (pc + 1) st) : Z p l e R s m args below meth c X A nL Q cells slots ws lv pc (.int x :: .int i :: .ref a :: st) := by
  subst hi
  intro H locs ls hP hD hS hl
  refine va_zast (D := X.1) C.ex C.cb C.hK hP hD hS q0 1 ha rfl (vp_in_nI hj hn) d ?_
  rw [nI_clamp (Nat.lt_trans hj hn), hw]
  exact fun H1 locs1 hP1 hD1 hS1 => k H1 locs1 ls hP1 hD1 hS1 hl
theorem z_new (C : ZC p s m args meth c X A nL cc own Ts ret) {Cn : String} {T : u_T} {N ci index : Nat} {ty : Nat → FieldType} (fs : List Value) (d : decode cc pc = .ok (.new index, 3)) (hin : ∀ w ∈ u_ws Cn T N, w ∈ Ts) (hty : ∀ k, k < N → parseFieldDescriptor (T k).2.2.1 = some (ty k)) (hcl : Cond.classLink own index Cn ∈ Ts) (hinst : Cond.instantiable Cn N ∈ Ts) (hini : Cond.initialized Cn ∈ Ts) (hc : vwCl[ci]? = some (Cn, T, N)) (hfs : ∀ j, j < N → defaultValue (ty j) = vp_V fs j) (hcells : cells + 1 ≤ R.cells) (hslots : slots + N ≤ R.slots) (k : ∀ q : Nat, Z p l e R s m args below meth c X A nL Q (cells + 1) (slots + N) (ws ++ [(q, .inr (ci, fs))]) lv (pc + 3) (.ref q :: st)) : Z p l e R s m args below meth c X A nL Q cells slots ws lv pc st :=
  fun H locs ls hP hD hS hl => va_new (D := X.1) C.ex C.cb C.ts hin ty hty C.ow (C.ts _ hcl) (C.ts _ hinst) (C.ts _ hini) C.hK hP hD hS C.hA hc hfs hcells hslots d (fun q H1 hP1 hD1 hS1 => k q H1 locs ls hP1 hD1 hS1 hl)
theorem z_newa (C : ZC p s m args meth c X A nL cc own Ts ret) {atype : ArrayType} {n : Int32} (t0 : Nat) (cA : ClassId) (N0 : Nat) (a0 : vp_A) (ty : FieldType) (d : decode cc pc = .ok (.newarray atype, 2)) (hty : newarray.typeOf atype = ty) (ht : (zT X)[t0]? = some (cA, ty)) (hpr : ty = .int ∨ ty = .boolean ∨ ty = .long) (harr : Cond.arrayClass ty ∈ Ts) (ha : ∀ cA : ClassId, vp_cell cA a0 = arrV cA N0 (fun _ => defaultValue ty)) (hn : ¬ n < 0) (hN : n.toNatClampNeg = N0) (hbytes : N0 * componentBytes ty ≤ 536870912) (hcells : cells + 1 ≤ R.cells) (hslots : slots + N0 ≤ R.slots) (k : ∀ q : Nat, Z p l e R s m args below meth c X A nL Q (cells + 1) (slots + N0) (ws ++ [(q, .inl (cA, a0))]) lv (pc + 2) (.ref q :: st)) : Z p l e R s m args below meth c X A nL Q cells slots ws lv pc (.int n :: st) := by
  intro H locs ls hP hD hS hl
  refine va_newa (D := X.1) (atype := atype) (ty := ty) C.ex C.cb (by rw [hty]; exact C.ts _ harr) hty C.hK hP hD hS C.hA ha hn hN hbytes hcells hslots d (fun q cB H1 hK1 hP1 hD1 hS1 => ?_)
  have e1 : va_RA s cB ty := (hK1.2 2 (cB, ty) rfl).2
  have e2 : va_RA s cA ty := (C.hK.2 t0 (cA, ty) ht).2
  have e3 : cB = cA := by
    rcases hpr with h | h | h <;> subst h <;> exact Option.some.inj (e1.symm.trans e2)
  subst e3
  exact k q H1 locs ls hP1 hD1 hS1 hl
theorem z_oinit (C : ZC p s m args meth c X A nL cc own Ts ret) {idx a : Nat} (d : decode cc pc = .ok (.invokespecial idx, 3)) (hlink : Cond.methodLink own idx Lib.objectInit ∈ Ts) (hinst : Cond.instanceMethod Lib.objectInit ∈ Ts) (hcode : Cond.code Lib.objectInit ⟨#[0xb1]⟩ 1 none ∈ Ts) (hfr : 1 ≤ R.frames) (hst : (st.map fun v => v.category).sum + 12 ≤ R.locals) (k : Z p l e R s m args below meth c X A nL Q cells slots ws lv (pc + 3) st) : Z p l e R s m args below meth c X A nL Q cells slots ws lv pc (.ref a :: st) := by
  intro H locs ls hP hD hS hl
  refine W.objInit C.ex C.cb C.ow (C.ts _ hlink) (C.ts _ hinst) (C.ts _ hcode) rfl (by rw [C.ml]; exact hl.1) rfl d hfr (by show 2 * 0 + _ + 12 ≤ _; omega) ?_
  exact k H locs ls hP hD hS hl
theorem z_mmin (C : ZC p s m args meth c X A nL cc own Ts ret) {index : Nat} {x y : Int32} (d : decode cc pc = .ok (.invokestatic index, 3)) (h1 : Cond.methodLink own index Lib.Math.min.name ∈ Ts) (h2 : Cond.static Lib.Math.min.name ∈ Ts) (h3 : Cond.initialized "java/lang/Math" ∈ Ts) (h4 : Cond.code Lib.Math.min.name Lib.Math.min.code 2 (some .int) ∈ Ts) (hfr : 1 ≤ R.frames) (hlo : (st.map fun v => v.category).sum + 13 ≤ R.locals) (hc : cells ≤ R.cells) (hs : slots ≤ R.slots) (k : Z p l e R s m args below meth c X A nL Q cells slots ws lv (pc + 3) (.int (if y < x then y else x) :: st)) : Z p l e R s m args below meth c X A nL Q cells slots ws lv pc (.int y :: .int x :: st) :=
  fun H locs ls hP hD hS hl => va_mmin C.ex C.cb (by rw [C.ml]; exact hl.1.symm) C.ow (C.ts _ h1) (C.ts _ h2) (C.ts _ h3) (C.ts _ h4) hfr hlo hc hs d (k H locs ls hP hD hS hl)
theorem z_mabs (C : ZC p s m args meth c X A nL cc own Ts ret) {index : Nat} {x : Int32} (d : decode cc pc = .ok (.invokestatic index, 3)) (h1 : Cond.methodLink own index Lib.Math.abs.name ∈ Ts) (h2 : Cond.static Lib.Math.abs.name ∈ Ts) (h3 : Cond.initialized "java/lang/Math" ∈ Ts) (h4 : Cond.code Lib.Math.abs.name Lib.Math.abs.code 1 (some .int) ∈ Ts) (hfr : 1 ≤ R.frames) (hlo : (st.map fun v => v.category).sum + 13 ≤ R.locals) (hc : cells ≤ R.cells) (hs : slots ≤ R.slots) (k : Z p l e R s m args below meth c X A nL Q cells slots ws lv (pc + 3) (.int (if 0 ≤ x then x else 0 - x) :: st)) : Z p l e R s m args below meth c X A nL Q cells slots ws lv pc (.int x :: st) :=
  fun H locs ls hP hD hS hl => va_mabs C.ex C.cb (by rw [C.ml]; exact hl.1.symm) C.ow (C.ts _ h1) (C.ts _ h2) (C.ts _ h3) (C.ts _ h4) hfr hlo hc hs d (k H locs ls hP hD hS hl)
theorem z_mminl (C : ZC p s m args meth c X A nL cc own Ts ret) {index : Nat} {x y : Int64} (d : decode cc pc = .ok (.invokestatic index, 3)) (h1 : Cond.methodLink own index Lib.MathLoose.min_long.x ∈ Ts) (h2 : Cond.static Lib.MathLoose.min_long.x ∈ Ts) (h3 : Cond.initialized "java/lang/Math" ∈ Ts) (h4 : Cond.code Lib.MathLoose.min_long.x Lib.MathLoose.min_long.code 4 (some .long) ∈ Ts) (hfr : 1 ≤ R.frames) (hlo : (st.map fun v => v.category).sum + 15 ≤ R.locals) (hc : cells ≤ R.cells) (hs : slots ≤ R.slots) (k : Z p l e R s m args below meth c X A nL Q cells slots ws lv (pc + 3) (.long (if y < x then y else x) :: st)) : Z p l e R s m args below meth c X A nL Q cells slots ws lv pc (.long y :: .long x :: st) :=
  fun H locs ls hP hD hS hl => va_mmin_long C.ex C.cb (by rw [C.ml]; exact hl.1.symm) C.ow (C.ts _ h1) (C.ts _ h2) (C.ts _ h3) (C.ts _ h4) hfr hlo hc hs d (k H locs ls hP hD hS hl)
theorem z_copy (C : ZC p s m args meth c X A nL cc own Ts ret) {index a0 a n0 n1 : Nat} {f g : Nat → Int32} {sp dp n : Int32} (q0 q1 : Nat) (ws1 : va_W) (d : decode cc pc = .ok (.invokestatic index, 3)) (h1 : Cond.methodLink own index arraycopyName ∈ Ts) (h2 : Cond.native arraycopyName ∈ Ts) (h3 : Cond.static arraycopyName ∈ Ts) (h4 : Cond.initialized "java/lang/System" ∈ Ts) (ha0 : ws[q0]? = some (a0, .inl (X.2.1, n0, .inl f))) (ha1 : ws[q1]? = some (a, .inl (X.2.1, n1, .inl g))) (i1 : ¬ sp < 0) (i2 : ¬ dp < 0) (i3 : ¬ n < 0) (i4 : sp.toNatClampNeg + n.toNatClampNeg ≤ n0) (i5 : dp.toNatClampNeg + n.toNatClampNeg ≤ n1) (hfr : 1 ≤ R.frames) (hlo : (st.map fun v => v.category).sum + (nativeFrameWords "java/lang/System" "arraycopy" 5 + 11) ≤ R.locals) (hw : ws.set q1 (a, .inl (X.2.1, n1, .inl (va_cpy f g sp.toNatClampNeg dp.toNatClampNeg n.toNatClampNeg))) = ws1) (k : Z p l e R s m args below meth c X A nL Q cells slots ws1 lv (pc + 3) st) : Z p l e R s m args below meth c X A nL Q cells slots ws lv pc (.int n :: .int dp :: .ref a :: .int sp :: .ref a0 :: st) :=
  fun H locs ls hP hD hS hl => va_copyi (D := X.1) C.ex C.cb (by rw [C.ml]; exact hl.1.symm) C.ow (C.ts _ h1) (C.ts _ h2) (C.ts _ h3) (C.ts _ h4) C.hK hP hD hS q0 q1 0 0 ha0 ha1 rfl rfl rfl i1 i2 i3 i4 i5 (fun _ _ => rfl) hfr hlo d (fun H1 locs1 hP1 hD1 hS1 => k H1 locs1 ls (by rw [← hw]; exact hP1) (by rw [← hw]; exact hD1) hS1 hl)
theorem z_wide (k0 n0 : Nat) (h1 : cells ≤ k0) (h2 : slots ≤ n0) (k : Z p l e R s m args below meth c X A nL Q k0 n0 ws lv pc st) : Z p l e R s m args below meth c X A nL Q cells slots ws lv pc st := fun H locs ls hP hD hS hl => W.widen h1 h2 (k H locs ls hP hD hS hl)
theorem z_world (perm : List Nat) (ws1 : va_W) (hp : perm.map (fun i => ws[i]?) = ws1.map some) (hn : va_nd perm = true) (k : Z p l e R s m args below meth c X A nL Q cells slots ws1 lv pc st) : Z p l e R s m args below meth c X A nL Q cells slots ws lv pc st := fun H locs ls hP hD hS hl => k H locs ls (hP.sub perm (zfm hp)) (hD.sub perm hn hp) hS hl
theorem z_nm {x v : Int32} (h : v = x) (k : Z p l e R s m args below meth c X A nL Q cells slots ws lv pc (.int v :: st)) : Z p l e R s m args below meth c X A nL Q cells slots ws lv pc (.int x :: st) := by
  subst h
  exact k
theorem z_nml {x v : Int64} (h : v = x) (k : Z p l e R s m args below meth c X A nL Q cells slots ws lv pc (.long v :: st)) : Z p l e R s m args below meth c X A nL Q cells slots ws lv pc (.long x :: st) := by
  subst h
  exact k
end ZF
theorem zn_cl {x : Int32} (h : ¬ x < 0) : nI x.toNatClampNeg = x := by
  obtain ⟨j, hj, rfl⟩ := nI_of h
  rw [nI_clamp hj]
theorem zn_in {x : Int32} {n : Nat} (h : vp_in x n) : nI x.toNatClampNeg = x := zn_cl (fun q => h (Or.inl q))
theorem zn_lt {x : Int32} {n : Nat} (h : vp_in x n) : x.toNatClampNeg < n := Nat.not_le.mp (fun q => h (Or.inr q))
theorem zn_b {x : Int32} {n : Nat} (h1 : ¬ x < 0) (h2 : x.toInt < n) (hn : n < 2 ^ 31) : x.toNatClampNeg < n := by
  obtain ⟨j, hj, rfl⟩ := nI_of h1
  rw [nI_clamp hj]
  rw [nI_toInt hj] at h2
  omega
theorem met_ofF {l : Launch} {y : MethodName} {ws ws' : List Cond} {rm : Room} {Pc : Array Value → State → Prop} {Qc : Array Value → State → Outcome → State → Prop} {mc ms : Nat} {free : Addr → Prop} {cc : ByteArray} {maxL : Nat} {ret : Option FieldType}
    (hy : plainFor y = true) (hw : ws = Cond.code y cc maxL ret :: ws')
    (body : ∀ p e s m args below meth c s₁, BodyLoose p l y (headSpec ws rm) cc maxL ret e s m args below meth c s₁ → c.maxLocals = maxL → Pc args s →
      W p l e (headSpec ws rm).room s m args below meth c s.heap [] 0 0 (MQ below Qc args s mc ms free) (entryFrame m args maxL)) : Met l y ws rm Pc Qc mc ms free := by
  refine MetFree.of_bodySF (code := cc) (maxLocals := maxL) (ret := ret) hy ?_ ?_
  · intro args s m h hn
    obtain ⟨meth, c, h1, h2, h3, h4, h5, h6, -, -⟩ := Cond.code_spec hn (atoms_spec (ws := ws) h _ (by rw [hw]; exact List.mem_cons_self))
    exact ⟨meth, c, h1, h2, h3, h4, h5, h6⟩
  · intro p e s m args below meth c s₁ B hml hP _
    have hh0 : s₁.heap = s.heap := by rw [B.state]; rfl
    obtain ⟨t, a1, o, b1, b2, b3⟩ := body p e s m args below meth c s₁ B hml hP s₁ hh0 (Stand.of_body B)
    exact ⟨t, o, a1, b1, b2, ⟨b3.1, b3.2⟩⟩
/-- what a contract asks of the heap, and what it says of it -/
def zPre (X : zX) (w : va_W) (sz : Nat) : State → Prop := fun U => U.heap.size = sz ∧ va_P X.1 vwCl w U.heap ∧ va_K X.1 vwCl (zT X) U ∧ va_D (fun _ => True) w
def zB {S : Type} (X : zX) (A : Nat → Prop) (w1 : S → va_W) : S → State → Prop := fun u t => va_P X.1 vwCl (w1 u) t.heap ∧ va_K X.1 vwCl (zT X) t ∧ va_D A (w1 u)
theorem zPre_blind (X : zX) (w : va_W) (sz : Nat) (av : List Value) : FrameBlind (va_Pc av (zPre X w sz)) := fun a U g mk q => by
  obtain ⟨q0, q1, qP, qK, qD⟩ := q
  exact ⟨q0, q1, qP, va_K.moved (u := U) (U := U.calling g mk a) (Vm.Alike.refl U.vm) qK, qD⟩
/-- from the cells w0 and the arguments av the method y returns r, and the cells are w1 -/
def CI (l : Launch) (y : MethodName) (wsY : List Cond) (fr lo mc ms : Nat) (X : zX) (w0 : va_W) (av : List Value) (r : Int32) (w1 : va_W) : Prop := ∀ sz : Nat, Met l y wsY { frames := fr, cells := mc, slots := ms, locals := lo } (va_Pc av (zPre X w0 sz)) (va_Qi (fun x (_ : Unit) => x = r) (zB X (va_A w0 sz) (fun _ => w1)) (va_A w0 sz)) mc ms (va_A w0 sz)
def CL (l : Launch) (y : MethodName) (wsY : List Cond) (fr lo mc ms : Nat) (X : zX) (w0 : va_W) (av : List Value) (r : Int64) (w1 : va_W) : Prop := ∀ sz : Nat, Met l y wsY { frames := fr, cells := mc, slots := ms, locals := lo } (va_Pc av (zPre X w0 sz)) (va_Ql (fun x (_ : Unit) => x = r) (zB X (va_A w0 sz) (fun _ => w1)) (va_A w0 sz)) mc ms (va_A w0 sz)
/-- returns nothing; the cells are w1 u for one u -/
def CU {S : Type} (l : Launch) (y : MethodName) (wsY : List Cond) (fr lo mc ms : Nat) (X : zX) (w0 : va_W) (av : List Value) (w1 : S → va_W) : Prop := ∀ sz : Nat, Met l y wsY { frames := fr, cells := mc, slots := ms, locals := lo } (va_Pc av (zPre X w0 sz)) (va_Qv (fun _ : S => True) (zB X (va_A w0 sz) w1) (va_A w0 sz)) mc ms (va_A w0 sz)
abbrev CV (l : Launch) (y : MethodName) (wsY : List Cond) (fr lo mc ms : Nat) (X : zX) (w0 : va_W) (av : List Value) (w1 : va_W) : Prop := CU (S := Unit) l y wsY fr lo mc ms X w0 av (fun _ => w1)
section ZM
variable {p : Program} {l : Launch} {e : Env} {R : Room} {s : State} {m : MethodId} {args : Array Value} {below : List Frame} {meth : Method} {c : Code} {cells slots : Nat} {Q : State → Prop} {X : zX} {A : Nat → Prop} {nL pc : Nat} {cc : ByteArray} {own : String} {Ts : List Cond} {ret : Option FieldType} {ws : va_W} {lv : List (Nat × Value)} {st : List Value}
theorem ci_intro {y : MethodName} {wsY ws9 : List Cond} {fr lo mc ms maxL : Nat} {w0 : va_W} {av : List Value} {r : Int32} {w1 : va_W} (hy : plainFor y = true) (hw : wsY = Cond.code y cc maxL ret :: ws9) (hnl : (lg_sl av).length ≤ maxL)
    (body : ∀ (p : Program) (e : Env) (s : State) (m : MethodId) (args : Array Value) (below : List Frame) (meth : Method) (c : Code) (A : Nat → Prop) (Q : State → Prop), ZC p s m args meth c X A maxL cc y.cls wsY ret → Q = MQ below (va_Qi (fun x (_ : Unit) => x = r) (zB X A (fun _ => w1)) A) args s mc ms A → Z p l e { frames := fr, cells := mc, slots := ms, locals := lo } s m args below meth c X A maxL Q 0 0 w0 (lv_args 0 av) 0 []) : CI l y wsY fr lo mc ms X w0 av r w1 := by
  intro sz
  refine met_ofF (cc := cc) (maxL := maxL) (ret := ret) hy hw ?_
  intro p e s m args below meth c s₁ B hml hv
  obtain ⟨rfl, hsz, hP, hK, hD0⟩ := hv
  subst hsz
  have C : ZC p s m av.toArray meth c X (va_A w0 s.heap.size) maxL cc y.cls wsY ret := ⟨B.exec, B.bytes, hml, findClass_of_methodNamed B.named, atoms_spec (ws := wsY) B.pre, hK, fun q h => Or.inr h, B.notSynchronized, B.returns⟩
  have hl := lv_entry av (n := maxL) hnl
  rw [lg_entry_eq]
  exact body p e s m av.toArray below meth c _ _ C rfl s.heap [] _ hP hD0.self va_S.rf hl
theorem cl_intro {y : MethodName} {wsY ws9 : List Cond} {fr lo mc ms maxL : Nat} {w0 : va_W} {av : List Value} {r : Int64} {w1 : va_W} (hy : plainFor y = true) (hw : wsY = Cond.code y cc maxL ret :: ws9) (hnl : (lg_sl av).length ≤ maxL)
    (body : ∀ (p : Program) (e : Env) (s : State) (m : MethodId) (args : Array Value) (below : List Frame) (meth : Method) (c : Code) (A : Nat → Prop) (Q : State → Prop), ZC p s m args meth c X A maxL cc y.cls wsY ret → Q = MQ below (va_Ql (fun x (_ : Unit) => x = r) (zB X A (fun _ => w1)) A) args s mc ms A → Z p l e { frames := fr, cells := mc, slots := ms, locals := lo } s m args below meth c X A maxL Q 0 0 w0 (lv_args 0 av) 0 []) : CL l y wsY fr lo mc ms X w0 av r w1 := by
  intro sz
  refine met_ofF (cc := cc) (maxL := maxL) (ret := ret) hy hw ?_
  intro p e s m args below meth c s₁ B hml hv
  obtain ⟨rfl, hsz, hP, hK, hD0⟩ := hv
  subst hsz
  have C : ZC p s m av.toArray meth c X (va_A w0 s.heap.size) maxL cc y.cls wsY ret := ⟨B.exec, B.bytes, hml, findClass_of_methodNamed B.named, atoms_spec (ws := wsY) B.pre, hK, fun q h => Or.inr h, B.notSynchronized, B.returns⟩
  have hl := lv_entry av (n := maxL) hnl
  rw [lg_entry_eq]
  exact body p e s m av.toArray below meth c _ _ C rfl s.heap [] _ hP hD0.self va_S.rf hl
theorem cu_intro {y : MethodName} {wsY ws9 : List Cond} {fr lo mc ms maxL : Nat} {w0 : va_W} {av : List Value} {S : Type} {w1 : S → va_W} (hy : plainFor y = true) (hw : wsY = Cond.code y cc maxL ret :: ws9) (hnl : (lg_sl av).length ≤ maxL)
    (body : ∀ (p : Program) (e : Env) (s : State) (m : MethodId) (args : Array Value) (below : List Frame) (meth : Method) (c : Code) (A : Nat → Prop) (Q : State → Prop), ZC p s m args meth c X A maxL cc y.cls wsY ret → Q = MQ below (va_Qv (fun _ : S => True) (zB X A w1) A) args s mc ms A → Z p l e { frames := fr, cells := mc, slots := ms, locals := lo } s m args below meth c X A maxL Q 0 0 w0 (lv_args 0 av) 0 []) : CU l y wsY fr lo mc ms X w0 av w1 := by
  intro sz
  refine met_ofF (cc := cc) (maxL := maxL) (ret := ret) hy hw ?_
  intro p e s m args below meth c s₁ B hml hv
  obtain ⟨rfl, hsz, hP, hK, hD0⟩ := hv
  subst hsz
  have C : ZC p s m av.toArray meth c X (va_A w0 s.heap.size) maxL cc y.cls wsY ret := ⟨B.exec, B.bytes, hml, findClass_of_methodNamed B.named, atoms_spec (ws := wsY) B.pre, hK, fun q h => Or.inr h, B.notSynchronized, B.returns⟩
  have hl := lv_entry av (n := maxL) hnl
  rw [lg_entry_eq]
  exact body p e s m av.toArray below meth c _ _ C rfl s.heap [] _ hP hD0.self va_S.rf hl
theorem cn_intro {y : MethodName} {wsY ws9 : List Cond} {fr lo mc ms maxL : Nat} {w0 : va_W} {av : List Value} {S : Type} {w1 : S → va_W} (hy : plainFor y = true) (hw : wsY = Cond.code y cc maxL ret :: ws9) (hnl : (lg_sl av).length ≤ maxL)
    (body : ∀ (p : Program) (e : Env) (s : State) (m : MethodId) (args : Array Value) (below : List Frame) (meth : Method) (c : Code) (A : Nat → Prop) (Q : State → Prop), ZC p s m args meth c X A maxL cc y.cls wsY ret → Q = MQ below (va_Qv (fun _ : S => True) (zB X A w1) A) args s mc ms A → meth.name = y.name → Z p l e { frames := fr, cells := mc, slots := ms, locals := lo } s m args below meth c X A maxL Q 0 0 w0 (lv_args 0 av) 0 []) : CU l y wsY fr lo mc ms X w0 av w1 := by
  intro sz
  refine met_ofF (cc := cc) (maxL := maxL) (ret := ret) hy hw ?_
  intro p e s m args below meth c s₁ B hml hv
  obtain ⟨rfl, hsz, hP, hK, hD0⟩ := hv
  subst hsz
  have C : ZC p s m av.toArray meth c X (va_A w0 s.heap.size) maxL cc y.cls wsY ret := ⟨B.exec, B.bytes, hml, findClass_of_methodNamed B.named, atoms_spec (ws := wsY) B.pre, hK, fun q h => Or.inr h, B.notSynchronized, B.returns⟩
  have hl := lv_entry av (n := maxL) hnl
  rw [lg_entry_eq]
  exact body p e s m av.toArray below meth c _ _ C rfl (name_of_methodNamed B.named B.method).1 s.heap [] _ hP hD0.self va_S.rf hl
theorem z_iret (C : ZC p s m args meth c X A nL cc own Ts (some .int)) {mc ms : Nat} {v r : Int32} {w1 : va_W} (hQ : Q = MQ below (va_Qi (fun x (_ : Unit) => x = r) (zB X A (fun _ => w1)) A) args s mc ms A) (d : decode cc pc = .ok (.ireturn, 1)) (hv : v = r) (hw : ws = w1) (hc : cells ≤ mc) (hs : slots ≤ ms) : Z p l e R s m args below meth c X A nL Q cells slots ws lv pc [.int v] := by
  subst hQ
  subst hv
  subst hw
  intro H locs ls hP hD hS hl
  refine W.widen hc hs ?_
  exact W.iret (v := v) C.ex C.cb C.re (fun t ht hW => ⟨⟨v, (), rfl, rfl, by rw [ht]; exact hP, va_K.moved hW.alike C.hK, hD⟩, hS.F ht⟩) hS.2.2 d C.lo
theorem z_zret (C : ZC p s m args meth c X A nL cc own Ts (some .boolean)) {mc ms : Nat} {v r : Int32} {w1 : va_W} (hQ : Q = MQ below (va_Qi (fun x (_ : Unit) => x = r) (zB X A (fun _ => w1)) A) args s mc ms A) (d : decode cc pc = .ok (.ireturn, 1)) (hb : v = 0 ∨ v = 1) (hv : v = r) (hw : ws = w1) (hc : cells ≤ mc) (hs : slots ≤ ms) : Z p l e R s m args below meth c X A nL Q cells slots ws lv pc [.int v] := by
  subst hQ
  subst hv
  subst hw
  intro H locs ls hP hD hS hl
  refine W.widen hc hs ?_
  exact W.zret (v := v) C.ex C.cb C.re (by rcases hb with h | h <;> subst h <;> rfl) (fun t ht hW => ⟨⟨v, (), rfl, rfl, by rw [ht]; exact hP, va_K.moved hW.alike C.hK, hD⟩, hS.F ht⟩) hS.2.2 d C.lo
theorem z_lret (C : ZC p s m args meth c X A nL cc own Ts (some .long)) {mc ms : Nat} {v r : Int64} {w1 : va_W} (hQ : Q = MQ below (va_Ql (fun x (_ : Unit) => x = r) (zB X A (fun _ => w1)) A) args s mc ms A) (d : decode cc pc = .ok (.lreturn, 1)) (hv : v = r) (hw : ws = w1) (hc : cells ≤ mc) (hs : slots ≤ ms) : Z p l e R s m args below meth c X A nL Q cells slots ws lv pc [.long v] := by
  subst hQ
  subst hv
  subst hw
  intro H locs ls hP hD hS hl
  refine W.widen hc hs ?_
  exact W.lret (v := v) C.ex C.cb C.re (fun t ht hW => ⟨⟨v, (), rfl, rfl, by rw [ht]; exact hP, va_K.moved hW.alike C.hK, hD⟩, hS.F ht⟩) hS.2.2 d C.lo
theorem z_vret (C : ZC p s m args meth c X A nL cc own Ts none) {mc ms : Nat} {S : Type} {w1 : S → va_W} (hQ : Q = MQ below (va_Qv (fun _ : S => True) (zB X A w1) A) args s mc ms A) (u : S) (d : decode cc pc = .ok (.return_, 1)) (hw : ws = w1 u) (hc : cells ≤ mc) (hs : slots ≤ ms) : Z p l e R s m args below meth c X A nL Q cells slots ws lv pc [] := by
  subst hQ
  subst hw
  intro H locs ls hP hD hS hl
  refine W.widen hc hs ?_
  exact W.vret C.ex C.cb C.re (fun t ht hW => ⟨⟨u, rfl, trivial, by rw [ht]; exact hP, va_K.moved hW.alike C.hK, hD⟩, hS.F ht⟩) hS.2.2 d C.lo
theorem z_cVi (C : ZC p s m args meth c X A nL cc own Ts ret) {y : MethodName} {Cn : String} {b : Nat} {bytes : ByteArray} {ry : Option FieldType} {wsY ws9 : List Cond} {fr lo mc ms maxL index : Nat} {As rest : List Value} {wc : va_W} {r : Int32} {w1 : va_W} (hM : CI l y wsY fr lo mc ms X wc (.ref b :: As) r w1) (g : GoodIn Ts (wsV own index Cn y wsY)) (hw : wsY = Cond.code y bytes maxL ry :: ws9) (hd : y.cls = Cn ∧ y.cls ≠ "java/lang/invoke/MethodHandle" ∧ y.cls ≠ "java/lang/invoke/VarHandle" ∧ (parseMethodDescriptor y.desc).map (fun d => d.parameters.length) = some As.length) (hR : fr + 1 ≤ R.frames ∧ 8 + (maxL + 11) + lo ≤ R.locals) (hf : cells + mc ≤ R.cells ∧ slots + ms ≤ R.slots) {fs : List Value} {qc : u_T × Nat} (q0 ci : Nat) (hr : wc[q0]? = some (b, .inr (ci, fs))) (hrc : vwCl[ci]? = some (Cn, qc)) (isC isR perm : List Nat) (hC : isC.map (fun i => ws[i]?) = wc.map some) (hRr : isR.map (fun i => ws[i]?) = (isR.filterMap (fun i => ws[i]?)).map some) (hnC : va_nd isC = true) (hnR : va_nd isR = true) (hdis : ∀ i ∈ isR, i ∉ isC) (hnp : va_nd perm = true) (w2 : va_W) (hp : perm.map (fun i => (isR.filterMap (fun i => ws[i]?) ++ w1)[i]?) = w2.map some) (hst : (rest.map fun v => v.category).sum ≤ 8) (d : decode cc pc = .ok (.invokevirtual index, 3)) (hs : st = As.reverse ++ .ref b :: rest) (k : Z p l e R s m args below meth c X A nL Q (cells + mc) (slots + ms) w2 lv (pc + 3) (.int r :: rest)) : Z p l e R s m args below meth c X A nL Q cells slots ws lv pc st := by
  intro H locs ls hP hD hS hl
  subst hs
  have hPc := hP.sub (ws' := wc) isC (zfm hC)
  have hDc := hD.sub (ws' := wc) isC hnC hC
  have hFc := va_free (wc := wc) hD hS C.hA isC hC
  refine va_calli (va_runV (As := As) (rest := rest) ⟨C.ex, C.cb, C.ml, C.ow, C.ts⟩ (hM H.size) (cwV As.length C.ts g hw rfl rfl hd hR) ⟨zPre_blind X wc H.size (.ref b :: As), va_recv C.hK hPc hrc hr, fun U hU hW => ⟨rfl, by rw [hU], by rw [hU]; exact hPc, va_K.moved hW.alike C.hK, hDc.weaken (fun _ _ _ _ => trivial)⟩⟩ rfl rfl hl.1 rfl (lv_room hst) d hf) hS (fun q _ h => hFc q h) hFc (fun r9 u t H1 locs1 ht hvm hw1 hB hz1 hk1 hS1 => ?_)
  obtain ⟨hP1, hK1, hD1⟩ := hB
  rw [ht] at hP1
  obtain ⟨hP2, hD2⟩ := va_join hP hD isC isR hC hRr hnR hdis hk1 hFc hP1 hD1
  subst hw1
  exact k H1 locs1 ls (hP2.sub perm (zfm hp)) (hD2.sub perm hnp hp) hS1 hl
theorem z_cVu (C : ZC p s m args meth c X A nL cc own Ts ret) {y : MethodName} {Cn : String} {b : Nat} {bytes : ByteArray} {ry : Option FieldType} {wsY ws9 : List Cond} {fr lo mc ms maxL index : Nat} {As rest : List Value} {wc : va_W} {S : Type} {w1 : S → va_W} (hM : CU l y wsY fr lo mc ms X wc (.ref b :: As) w1) (g : GoodIn Ts (wsV own index Cn y wsY)) (hw : wsY = Cond.code y bytes maxL ry :: ws9) (hd : y.cls = Cn ∧ y.cls ≠ "java/lang/invoke/MethodHandle" ∧ y.cls ≠ "java/lang/invoke/VarHandle" ∧ (parseMethodDescriptor y.desc).map (fun d => d.parameters.length) = some As.length) (hR : fr + 1 ≤ R.frames ∧ 8 + (maxL + 11) + lo ≤ R.locals) (hf : cells + mc ≤ R.cells ∧ slots + ms ≤ R.slots) {fs : List Value} {qc : u_T × Nat} (q0 ci : Nat) (hr : wc[q0]? = some (b, .inr (ci, fs))) (hrc : vwCl[ci]? = some (Cn, qc)) (isC isR perm : List Nat) (hC : isC.map (fun i => ws[i]?) = wc.map some) (hRr : isR.map (fun i => ws[i]?) = (isR.filterMap (fun i => ws[i]?)).map some) (hnC : va_nd isC = true) (hnR : va_nd isR = true) (hdis : ∀ i ∈ isR, i ∉ isC) (hnp : va_nd perm = true) (w2 : S → va_W) (hp : ∀ u : S, perm.map (fun i => (isR.filterMap (fun i => ws[i]?) ++ w1 u)[i]?) = (w2 u).map some) (hst : (rest.map fun v => v.category).sum ≤ 8) (d : decode cc pc = .ok (.invokevirtual index, 3)) (hs : st = As.reverse ++ .ref b :: rest) (k : ∀ u : S, Z p l e R s m args below meth c X A nL Q (cells + mc) (slots + ms) (w2 u) lv (pc + 3) rest) : Z p l e R s m args below meth c X A nL Q cells slots ws lv pc st := by
  intro H locs ls hP hD hS hl
  subst hs
  have hPc := hP.sub (ws' := wc) isC (zfm hC)
  have hDc := hD.sub (ws' := wc) isC hnC hC
  have hFc := va_free (wc := wc) hD hS C.hA isC hC
  refine va_callv (va_runV (As := As) (rest := rest) ⟨C.ex, C.cb, C.ml, C.ow, C.ts⟩ (hM H.size) (cwV As.length C.ts g hw rfl rfl hd hR) ⟨zPre_blind X wc H.size (.ref b :: As), va_recv C.hK hPc hrc hr, fun U hU hW => ⟨rfl, by rw [hU], by rw [hU]; exact hPc, va_K.moved hW.alike C.hK, hDc.weaken (fun _ _ _ _ => trivial)⟩⟩ rfl rfl hl.1 rfl (lv_room hst) d hf) hS (fun q _ h => hFc q h) hFc (fun u t H1 locs1 ht hvm hw1 hB hz1 hk1 hS1 => ?_)
  obtain ⟨hP1, hK1, hD1⟩ := hB
  rw [ht] at hP1
  obtain ⟨hP2, hD2⟩ := va_join hP hD isC isR hC hRr hnR hdis hk1 hFc hP1 hD1
  exact k u H1 locs1 ls (hP2.sub perm (zfm (hp u))) (hD2.sub perm hnp (hp u)) hS1 hl
theorem z_cSi (C : ZC p s m args meth c X A nL cc own Ts ret) {y : MethodName}  {bytes : ByteArray} {ry : Option FieldType} {wsY ws9 : List Cond} {fr lo mc ms maxL index : Nat} {As rest : List Value} {wc : va_W} {r : Int32} {w1 : va_W} (hM : CI l y wsY fr lo mc ms X wc As r w1) (g : GoodIn Ts (va_wsS own index y wsY)) (hw : wsY = Cond.code y bytes maxL ry :: ws9) (hd : y.cls ≠ "java/lang/invoke/MethodHandle" ∧ y.cls ≠ "java/lang/invoke/VarHandle" ∧ (parseMethodDescriptor y.desc).map (fun d => d.parameters.length) = some As.length) (hR : fr + 1 ≤ R.frames ∧ 8 + (maxL + 11) + lo ≤ R.locals) (hf : cells + mc ≤ R.cells ∧ slots + ms ≤ R.slots)  (isC isR perm : List Nat) (hC : isC.map (fun i => ws[i]?) = wc.map some) (hRr : isR.map (fun i => ws[i]?) = (isR.filterMap (fun i => ws[i]?)).map some) (hnC : va_nd isC = true) (hnR : va_nd isR = true) (hdis : ∀ i ∈ isR, i ∉ isC) (hnp : va_nd perm = true) (w2 : va_W) (hp : perm.map (fun i => (isR.filterMap (fun i => ws[i]?) ++ w1)[i]?) = w2.map some) (hst : (rest.map fun v => v.category).sum ≤ 8) (d : decode cc pc = .ok (.invokestatic index, 3)) (hs : st = As.reverse ++ rest) (k : Z p l e R s m args below meth c X A nL Q (cells + mc) (slots + ms) w2 lv (pc + 3) (.int r :: rest)) : Z p l e R s m args below meth c X A nL Q cells slots ws lv pc st := by
  intro H locs ls hP hD hS hl
  subst hs
  have hPc := hP.sub (ws' := wc) isC (zfm hC)
  have hDc := hD.sub (ws' := wc) isC hnC hC
  have hFc := va_free (wc := wc) hD hS C.hA isC hC
  refine va_calli (va_runS (As := As) (rest := rest) ⟨C.ex, C.cb, C.ml, C.ow, C.ts⟩ (hM H.size) (va_cwS As.length C.ts g hw rfl rfl hd hR) ⟨zPre_blind X wc H.size As, fun U hU hW => ⟨rfl, by rw [hU], by rw [hU]; exact hPc, va_K.moved hW.alike C.hK, hDc.weaken (fun _ _ _ _ => trivial)⟩⟩ rfl rfl hl.1 rfl (lv_room hst) d hf) hS (fun q _ h => hFc q h) hFc (fun r9 u t H1 locs1 ht hvm hw1 hB hz1 hk1 hS1 => ?_)
  obtain ⟨hP1, hK1, hD1⟩ := hB
  rw [ht] at hP1
  obtain ⟨hP2, hD2⟩ := va_join hP hD isC isR hC hRr hnR hdis hk1 hFc hP1 hD1
  subst hw1
  exact k H1 locs1 ls (hP2.sub perm (zfm hp)) (hD2.sub perm hnp hp) hS1 hl
theorem z_cSl (C : ZC p s m args meth c X A nL cc own Ts ret) {y : MethodName}  {bytes : ByteArray} {ry : Option FieldType} {wsY ws9 : List Cond} {fr lo mc ms maxL index : Nat} {As rest : List Value} {wc : va_W} {r : Int64} {w1 : va_W} (hM : CL l y wsY fr lo mc ms X wc As r w1) (g : GoodIn Ts (va_wsS own index y wsY)) (hw : wsY = Cond.code y bytes maxL ry :: ws9) (hd : y.cls ≠ "java/lang/invoke/MethodHandle" ∧ y.cls ≠ "java/lang/invoke/VarHandle" ∧ (parseMethodDescriptor y.desc).map (fun d => d.parameters.length) = some As.length) (hR : fr + 1 ≤ R.frames ∧ 8 + (maxL + 11) + lo ≤ R.locals) (hf : cells + mc ≤ R.cells ∧ slots + ms ≤ R.slots)  (isC isR perm : List Nat) (hC : isC.map (fun i => ws[i]?) = wc.map some) (hRr : isR.map (fun i => ws[i]?) = (isR.filterMap (fun i => ws[i]?)).map some) (hnC : va_nd isC = true) (hnR : va_nd isR = true) (hdis : ∀ i ∈ isR, i ∉ isC) (hnp : va_nd perm = true) (w2 : va_W) (hp : perm.map (fun i => (isR.filterMap (fun i => ws[i]?) ++ w1)[i]?) = w2.map some) (hst : (rest.map fun v => v.category).sum ≤ 8) (d : decode cc pc = .ok (.invokestatic index, 3)) (hs : st = As.reverse ++ rest) (k : Z p l e R s m args below meth c X A nL Q (cells + mc) (slots + ms) w2 lv (pc + 3) (.long r :: rest)) : Z p l e R s m args below meth c X A nL Q cells slots ws lv pc st := by
  intro H locs ls hP hD hS hl
  subst hs
  have hPc := hP.sub (ws' := wc) isC (zfm hC)
  have hDc := hD.sub (ws' := wc) isC hnC hC
  have hFc := va_free (wc := wc) hD hS C.hA isC hC
  refine va_calll (va_runS (As := As) (rest := rest) ⟨C.ex, C.cb, C.ml, C.ow, C.ts⟩ (hM H.size) (va_cwS As.length C.ts g hw rfl rfl hd hR) ⟨zPre_blind X wc H.size As, fun U hU hW => ⟨rfl, by rw [hU], by rw [hU]; exact hPc, va_K.moved hW.alike C.hK, hDc.weaken (fun _ _ _ _ => trivial)⟩⟩ rfl rfl hl.1 rfl (lv_room hst) d hf) hS (fun q _ h => hFc q h) hFc (fun r9 u t H1 locs1 ht hvm hw1 hB hz1 hk1 hS1 => ?_)
  obtain ⟨hP1, hK1, hD1⟩ := hB
  rw [ht] at hP1
  obtain ⟨hP2, hD2⟩ := va_join hP hD isC isR hC hRr hnR hdis hk1 hFc hP1 hD1
  subst hw1
  exact k H1 locs1 ls (hP2.sub perm (zfm hp)) (hD2.sub perm hnp hp) hS1 hl
theorem z_cSu (C : ZC p s m args meth c X A nL cc own Ts ret) {y : MethodName}  {bytes : ByteArray} {ry : Option FieldType} {wsY ws9 : List Cond} {fr lo mc ms maxL index : Nat} {As rest : List Value} {wc : va_W} {S : Type} {w1 : S → va_W} (hM : CU l y wsY fr lo mc ms X wc As w1) (g : GoodIn Ts (va_wsS own index y wsY)) (hw : wsY = Cond.code y bytes maxL ry :: ws9) (hd : y.cls ≠ "java/lang/invoke/MethodHandle" ∧ y.cls ≠ "java/lang/invoke/VarHandle" ∧ (parseMethodDescriptor y.desc).map (fun d => d.parameters.length) = some As.length) (hR : fr + 1 ≤ R.frames ∧ 8 + (maxL + 11) + lo ≤ R.locals) (hf : cells + mc ≤ R.cells ∧ slots + ms ≤ R.slots)  (isC isR perm : List Nat) (hC : isC.map (fun i => ws[i]?) = wc.map some) (hRr : isR.map (fun i => ws[i]?) = (isR.filterMap (fun i => ws[i]?)).map some) (hnC : va_nd isC = true) (hnR : va_nd isR = true) (hdis : ∀ i ∈ isR, i ∉ isC) (hnp : va_nd perm = true) (w2 : S → va_W) (hp : ∀ u : S, perm.map (fun i => (isR.filterMap (fun i => ws[i]?) ++ w1 u)[i]?) = (w2 u).map some) (hst : (rest.map fun v => v.category).sum ≤ 8) (d : decode cc pc = .ok (.invokestatic index, 3)) (hs : st = As.reverse ++ rest) (k : ∀ u : S, Z p l e R s m args below meth c X A nL Q (cells + mc) (slots + ms) (w2 u) lv (pc + 3) rest) : Z p l e R s m args below meth c X A nL Q cells slots ws lv pc st := by
  intro H locs ls hP hD hS hl
  subst hs
  have hPc := hP.sub (ws' := wc) isC (zfm hC)
  have hDc := hD.sub (ws' := wc) isC hnC hC
  have hFc := va_free (wc := wc) hD hS C.hA isC hC
  refine va_callv (va_runS (As := As) (rest := rest) ⟨C.ex, C.cb, C.ml, C.ow, C.ts⟩ (hM H.size) (va_cwS As.length C.ts g hw rfl rfl hd hR) ⟨zPre_blind X wc H.size As, fun U hU hW => ⟨rfl, by rw [hU], by rw [hU]; exact hPc, va_K.moved hW.alike C.hK, hDc.weaken (fun _ _ _ _ => trivial)⟩⟩ rfl rfl hl.1 rfl (lv_room hst) d hf) hS (fun q _ h => hFc q h) hFc (fun u t H1 locs1 ht hvm hw1 hB hz1 hk1 hS1 => ?_)
  obtain ⟨hP1, hK1, hD1⟩ := hB
  rw [ht] at hP1
  obtain ⟨hP2, hD2⟩ := va_join hP hD isC isR hC hRr hnR hdis hk1 hFc hP1 hD1
  exact k u H1 locs1 ls (hP2.sub perm (zfm (hp u))) (hD2.sub perm hnp (hp u)) hS1 hl
theorem z_cIu (C : ZC p s m args meth c X A nL cc own Ts ret) {y : MethodName} {bytes : ByteArray} {wsY ws9 : List Cond} {fr lo mc ms maxL index b : Nat} {As rest : List Value} {wc : va_W} {S : Type} {w1 : S → va_W} (hM : CU l y wsY fr lo mc ms X wc (.ref b :: As) w1) (g : GoodIn Ts wsY) (hw : wsY = Cond.code y bytes maxL none :: ws9) (hini : Cond.initialized y.cls ∈ Ts) (hlk : Cond.methodLink own index y ∈ Ts) (hinm : Cond.instanceMethod y ∈ Ts) (hy1 : y.name = "<init>") (hd : y.cls ≠ "java/lang/invoke/MethodHandle" ∧ y.cls ≠ "java/lang/invoke/VarHandle" ∧ (parseMethodDescriptor y.desc).map (fun d => d.parameters.length) = some As.length) (hR : fr + 1 ≤ R.frames ∧ 8 + (maxL + 11) + lo ≤ R.locals) (hf : cells + mc ≤ R.cells ∧ slots + ms ≤ R.slots) (isC isR perm : List Nat) (hC : isC.map (fun i => ws[i]?) = wc.map some) (hRr : isR.map (fun i => ws[i]?) = (isR.filterMap (fun i => ws[i]?)).map some) (hnC : va_nd isC = true) (hnR : va_nd isR = true) (hdis : ∀ i ∈ isR, i ∉ isC) (hnp : va_nd perm = true) (w2 : S → va_W) (hp : ∀ u : S, perm.map (fun i => (isR.filterMap (fun i => ws[i]?) ++ w1 u)[i]?) = (w2 u).map some) (hst : (rest.map fun v => v.category).sum ≤ 8) (d : decode cc pc = .ok (.invokespecial index, 3)) (hs : st = As.reverse ++ .ref b :: rest) (k : ∀ u : S, Z p l e R s m args below meth c X A nL Q (cells + mc) (slots + ms) (w2 u) lv (pc + 3) rest) : Z p l e R s m args below meth c X A nL Q cells slots ws lv pc st := by
  intro H locs ls hP hD hS hl
  subst hs
  have hPc := hP.sub (ws' := wc) isC (zfm hC)
  have hDc := hD.sub (ws' := wc) isC hnC hC
  have hFc := va_free (wc := wc) hD hS C.hA isC hC
  refine va_callv (va_runI (As := As) (rest := rest) ⟨C.ex, C.cb, C.ml, C.ow, C.ts⟩ (hM H.size) (cwI As.length C.ts g hw rfl rfl (C.ts _ hini) (C.ts _ hlk) (C.ts _ hinm) hy1 hd hR) ⟨zPre_blind X wc H.size (.ref b :: As), fun U hU hW => ⟨rfl, by rw [hU], by rw [hU]; exact hPc, va_K.moved hW.alike C.hK, hDc.weaken (fun _ _ _ _ => trivial)⟩⟩ rfl rfl hl.1 rfl (lv_room hst) d hf) hS (fun q _ h => hFc q h) hFc (fun u t H1 locs1 ht hvm hw1 hB hz1 hk1 hS1 => ?_)
  obtain ⟨hP1, hK1, hD1⟩ := hB
  rw [ht] at hP1
  obtain ⟨hP2, hD2⟩ := va_join hP hD isC isR hC hRr hnR hdis hk1 hFc hP1 hD1
  exact k u H1 locs1 ls (hP2.sub perm (zfm (hp u))) (hD2.sub perm hnp (hp u)) hS1 hl
theorem z_cVi0 (C : ZC p s m args meth c X A nL cc own Ts ret) {y : MethodName} {Cn : String} {b : Nat} {bytes : ByteArray} {ry : Option FieldType} {wsY ws9 : List Cond} {fr lo mc ms maxL index : Nat} {As rest : List Value} {r : Int32} {w1 : va_W} (hM : CI l y wsY fr lo mc ms X ws (.ref b :: As) r w1) (g : GoodIn Ts (wsV own index Cn y wsY)) (hw : wsY = Cond.code y bytes maxL ry :: ws9) (hd : y.cls = Cn ∧ y.cls ≠ "java/lang/invoke/MethodHandle" ∧ y.cls ≠ "java/lang/invoke/VarHandle" ∧ (parseMethodDescriptor y.desc).map (fun d => d.parameters.length) = some As.length) (hR : fr + 1 ≤ R.frames ∧ 8 + (maxL + 11) + lo ≤ R.locals) (hf : cells + mc ≤ R.cells ∧ slots + ms ≤ R.slots) {fs : List Value} {qc : u_T × Nat} (q0 ci : Nat) (hr : ws[q0]? = some (b, .inr (ci, fs))) (hrc : vwCl[ci]? = some (Cn, qc)) (hst : (rest.map fun v => v.category).sum ≤ 8) (d : decode cc pc = .ok (.invokevirtual index, 3)) (hs : st = As.reverse ++ .ref b :: rest) (k : Z p l e R s m args below meth c X A nL Q (cells + mc) (slots + ms) w1 lv (pc + 3) (.int r :: rest)) : Z p l e R s m args below meth c X A nL Q cells slots ws lv pc st := by
  intro H locs ls hP hD hS hl
  subst hs
  have hFc : ∀ q, va_A ws H.size q → A q := fun q h => by
    rcases h with ⟨k9, e9, h⟩ | h
    · exact hD.2 k9 (q, e9) h
    · exact C.hA q (Nat.le_trans hS.1 h)
  refine va_calli (va_runV (As := As) (rest := rest) ⟨C.ex, C.cb, C.ml, C.ow, C.ts⟩ (hM H.size) (cwV As.length C.ts g hw rfl rfl hd hR) ⟨zPre_blind X ws H.size (.ref b :: As), va_recv C.hK hP hrc hr, fun U hU hW => ⟨rfl, by rw [hU], by rw [hU]; exact hP, va_K.moved hW.alike C.hK, hD.weaken (fun _ _ _ _ => trivial)⟩⟩ rfl rfl hl.1 rfl (lv_room hst) d hf) hS (fun q _ h => hFc q h) hFc (fun r9 u t H1 locs1 ht hvm hw1 hB hz1 hk1 hS1 => ?_)
  obtain ⟨hP1, hK1, hD1⟩ := hB
  rw [ht] at hP1
  subst hw1
  exact k H1 locs1 ls hP1 (hD1.weaken (fun _ q _ h => hFc q.1 h)) hS1 hl
theorem z_cVv0 (C : ZC p s m args meth c X A nL cc own Ts ret) {y : MethodName} {Cn : String} {b : Nat} {bytes : ByteArray} {ry : Option FieldType} {wsY ws9 : List Cond} {fr lo mc ms maxL index : Nat} {As rest : List Value} {w1 : va_W} (hM : CV l y wsY fr lo mc ms X ws (.ref b :: As) w1) (g : GoodIn Ts (wsV own index Cn y wsY)) (hw : wsY = Cond.code y bytes maxL ry :: ws9) (hd : y.cls = Cn ∧ y.cls ≠ "java/lang/invoke/MethodHandle" ∧ y.cls ≠ "java/lang/invoke/VarHandle" ∧ (parseMethodDescriptor y.desc).map (fun d => d.parameters.length) = some As.length) (hR : fr + 1 ≤ R.frames ∧ 8 + (maxL + 11) + lo ≤ R.locals) (hf : cells + mc ≤ R.cells ∧ slots + ms ≤ R.slots) {fs : List Value} {qc : u_T × Nat} (q0 ci : Nat) (hr : ws[q0]? = some (b, .inr (ci, fs))) (hrc : vwCl[ci]? = some (Cn, qc)) (hst : (rest.map fun v => v.category).sum ≤ 8) (d : decode cc pc = .ok (.invokevirtual index, 3)) (hs : st = As.reverse ++ .ref b :: rest) (k : Z p l e R s m args below meth c X A nL Q (cells + mc) (slots + ms) w1 lv (pc + 3) rest) : Z p l e R s m args below meth c X A nL Q cells slots ws lv pc st := by
  intro H locs ls hP hD hS hl
  subst hs
  have hFc : ∀ q, va_A ws H.size q → A q := fun q h => by
    rcases h with ⟨k9, e9, h⟩ | h
    · exact hD.2 k9 (q, e9) h
    · exact C.hA q (Nat.le_trans hS.1 h)
  refine va_callv (va_runV (As := As) (rest := rest) ⟨C.ex, C.cb, C.ml, C.ow, C.ts⟩ (hM H.size) (cwV As.length C.ts g hw rfl rfl hd hR) ⟨zPre_blind X ws H.size (.ref b :: As), va_recv C.hK hP hrc hr, fun U hU hW => ⟨rfl, by rw [hU], by rw [hU]; exact hP, va_K.moved hW.alike C.hK, hD.weaken (fun _ _ _ _ => trivial)⟩⟩ rfl rfl hl.1 rfl (lv_room hst) d hf) hS (fun q _ h => hFc q h) hFc (fun u t H1 locs1 ht hvm hw1 hB hz1 hk1 hS1 => ?_)
  obtain ⟨hP1, hK1, hD1⟩ := hB
  rw [ht] at hP1
  exact k H1 locs1 ls hP1 (hD1.weaken (fun _ q _ h => hFc q.1 h)) hS1 hl
theorem z_cSi0 (C : ZC p s m args meth c X A nL cc own Ts ret) {y : MethodName}  {bytes : ByteArray} {ry : Option FieldType} {wsY ws9 : List Cond} {fr lo mc ms maxL index : Nat} {As rest : List Value} {r : Int32} (hM : CI l y wsY fr lo mc ms X [] As r []) (g : GoodIn Ts (va_wsS own index y wsY)) (hw : wsY = Cond.code y bytes maxL ry :: ws9) (hd : y.cls ≠ "java/lang/invoke/MethodHandle" ∧ y.cls ≠ "java/lang/invoke/VarHandle" ∧ (parseMethodDescriptor y.desc).map (fun d => d.parameters.length) = some As.length) (hR : fr + 1 ≤ R.frames ∧ 8 + (maxL + 11) + lo ≤ R.locals) (hf : cells + mc ≤ R.cells ∧ slots + ms ≤ R.slots)  (hst : (rest.map fun v => v.category).sum ≤ 8) (d : decode cc pc = .ok (.invokestatic index, 3)) (hs : st = As.reverse ++ rest) (k : Z p l e R s m args below meth c X A nL Q (cells + mc) (slots + ms) ws lv (pc + 3) (.int r :: rest)) : Z p l e R s m args below meth c X A nL Q cells slots ws lv pc st := by
  intro H locs ls hP hD hS hl
  subst hs
  have hPc : va_P X.1 vwCl [] H := fun k q h => by simp at h
  have hDc : va_D (fun _ => True) [] := ⟨fun i j p q h => by simp at h, fun k q h => by simp at h⟩
  have hA9 : ∀ q, va_A [] H.size q → H.size ≤ q := fun q h => by
    rcases h with ⟨k9, e9, h⟩ | h
    · simp at h
    · exact h
  have hFc : ∀ q, va_A [] H.size q → A q := fun q h => C.hA q (Nat.le_trans hS.1 (hA9 q h))
  refine va_calli (va_runS (As := As) (rest := rest) ⟨C.ex, C.cb, C.ml, C.ow, C.ts⟩ (hM H.size) (va_cwS As.length C.ts g hw rfl rfl hd hR) ⟨zPre_blind X [] H.size As, fun U hU hW => ⟨rfl, by rw [hU], by rw [hU]; exact hPc, va_K.moved hW.alike C.hK, hDc⟩⟩ rfl rfl hl.1 rfl (lv_room hst) d hf) hS (fun q _ h => hFc q h) hFc (fun r9 u t H1 locs1 ht hvm hw1 hB hz1 hk1 hS1 => ?_)
  have hP1 : va_P X.1 vwCl ws H1 := hP.kept (fun k9 q9 h9 => hk1 q9.1 ((hP k9 q9 h9).lt) (fun z => absurd (hA9 _ z) (Nat.not_le.mpr ((hP k9 q9 h9).lt))))
  subst hw1
  exact k H1 locs1 ls hP1 hD hS1 hl
theorem z_cSl0 (C : ZC p s m args meth c X A nL cc own Ts ret) {y : MethodName}  {bytes : ByteArray} {ry : Option FieldType} {wsY ws9 : List Cond} {fr lo mc ms maxL index : Nat} {As rest : List Value} {r : Int64} (hM : CL l y wsY fr lo mc ms X [] As r []) (g : GoodIn Ts (va_wsS own index y wsY)) (hw : wsY = Cond.code y bytes maxL ry :: ws9) (hd : y.cls ≠ "java/lang/invoke/MethodHandle" ∧ y.cls ≠ "java/lang/invoke/VarHandle" ∧ (parseMethodDescriptor y.desc).map (fun d => d.parameters.length) = some As.length) (hR : fr + 1 ≤ R.frames ∧ 8 + (maxL + 11) + lo ≤ R.locals) (hf : cells + mc ≤ R.cells ∧ slots + ms ≤ R.slots)  (hst : (rest.map fun v => v.category).sum ≤ 8) (d : decode cc pc = .ok (.invokestatic index, 3)) (hs : st = As.reverse ++ rest) (k : Z p l e R s m args below meth c X A nL Q (cells + mc) (slots + ms) ws lv (pc + 3) (.long r :: rest)) : Z p l e R s m args below meth c X A nL Q cells slots ws lv pc st := by
  intro H locs ls hP hD hS hl
  subst hs
  have hPc : va_P X.1 vwCl [] H := fun k q h => by simp at h
  have hDc : va_D (fun _ => True) [] := ⟨fun i j p q h => by simp at h, fun k q h => by simp at h⟩
  have hA9 : ∀ q, va_A [] H.size q → H.size ≤ q := fun q h => by
    rcases h with ⟨k9, e9, h⟩ | h
    · simp at h
    · exact h
  have hFc : ∀ q, va_A [] H.size q → A q := fun q h => C.hA q (Nat.le_trans hS.1 (hA9 q h))
  refine va_calll (va_runS (As := As) (rest := rest) ⟨C.ex, C.cb, C.ml, C.ow, C.ts⟩ (hM H.size) (va_cwS As.length C.ts g hw rfl rfl hd hR) ⟨zPre_blind X [] H.size As, fun U hU hW => ⟨rfl, by rw [hU], by rw [hU]; exact hPc, va_K.moved hW.alike C.hK, hDc⟩⟩ rfl rfl hl.1 rfl (lv_room hst) d hf) hS (fun q _ h => hFc q h) hFc (fun r9 u t H1 locs1 ht hvm hw1 hB hz1 hk1 hS1 => ?_)
  have hP1 : va_P X.1 vwCl ws H1 := hP.kept (fun k9 q9 h9 => hk1 q9.1 ((hP k9 q9 h9).lt) (fun z => absurd (hA9 _ z) (Nat.not_le.mpr ((hP k9 q9 h9).lt))))
  subst hw1
  exact k H1 locs1 ls hP1 hD hS1 hl
theorem z_cSv0 (C : ZC p s m args meth c X A nL cc own Ts ret) {y : MethodName}  {bytes : ByteArray} {ry : Option FieldType} {wsY ws9 : List Cond} {fr lo mc ms maxL index : Nat} {As rest : List Value}  (hM : CV l y wsY fr lo mc ms X [] As []) (g : GoodIn Ts (va_wsS own index y wsY)) (hw : wsY = Cond.code y bytes maxL ry :: ws9) (hd : y.cls ≠ "java/lang/invoke/MethodHandle" ∧ y.cls ≠ "java/lang/invoke/VarHandle" ∧ (parseMethodDescriptor y.desc).map (fun d => d.parameters.length) = some As.length) (hR : fr + 1 ≤ R.frames ∧ 8 + (maxL + 11) + lo ≤ R.locals) (hf : cells + mc ≤ R.cells ∧ slots + ms ≤ R.slots)  (hst : (rest.map fun v => v.category).sum ≤ 8) (d : decode cc pc = .ok (.invokestatic index, 3)) (hs : st = As.reverse ++ rest) (k : Z p l e R s m args below meth c X A nL Q (cells + mc) (slots + ms) ws lv (pc + 3) rest) : Z p l e R s m args below meth c X A nL Q cells slots ws lv pc st := by
  intro H locs ls hP hD hS hl
  subst hs
  have hPc : va_P X.1 vwCl [] H := fun k q h => by simp at h
  have hDc : va_D (fun _ => True) [] := ⟨fun i j p q h => by simp at h, fun k q h => by simp at h⟩
  have hA9 : ∀ q, va_A [] H.size q → H.size ≤ q := fun q h => by
    rcases h with ⟨k9, e9, h⟩ | h
    · simp at h
    · exact h
  have hFc : ∀ q, va_A [] H.size q → A q := fun q h => C.hA q (Nat.le_trans hS.1 (hA9 q h))
  refine va_callv (va_runS (As := As) (rest := rest) ⟨C.ex, C.cb, C.ml, C.ow, C.ts⟩ (hM H.size) (va_cwS As.length C.ts g hw rfl rfl hd hR) ⟨zPre_blind X [] H.size As, fun U hU hW => ⟨rfl, by rw [hU], by rw [hU]; exact hPc, va_K.moved hW.alike C.hK, hDc⟩⟩ rfl rfl hl.1 rfl (lv_room hst) d hf) hS (fun q _ h => hFc q h) hFc (fun u t H1 locs1 ht hvm hw1 hB hz1 hk1 hS1 => ?_)
  have hP1 : va_P X.1 vwCl ws H1 := hP.kept (fun k9 q9 h9 => hk1 q9.1 ((hP k9 q9 h9).lt) (fun z => absurd (hA9 _ z) (Nat.not_le.mpr ((hP k9 q9 h9).lt))))
  exact k H1 locs1 ls hP1 hD hS1 hl
end ZM
def jn {α β : Type} (x : α) (f : α → β) : β := f x
theorem jn_at {α β : Type} {x v : α} {f : α → β} (h : v = x) : jn x f = f v := by
  subst h
  rfl
theorem jn_eq {α β : Type} (x : α) (f : α → β) : jn x f = f x := eq_of_heq (HEq.refl (f x))
