/-- the links to private constructors -/
def nW (U : State) : Prop := va_Nw (.methodLinkNest RX3 11 yX1_init RX5) U ∧ va_Nw (.methodLinkNest RX3 20 yX4_init RX5) U ∧ va_Nw (.methodLinkNest RX5 28 yX2_init RX5) U
theorem nW.warm {s U : State} (hW : s.WarmedH U.vm) (h : nW s) : nW U := ⟨va_Nw.warmM hW h.1, va_Nw.warmM hW h.2.1, va_Nw.warmM hW h.2.2⟩
theorem nW.call {U : State} {g : JFrame} {mk : MethodId} {a : Array Value} (h : nW U) : nW (U.calling g mk a) := ⟨va_Nw.same rfl (u := U) rfl h.1, va_Nw.same rfl (u := U) rfl h.2.1, va_Nw.same rfl (u := U) rfl h.2.2⟩
def nPre (X : zX) (w : va_W) (sz : Nat) : State → Prop := fun U => zPre X w sz U ∧ nW U
theorem nPre_blind (X : zX) (w : va_W) (sz : Nat) (av : List Value) : FrameBlind (va_Pc av (nPre X w sz)) := fun a U g mk q => by
  obtain ⟨q0, q1, q2⟩ := q
  have h1 := zPre_blind X w sz av a U g mk ⟨q0, q1⟩
  exact ⟨h1.1, h1.2, q2.call⟩
def CUN {S : Type} (l : Launch) (y : MethodName) (wsY : List Cond) (fr lo mc ms : Nat) (X : zX) (w0 : va_W) (av : List Value) (w1 : S → va_W) : Prop := ∀ sz : Nat, Met l y wsY { frames := fr, cells := mc, slots := ms, locals := lo } (va_Pc av (nPre X w0 sz)) (va_Qv (fun _ : S => True) (zB X (va_A w0 sz) w1) (va_A w0 sz)) mc ms (va_A w0 sz)
section NM
variable {p : Program} {l : Launch} {e : Env} {R : Room} {s : State} {m : MethodId} {args : Array Value} {below : List Frame} {meth : Method} {c : Code} {cells slots : Nat} {Q : State → Prop} {X : zX} {A : Nat → Prop} {nL pc : Nat} {cc : ByteArray} {own : String} {Ts : List Cond} {ret : Option FieldType} {ws : va_W} {lv : List (Nat × Value)} {st : List Value}
theorem cnn_intro {y : MethodName} {wsY ws9 : List Cond} {fr lo mc ms maxL : Nat} {w0 : va_W} {av : List Value} {S : Type} {w1 : S → va_W} (hy : plainFor y = true) (hw : wsY = Cond.code y cc maxL ret :: ws9) (hnl : (lg_sl av).length ≤ maxL)
    (body : ∀ (p : Program) (e : Env) (s : State) (m : MethodId) (args : Array Value) (below : List Frame) (meth : Method) (c : Code) (A : Nat → Prop) (Q : State → Prop), ZC p s m args meth c X A maxL cc y.cls wsY ret → Q = MQ below (va_Qv (fun _ : S => True) (zB X A w1) A) args s mc ms A → meth.name = y.name → nW s → Z p l e { frames := fr, cells := mc, slots := ms, locals := lo } s m args below meth c X A maxL Q 0 0 w0 (lv_args 0 av) 0 []) : CUN l y wsY fr lo mc ms X w0 av w1 := by
  intro sz
  refine met_ofF (cc := cc) (maxL := maxL) (ret := ret) hy hw ?_
  intro p e s m args below meth c s₁ B hml hv
  obtain ⟨rfl, ⟨hsz, hP, hK, hD0⟩, hnw⟩ := hv
  subst hsz
  have C : ZC p s m av.toArray meth c X (va_A w0 s.heap.size) maxL cc y.cls wsY ret := ⟨B.exec, B.bytes, hml, findClass_of_methodNamed B.named, atoms_spec (ws := wsY) B.pre, hK, fun q h => Or.inr h, B.notSynchronized, B.returns⟩
  have hl := lv_entry av (n := maxL) hnl
  rw [lg_entry_eq]
  exact body p e s m av.toArray below meth c _ _ C rfl (name_of_methodNamed B.named B.method).1 hnw s.heap [] _ hP hD0.self va_S.rf hl
theorem z_cIn (C : ZC p s m args meth c X A nL cc own Ts ret) {y : MethodName} {bytes : ByteArray} {wsY ws9 : List Cond} {fr lo mc ms maxL index b : Nat} {As rest : List Value} {wc : va_W} {S : Type} {w1 : S → va_W} (hM : CU l y wsY fr lo mc ms X wc (.ref b :: As) w1) (g : GoodIn Ts wsY) (hw : wsY = Cond.code y bytes maxL none :: ws9) {host : String} (hnl : va_Nw (.methodLinkNest own index y host) s) (hini : Cond.initialized y.cls ∈ Ts) (hinm : Cond.instanceMethod y ∈ Ts) (hy1 : y.name = "<init>") (hd : y.cls ≠ "java/lang/invoke/MethodHandle" ∧ y.cls ≠ "java/lang/invoke/VarHandle" ∧ (parseMethodDescriptor y.desc).map (fun d => d.parameters.length) = some As.length) (hR : fr + 1 ≤ R.frames ∧ 8 + (maxL + 11) + lo ≤ R.locals) (hf : cells + mc ≤ R.cells ∧ slots + ms ≤ R.slots) (isC isR perm : List Nat) (hC : isC.map (fun i => ws[i]?) = wc.map some) (hRr : isR.map (fun i => ws[i]?) = (isR.filterMap (fun i => ws[i]?)).map some) (hnC : va_nd isC = true) (hnR : va_nd isR = true) (hdis : ∀ i ∈ isR, i ∉ isC) (hnp : va_nd perm = true) (w2 : S → va_W) (hp : ∀ u : S, perm.map (fun i => (isR.filterMap (fun i => ws[i]?) ++ w1 u)[i]?) = (w2 u).map some) (hst : (rest.map fun v => v.category).sum ≤ 8) (d : decode cc pc = .ok (.invokespecial index, 3)) (hs : st = As.reverse ++ .ref b :: rest) (k : ∀ u : S, Z p l e R s m args below meth c X A nL Q (cells + mc) (slots + ms) (w2 u) lv (pc + 3) rest) : Z p l e R s m args below meth c X A nL Q cells slots ws lv pc st := by
  intro H locs ls hP hD hS hl
  subst hs
  have hPc := hP.sub (ws' := wc) isC (zfm hC)
  have hDc := hD.sub (ws' := wc) isC hnC hC
  have hFc := va_free (wc := wc) hD hS C.hA isC hC
  refine va_callv (va_runIN (As := As) (rest := rest) ⟨C.ex, C.cb, C.ml, C.ow, C.ts⟩ (hM H.size) ⟨va_cnB As.length C.ts g hw rfl rfl hnl (C.ts _ hini) hd hR, hy1, C.ts _ hinm⟩ ⟨zPre_blind X wc H.size (.ref b :: As), fun U hU hW => ⟨rfl, by rw [hU], by rw [hU]; exact hPc, va_K.moved hW.alike C.hK, hDc.weaken (fun _ _ _ _ => trivial)⟩⟩ rfl rfl hl.1 rfl (lv_room hst) d hf) hS (fun q _ h => hFc q h) hFc (fun u t H1 locs1 ht hvm hw1 hB hz1 hk1 hS1 => ?_)
  obtain ⟨hP1, hK1, hD1⟩ := hB
  rw [ht] at hP1
  obtain ⟨hP2, hD2⟩ := va_join hP hD isC isR hC hRr hnR hdis hk1 hFc hP1 hD1
  exact k u H1 locs1 ls (hP2.sub perm (zfm (hp u))) (hD2.sub perm hnp (hp u)) hS1 hl
theorem z_cIuN (C : ZC p s m args meth c X A nL cc own Ts ret) {y : MethodName} {bytes : ByteArray} {wsY ws9 : List Cond} {fr lo mc ms maxL index b : Nat} {As rest : List Value} {wc : va_W} {S : Type} {w1 : S → va_W} (hM : CUN l y wsY fr lo mc ms X wc (.ref b :: As) w1) (g : GoodIn Ts wsY) (hw : wsY = Cond.code y bytes maxL none :: ws9) (hnw : nW s) (hini : Cond.initialized y.cls ∈ Ts) (hlk : Cond.methodLink own index y ∈ Ts) (hinm : Cond.instanceMethod y ∈ Ts) (hy1 : y.name = "<init>") (hd : y.cls ≠ "java/lang/invoke/MethodHandle" ∧ y.cls ≠ "java/lang/invoke/VarHandle" ∧ (parseMethodDescriptor y.desc).map (fun d => d.parameters.length) = some As.length) (hR : fr + 1 ≤ R.frames ∧ 8 + (maxL + 11) + lo ≤ R.locals) (hf : cells + mc ≤ R.cells ∧ slots + ms ≤ R.slots) (isC isR perm : List Nat) (hC : isC.map (fun i => ws[i]?) = wc.map some) (hRr : isR.map (fun i => ws[i]?) = (isR.filterMap (fun i => ws[i]?)).map some) (hnC : va_nd isC = true) (hnR : va_nd isR = true) (hdis : ∀ i ∈ isR, i ∉ isC) (hnp : va_nd perm = true) (w2 : S → va_W) (hp : ∀ u : S, perm.map (fun i => (isR.filterMap (fun i => ws[i]?) ++ w1 u)[i]?) = (w2 u).map some) (hst : (rest.map fun v => v.category).sum ≤ 8) (d : decode cc pc = .ok (.invokespecial index, 3)) (hs : st = As.reverse ++ .ref b :: rest) (k : ∀ u : S, Z p l e R s m args below meth c X A nL Q (cells + mc) (slots + ms) (w2 u) lv (pc + 3) rest) : Z p l e R s m args below meth c X A nL Q cells slots ws lv pc st := by
  intro H locs ls hP hD hS hl
  subst hs
  have hPc := hP.sub (ws' := wc) isC (zfm hC)
  have hDc := hD.sub (ws' := wc) isC hnC hC
  have hFc := va_free (wc := wc) hD hS C.hA isC hC
  refine va_callv (va_runI (As := As) (rest := rest) ⟨C.ex, C.cb, C.ml, C.ow, C.ts⟩ (hM H.size) (cwI As.length C.ts g hw rfl rfl (C.ts _ hini) (C.ts _ hlk) (C.ts _ hinm) hy1 hd hR) ⟨nPre_blind X wc H.size (.ref b :: As), fun U hU hW => ⟨rfl, ⟨by rw [hU], by rw [hU]; exact hPc, va_K.moved hW.alike C.hK, hDc.weaken (fun _ _ _ _ => trivial)⟩, hnw.warm hW⟩⟩ rfl rfl hl.1 rfl (lv_room hst) d hf) hS (fun q _ h => hFc q h) hFc (fun u t H1 locs1 ht hvm hw1 hB hz1 hk1 hS1 => ?_)
  obtain ⟨hP1, hK1, hD1⟩ := hB
  rw [ht] at hP1
  obtain ⟨hP2, hD2⟩ := va_join hP hD isC isR hC hRr hnR hdis hk1 hFc hP1 hD1
  exact k u H1 locs1 ls (hP2.sub perm (zfm (hp u))) (hD2.sub perm hnp (hp u)) hS1 hl
end NM
