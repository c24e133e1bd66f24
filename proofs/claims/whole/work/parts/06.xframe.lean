abbrev xIOB : String := "java/lang/IndexOutOfBoundsException"
abbrev xIAE : String := "java/lang/IllegalArgumentException"
abbrev xISE : String := "java/lang/IllegalStateException"
def xStr : List (Nat × String) := [(56, "the cell has ice or water"), (80, "the cell would have too much ice"), (120, "the depth is below 0"), (131, "there was no such flood"), (171, "there are 10 forecasts"), (177, "there is no such forecast"), (197, "it would be above the year 60"), (199, "there is no such cell"), (201, "an argument is out of range")]
def xEs : List String := [xIOB, xIAE, xISE]
def xUp : List String := ["java/lang/RuntimeException", "java/lang/Exception", Bundle.tN]
def xNc : List (String × String) := [(xIAE, xIOB), (xISE, xIOB), (xISE, xIAE)]
/-- what the tables say of the exceptions -/
def xW (U : State) : Prop := (∀ q ∈ xEs, va_Nw (.castable q q) U) ∧ (∀ q ∈ xUp, va_Nw (.declares (Bundle.initS q)) U) ∧ (∀ q ∈ xNc, va_Nc q.1 q.2 U) ∧ ∀ q ∈ xStr, ∃ sa : Nat, vk_R RX5 q.1 q.2 sa U
theorem xW.warm {s U : State} (hW : s.WarmedH U.vm) (h : xW s) : xW U := ⟨fun q hq => va_Nw.warmC hW (h.1 q hq), fun q hq => va_Nw.warmD hW (h.2.1 q hq), fun q hq => va_Nc.moved hW.alike (h.2.2.1 q hq), fun q hq => by
  obtain ⟨sa, h1⟩ := h.2.2.2 q hq
  exact ⟨sa, vk_R.warm hW h1⟩⟩
theorem xW.call {U : State} {g : JFrame} {mk : MethodId} {a : Array Value} (h : xW U) : xW (U.calling g mk a) := ⟨fun q hq => va_Nw.same rfl (u := U) rfl (h.1 q hq), fun q hq => va_Nw.same rfl (u := U) rfl (h.2.1 q hq), fun q hq => va_Nc.moved (u := U) (Vm.Alike.refl U.vm) (h.2.2.1 q hq), fun q hq => by
  obtain ⟨sa, h1⟩ := h.2.2.2 q hq
  exact ⟨sa, vk_R.same (u := U) rfl h1⟩⟩
def xS (A : Nat → Prop) (U : State) (H : Heap) : Prop := vx_Zq Bundle.tN "UNASSIGNED_STACK" Bundle.steD A U H ∧ vx_Zq Bundle.tN "SUPPRESSED_SENTINEL" Bundle.listD A U H
theorem xS.at {A B : Nat → Prop} {s U : State} {H : Heap} {locs : List Loc} (h : xS A s s.heap) (hS : va_S A s.heap H locs) (hF : ∀ q, B q → A q) (hU : U.heap = H) (hv : s.vm.Alike U.vm) : xS B U U.heap := by
  rw [hU]
  exact ⟨vx_Zq.moved hv ((h.1.kept hS.2.1).narrow hF), vx_Zq.moved hv ((h.2.kept hS.2.1).narrow hF)⟩
def xPre (X : zX) (w : va_W) (sz : Nat) : State → Prop := fun U => zPre X w sz U ∧ xW U ∧ xS (va_A w sz) U U.heap
theorem xPre_blind (X : zX) (w : va_W) (sz : Nat) (av : List Value) : FrameBlind (va_Pc av (xPre X w sz)) := fun a U g mk q => by
  obtain ⟨q0, q1, q2, q3⟩ := q
  have h1 := zPre_blind X w sz av a U g mk ⟨q0, q1⟩
  exact ⟨h1.1, h1.2, q2.call, vx_Zq.moved (u := U) (Vm.Alike.refl U.vm) q3.1, vx_Zq.moved (u := U) (Vm.Alike.refl U.vm) q3.2⟩
def xXC (X : zX) (A : Nat → Prop) (w0 : va_W) (En : String) : String → State → State → Prop := vx_X (fun _ : Unit => True) (fun E u t => E = En ∧ zB X A (fun _ : Unit => w0) u t) A
/-- throws En, the cells stay -/
def CXi (l : Launch) (y : MethodName) (wsY : List Cond) (fr lo mc ms : Nat) (X : zX) (w0 : va_W) (av : List Value) (En : String) : Prop := ∀ sz : Nat, vx_Met l y wsY { frames := fr, cells := mc, slots := ms, locals := lo } (va_Pc av (xPre X w0 sz)) (va_Qi (fun _ (_ : Unit) => False) (zB X (va_A w0 sz) (fun _ => w0)) (va_A w0 sz)) (xXC X (va_A w0 sz) w0 En) mc ms (va_A w0 sz)
def CXv (l : Launch) (y : MethodName) (wsY : List Cond) (fr lo mc ms : Nat) (X : zX) (w0 : va_W) (av : List Value) (En : String) : Prop := ∀ sz : Nat, vx_Met l y wsY { frames := fr, cells := mc, slots := ms, locals := lo } (va_Pc av (xPre X w0 sz)) (va_Qv (fun _ : Unit => False) (zB X (va_A w0 sz) (fun _ => w0)) (va_A w0 sz)) (xXC X (va_A w0 sz) w0 En) mc ms (va_A w0 sz)
/-- returns r, over a heap in which exceptions may be thrown -/
def CE (l : Launch) (y : MethodName) (wsY : List Cond) (fr lo mc ms : Nat) (X : zX) (w0 : va_W) (av : List Value) (r : Int32) (w1 : va_W) : Prop := ∀ sz : Nat, Met l y wsY { frames := fr, cells := mc, slots := ms, locals := lo } (va_Pc av (xPre X w0 sz)) (va_Qi (fun x (_ : Unit) => x = r) (zB X (va_A w0 sz) (fun _ => w1)) (va_A w0 sz)) mc ms (va_A w0 sz)
section XM
variable {p : Program} {l : Launch} {e : Env} {R : Room} {s : State} {m : MethodId} {args : Array Value} {below : List Frame} {meth : Method} {c : Code} {cells slots : Nat} {Q : State → Prop} {X : zX} {A : Nat → Prop} {nL pc : Nat} {cc : ByteArray} {own : String} {Ts : List Cond} {ret : Option FieldType} {ws : va_W} {lv : List (Nat × Value)} {st : List Value}
theorem xi_intro {y : MethodName} {wsY ws9 : List Cond} {fr lo mc ms maxL : Nat} {w0 : va_W} {av : List Value} {En : String} (hy : plainName y.cls = true) (hw : wsY = Cond.code y cc maxL ret :: ws9) (hnl : (lg_sl av).length ≤ maxL)
    (body : ∀ (p : Program) (e : Env) (s : State) (m : MethodId) (args : Array Value) (below : List Frame) (meth : Method) (c : Code) (A : Nat → Prop) (Q : State → Prop), ZC p s m args meth c X A maxL cc y.cls wsY ret → xW s → xS A s s.heap → (∀ x ∈ c.exceptionTable.toList, False) → (∃ Qc, Q = vx_MQ below Qc (xXC X A w0 En) args s mc ms A) → Z p l e { frames := fr, cells := mc, slots := ms, locals := lo } s m args below meth c X A maxL Q 0 0 w0 (lv_args 0 av) 0 []) : CXi l y wsY fr lo mc ms X w0 av En := by
  intro sz
  refine vx_ofW (cc := cc) (maxL := maxL) (ret := ret) hy hw ?_
  intro p e s m args below meth c s₁ B hml hT hv
  obtain ⟨rfl, ⟨hsz, hP, hK, hD0⟩, hxw, hxs⟩ := hv
  subst hsz
  have C : ZC p s m av.toArray meth c X (va_A w0 s.heap.size) maxL cc y.cls wsY ret := ⟨B.exec, B.bytes, hml, findClass_of_methodNamed B.named, atoms_spec (ws := wsY) B.pre, hK, fun q h => Or.inr h, B.notSynchronized, B.returns⟩
  have hl := lv_entry av (n := maxL) hnl
  rw [lg_entry_eq]
  exact body p e s m av.toArray below meth c _ _ C hxw hxs hT ⟨_, rfl⟩ s.heap [] _ hP hD0.self va_S.rf hl
theorem xv_intro {y : MethodName} {wsY ws9 : List Cond} {fr lo mc ms maxL : Nat} {w0 : va_W} {av : List Value} {En : String} (hy : plainName y.cls = true) (hw : wsY = Cond.code y cc maxL ret :: ws9) (hnl : (lg_sl av).length ≤ maxL)
    (body : ∀ (p : Program) (e : Env) (s : State) (m : MethodId) (args : Array Value) (below : List Frame) (meth : Method) (c : Code) (A : Nat → Prop) (Q : State → Prop), ZC p s m args meth c X A maxL cc y.cls wsY ret → xW s → xS A s s.heap → (∀ x ∈ c.exceptionTable.toList, False) → (∃ Qc, Q = vx_MQ below Qc (xXC X A w0 En) args s mc ms A) → Z p l e { frames := fr, cells := mc, slots := ms, locals := lo } s m args below meth c X A maxL Q 0 0 w0 (lv_args 0 av) 0 []) : CXv l y wsY fr lo mc ms X w0 av En := by
  intro sz
  refine vx_ofW (cc := cc) (maxL := maxL) (ret := ret) hy hw ?_
  intro p e s m args below meth c s₁ B hml hT hv
  obtain ⟨rfl, ⟨hsz, hP, hK, hD0⟩, hxw, hxs⟩ := hv
  subst hsz
  have C : ZC p s m av.toArray meth c X (va_A w0 s.heap.size) maxL cc y.cls wsY ret := ⟨B.exec, B.bytes, hml, findClass_of_methodNamed B.named, atoms_spec (ws := wsY) B.pre, hK, fun q h => Or.inr h, B.notSynchronized, B.returns⟩
  have hl := lv_entry av (n := maxL) hnl
  rw [lg_entry_eq]
  exact body p e s m av.toArray below meth c _ _ C hxw hxs hT ⟨_, rfl⟩ s.heap [] _ hP hD0.self va_S.rf hl
theorem ce_intro {y : MethodName} {wsY ws9 : List Cond} {fr lo mc ms maxL : Nat} {w0 : va_W} {av : List Value} {r : Int32} {w1 : va_W} {hh : List (Nat × Nat × Nat × Nat)} (hy : plainName y.cls = true) (hw : wsY = Cond.codeWith y cc maxL ret hh :: ws9) (hnl : (lg_sl av).length ≤ maxL)
    (body : ∀ (p : Program) (e : Env) (s : State) (m : MethodId) (args : Array Value) (below : List Frame) (meth : Method) (c : Code) (A : Nat → Prop) (Q : State → Prop), ZC p s m args meth c X A maxL cc y.cls wsY ret → xW s → xS A s s.heap → c.exceptionTable.toList = tableOf hh → Q = MQ below (va_Qi (fun x (_ : Unit) => x = r) (zB X A (fun _ => w1)) A) args s mc ms A → Z p l e { frames := fr, cells := mc, slots := ms, locals := lo } s m args below meth c X A maxL Q 0 0 w0 (lv_args 0 av) 0 []) : CE l y wsY fr lo mc ms X w0 av r w1 := by
  intro sz
  refine va_MetW (cc := cc) (maxL := maxL) (ret := ret) hy hw ?_
  intro p e s m args below meth c s₁ B hml hv
  obtain ⟨rfl, ⟨hsz, hP, hK, hD0⟩, hxw, hxs⟩ := hv
  subst hsz
  have C : ZC p s m av.toArray meth c X (va_A w0 s.heap.size) maxL cc y.cls wsY ret := ⟨B.exec, B.bytes, hml, findClass_of_methodNamed B.named, atoms_spec (ws := wsY) B.pre, hK, fun q h => Or.inr h, B.notSynchronized, B.returns⟩
  have hT := vx_table (x := y) B (C.ts _ (by rw [hw]; exact List.mem_cons_self))
  have hl := lv_entry av (n := maxL) hnl
  rw [lg_entry_eq]
  exact body p e s m av.toArray below meth c _ _ C hxw hxs hT rfl s.heap [] _ hP hD0.self va_S.rf hl
/-- new En(text), thrown out of the method -/
theorem z_throw (C : ZC p s m args meth c X A nL cc own Ts ret) (hl : l.stackTraces = false) (hxw : xW s) (hxs : xS A s s.heap) (hT : ∀ x ∈ c.exceptionTable.toList, False) {mc ms : Nat} {w0 : va_W} {En : String} (hQ : ∃ Qc, Q = vx_MQ below Qc (xXC X A w0 En) args s mc ms A) {ik is ic : Nat} (text : String) (d0 : decode cc pc = .ok (.new ik, 3)) (d3 : decode cc (pc + 3) = .ok (.dup, 1)) (d4 : decode cc (pc + 4) = .ok (.ldc is, 2)) (d6 : decode cc (pc + 6) = .ok (.invokespecial ic, 3)) (d9 : decode cc (pc + 9) = .ok (.athrow, 1)) (hown : own = RX5) (hk : Cond.classLink own ik En ∈ Ts) (hini : Cond.initialized En ∈ Ts)
    (hsub : ∀ w ∈ (vx_atS own ic En ["java/lang/RuntimeException", "java/lang/Exception"]).filter goodWord, w ∈ Ts) (hB : ∀ w ∈ (vx_atS own ic En ["java/lang/RuntimeException", "java/lang/Exception"]).filter (fun w => !goodWord w), w ∈ (Cond.castable En En :: xUp.map (fun q => Cond.declares (Bundle.initS q)))) (hE : En ∈ xEs) (hst : (is, text) ∈ xStr)
    (hgood : ∀ w ∈ Cond.classLink own ik En :: Cond.initialized En :: vx_atS own ic En ["java/lang/RuntimeException", "java/lang/Exception"], vx_ot w = true) (hfit : Bundle.fit En = true) (hfr : 5 < R.frames) (hlo : (st.map fun v => v.category).sum + 82 ≤ R.locals) (hc : cells + 1 ≤ R.cells) (hs : slots + 6 ≤ R.slots) (hc2 : cells + 1 ≤ mc) (hs2 : slots + 6 ≤ ms) : Z p l e R s m args below meth c X A nL Q cells slots w0 lv pc st := by
  intro H locs ls hP hD hS hl9
  obtain ⟨Qc, rfl⟩ := hQ
  obtain ⟨sa, hsa⟩ := hxw.2.2.2 _ hst
  subst hown
  refine vx_throwS (names := ["java/lang/RuntimeException", "java/lang/Exception"]) (A := A) C.ex C.cb hl C.ow hfit (by decide) (C.ts _ hk) (C.ts _ hini) hsa (vx_hat (fun w h => C.ts w (hsub w h)) hB (fun w h => ?_)) hgood hxs.1 hxs.2 hS (by rw [C.ml]; exact hl9.1) d0 d3 d4 d6 d9 (fun x hx => absurd hx (hT x)) hfr hlo hc hs C.lo (fun t hv h1 h2 => ?_) (fun z hz => hS.2.2 z hz) hc2 hs2
  · rcases List.mem_cons.mp h with h | h
    · rw [h]
      exact va_Nw.use rfl (hxw.1 _ hE)
    · obtain ⟨q, hq, rfl⟩ := List.mem_map.mp h
      exact va_Nw.use rfl (hxw.2.1 q hq)
  · exact ⟨(), trivial, ⟨rfl, hP.kept (fun k q hk => h2 q.1 ((hP k q hk).lt)), va_K.moved hv C.hK, hD⟩, Nat.le_trans hS.1 h1, fun q hq hn => (h2 q (Nat.lt_of_lt_of_le hq hS.1)).trans (hS.2.1 q hq hn)⟩
/-- a static call over no cells, which throws; it goes on to the caller -/
theorem z_xS0 (C : ZC p s m args meth c X A nL cc own Ts ret) (hxw : xW s) (hxs : xS A s s.heap) (hT : ∀ x ∈ c.exceptionTable.toList, False) {mc ms : Nat} {w0 : va_W} {En : String} (hQ : ∃ Qc, Q = vx_MQ below Qc (xXC X A w0 En) args s mc ms A) {y : MethodName} {bytes : ByteArray} {ry : Option FieldType} {wsY ws9 : List Cond} {fr lo mc2 ms2 maxL index : Nat} {As rest : List Value} (hM : CXv l y wsY fr lo mc2 ms2 X [] As En) (g : GoodIn Ts (va_wsS own index y wsY)) (hw : wsY = Cond.code y bytes maxL ry :: ws9) (hd : y.cls ≠ "java/lang/invoke/MethodHandle" ∧ y.cls ≠ "java/lang/invoke/VarHandle" ∧ (parseMethodDescriptor y.desc).map (fun d => d.parameters.length) = some As.length) (hR : fr + 1 ≤ R.frames ∧ 8 + (maxL + 11) + lo ≤ R.locals) (hf : cells + mc2 ≤ R.cells ∧ slots + ms2 ≤ R.slots) (hst : (rest.map fun v => v.category).sum ≤ 8) (d : decode cc pc = .ok (.invokestatic index, 3)) (hs : st = As.reverse ++ rest) (hc2 : cells + mc2 ≤ mc) (hs2 : slots + ms2 ≤ ms) : Z p l e R s m args below meth c X A nL Q cells slots w0 lv pc st := by
  intro H locs ls hP hD hS hl
  obtain ⟨Qc, rfl⟩ := hQ
  subst hs
  have hPc : va_P X.1 vwCl [] H := fun k q h => by simp at h
  have hDc : va_D (fun _ => True) [] := ⟨fun i j p q h => by simp at h, fun k q h => by simp at h⟩
  have hA9 : ∀ q, va_A [] H.size q → H.size ≤ q := fun q h => by
    rcases h with ⟨k9, e9, h⟩ | h
    · simp at h
    · exact h
  have hFc : ∀ q, va_A [] H.size q → A q := fun q h => C.hA q (Nat.le_trans hS.1 (hA9 q h))
  refine vx_callv (vx_runS (As := As) (rest := rest) ⟨C.ex, C.cb, C.ml, C.ow, C.ts⟩ (hM H.size) (va_cwS As.length C.ts g hw rfl rfl hd hR) ⟨xPre_blind X [] H.size As, fun U hU hW => ⟨rfl, ⟨by rw [hU], by rw [hU]; exact hPc, va_K.moved hW.alike C.hK, hDc⟩, hxw.warm hW, hxs.at hS hFc hU hW.alike⟩⟩ rfl rfl hl.1 rfl (lv_room hst) d hf) hS (fun q _ h => hFc q h) hFc (fun q _ h => hFc q h) (fun E ce q9 u t H1 locs1 ht hvm _ hB hz1 hk1 hS1 hce hcv hcl => ?_) (fun u t H1 locs1 ht hvm hbad _ _ _ _ => absurd hbad id)
  have hP1 : va_P X.1 vwCl w0 H1 := hP.kept (fun k9 q9 h9 => hk1 q9.1 ((hP k9 q9 h9).lt) (fun z => absurd (hA9 _ z) (Nat.not_le.mpr ((hP k9 q9 h9).lt))))
  refine vx_out (fun x hx => absurd hx (hT x)) C.lo hce hcv hcl (fun t2 ht2 hv2 => ?_) (fun z hz => hS1.2.2 z hz) hc2 hs2
  exact ⟨(), trivial, ⟨hB.1, by rw [ht2]; exact hP1, va_K.moved hv2 C.hK, hD⟩, hS1.F ht2⟩
/-- a call over all cells, which throws; it goes on to the caller -/
theorem z_xV0 (C : ZC p s m args meth c X A nL cc own Ts ret) (hxw : xW s) (hxs : xS A s s.heap) (hT : ∀ x ∈ c.exceptionTable.toList, False) {mc ms : Nat} {w0 : va_W} {En : String} (hQ : ∃ Qc, Q = vx_MQ below Qc (xXC X A w0 En) args s mc ms A) {y : MethodName} {Cn : String} {b : Nat} {bytes : ByteArray} {ry : Option FieldType} {wsY ws9 : List Cond} {fr lo mc2 ms2 maxL index : Nat} {As rest : List Value} (hM : CXv l y wsY fr lo mc2 ms2 X w0 (.ref b :: As) En) (g : GoodIn Ts (wsV own index Cn y wsY)) (hw : wsY = Cond.code y bytes maxL ry :: ws9) (hd : y.cls = Cn ∧ y.cls ≠ "java/lang/invoke/MethodHandle" ∧ y.cls ≠ "java/lang/invoke/VarHandle" ∧ (parseMethodDescriptor y.desc).map (fun d => d.parameters.length) = some As.length) (hR : fr + 1 ≤ R.frames ∧ 8 + (maxL + 11) + lo ≤ R.locals) (hf : cells + mc2 ≤ R.cells ∧ slots + ms2 ≤ R.slots) {fs : List Value} {qc : u_T × Nat} (q0 ci : Nat) (hr : w0[q0]? = some (b, .inr (ci, fs))) (hrc : vwCl[ci]? = some (Cn, qc)) (hst : (rest.map fun v => v.category).sum ≤ 8) (d : decode cc pc = .ok (.invokevirtual index, 3)) (hs : st = As.reverse ++ .ref b :: rest) (hc2 : cells + mc2 ≤ mc) (hs2 : slots + ms2 ≤ ms) : Z p l e R s m args below meth c X A nL Q cells slots w0 lv pc st := by
  intro H locs ls hP hD hS hl
  obtain ⟨Qc, rfl⟩ := hQ
  subst hs
  have hFc : ∀ q, va_A w0 H.size q → A q := fun q h => by
    rcases h with ⟨k9, e9, h⟩ | h
    · exact hD.2 k9 (q, e9) h
    · exact C.hA q (Nat.le_trans hS.1 h)
  refine vx_callv (vx_runV (As := As) (rest := rest) ⟨C.ex, C.cb, C.ml, C.ow, C.ts⟩ (hM H.size) (cwV As.length C.ts g hw rfl rfl hd hR) ⟨xPre_blind X w0 H.size (.ref b :: As), va_recv C.hK hP hrc hr, fun U hU hW => ⟨rfl, ⟨by rw [hU], by rw [hU]; exact hP, va_K.moved hW.alike C.hK, hD.weaken (fun _ _ _ _ => trivial)⟩, hxw.warm hW, hxs.at hS hFc hU hW.alike⟩⟩ rfl rfl hl.1 rfl (lv_room hst) d hf) hS (fun q _ h => hFc q h) hFc (fun q _ h => hFc q h) (fun E ce q9 u t H1 locs1 ht hvm _ hB hz1 hk1 hS1 hce hcv hcl => ?_) (fun u t H1 locs1 ht hvm hbad _ _ _ _ => absurd hbad id)
  obtain ⟨hEn, hP1, hK1, hD1⟩ := hB
  rw [ht] at hP1
  refine vx_out (fun x hx => absurd hx (hT x)) C.lo hce hcv hcl (fun t2 ht2 hv2 => ?_) (fun z hz => hS1.2.2 z hz) hc2 hs2
  exact ⟨(), trivial, ⟨hEn, by rw [ht2]; exact hP1, va_K.moved hv2 C.hK, hD⟩, hS1.F ht2⟩
/-- a call that throws, caught here -/
theorem z_xci (C : ZC p s m args meth c X A nL cc own Ts ret) (hxw : xW s) (hxs : xS A s s.heap) {y : MethodName} {Cn : String} {b : Nat} {bytes : ByteArray} {ry : Option FieldType} {wsY ws9 : List Cond} {fr lo mc2 ms2 maxL index : Nat} {As rest : List Value} {wc : va_W} {En : String} (hM : CXi l y wsY fr lo mc2 ms2 X wc (.ref b :: As) En) (g : GoodIn Ts (wsV own index Cn y wsY)) (hw : wsY = Cond.code y bytes maxL ry :: ws9) (hd : y.cls = Cn ∧ y.cls ≠ "java/lang/invoke/MethodHandle" ∧ y.cls ≠ "java/lang/invoke/VarHandle" ∧ (parseMethodDescriptor y.desc).map (fun d => d.parameters.length) = some As.length) (hR : fr + 1 ≤ R.frames ∧ 8 + (maxL + 11) + lo ≤ R.locals) (hf : cells + mc2 ≤ R.cells ∧ slots + ms2 ≤ R.slots) {fs : List Value} {qc : u_T × Nat} (q0 ci : Nat) (hr : wc[q0]? = some (b, .inr (ci, fs))) (hrc : vwCl[ci]? = some (Cn, qc)) (isC isR perm : List Nat) (hC : isC.map (fun i => ws[i]?) = wc.map some) (hRr : isR.map (fun i => ws[i]?) = (isR.filterMap (fun i => ws[i]?)).map some) (hnC : va_nd isC = true) (hnR : va_nd isR = true) (hdis : ∀ i ∈ isR, i ∉ isC) (hnp : va_nd perm = true) (hp : perm.map (fun i => (isR.filterMap (fun i => ws[i]?) ++ wc)[i]?) = ws.map some) (hst : (rest.map fun v => v.category).sum ≤ 8) (d : decode cc pc = .ok (.invokevirtual index, 3)) (hs : st = As.reverse ++ .ref b :: rest)
    (pre : List ExceptionTableEntry) (x : ExceptionTableEntry) (suf : List ExceptionTableEntry) (hsplit : c.exceptionTable.toList = pre ++ x :: suf) (hpass : ∀ z ∈ pre, covers z pc = false ∨ (z.catchType ≠ 0 ∧ ∃ nm : String, (Cond.classLink own z.catchType nm).before args s = true ∧ va_Nc En nm s)) (hx : covers x pc = true) (h0 : x.catchType ≠ 0) (hlink : Cond.classLink own x.catchType En ∈ Ts) (hE : En ∈ xEs)
    (k : ∀ q : Nat, Z p l e R s m args below meth c X A nL Q (cells + mc2) (slots + ms2) ws lv x.handlerPc [.ref q]) : Z p l e R s m args below meth c X A nL Q cells slots ws lv pc st := by
  intro H locs ls hP hD hS hl
  subst hs
  have hPc := hP.sub (ws' := wc) isC (zfm hC)
  have hDc := hD.sub (ws' := wc) isC hnC hC
  have hFc := va_free (wc := wc) hD hS C.hA isC hC
  refine vx_calli (vx_runV (As := As) (rest := rest) ⟨C.ex, C.cb, C.ml, C.ow, C.ts⟩ (hM H.size) (cwV As.length C.ts g hw rfl rfl hd hR) ⟨xPre_blind X wc H.size (.ref b :: As), va_recv C.hK hPc hrc hr, fun U hU hW => ⟨rfl, ⟨by rw [hU], by rw [hU]; exact hPc, va_K.moved hW.alike C.hK, hDc.weaken (fun _ _ _ _ => trivial)⟩, hxw.warm hW, hxs.at hS hFc hU hW.alike⟩⟩ rfl rfl hl.1 rfl (lv_room hst) d hf) hS (fun q _ h => hFc q h) hFc (fun q _ h => hFc q h) (fun E ce q9 u t H1 locs1 ht hvm _ hB hz1 hk1 hS1 hce hcv hcl => ?_) (fun r u t H1 locs1 ht hvm hbad _ _ _ _ => absurd hbad id)
  obtain ⟨rfl, hP1, hK1, hD1⟩ := hB
  rw [ht] at hP1
  obtain ⟨hP2, hD2⟩ := va_join hP hD isC isR hC hRr hnR hdis hk1 hFc hP1 hD1
  exact vx_catch C.ow pre x suf hsplit hpass hx h0 (C.ts _ hlink) (va_Nw.use rfl (hxw.1 _ hE)) hce hcv hcl (k q9 H1 locs1 ls (hP2.sub perm (zfm hp)) (hD2.sub perm hnp hp) hS1 hl)
/-- a call that throws, caught here -/
theorem z_xcv (C : ZC p s m args meth c X A nL cc own Ts ret) (hxw : xW s) (hxs : xS A s s.heap) {y : MethodName} {Cn : String} {b : Nat} {bytes : ByteArray} {ry : Option FieldType} {wsY ws9 : List Cond} {fr lo mc2 ms2 maxL index : Nat} {As rest : List Value} {wc : va_W} {En : String} (hM : CXv l y wsY fr lo mc2 ms2 X wc (.ref b :: As) En) (g : GoodIn Ts (wsV own index Cn y wsY)) (hw : wsY = Cond.code y bytes maxL ry :: ws9) (hd : y.cls = Cn ∧ y.cls ≠ "java/lang/invoke/MethodHandle" ∧ y.cls ≠ "java/lang/invoke/VarHandle" ∧ (parseMethodDescriptor y.desc).map (fun d => d.parameters.length) = some As.length) (hR : fr + 1 ≤ R.frames ∧ 8 + (maxL + 11) + lo ≤ R.locals) (hf : cells + mc2 ≤ R.cells ∧ slots + ms2 ≤ R.slots) {fs : List Value} {qc : u_T × Nat} (q0 ci : Nat) (hr : wc[q0]? = some (b, .inr (ci, fs))) (hrc : vwCl[ci]? = some (Cn, qc)) (isC isR perm : List Nat) (hC : isC.map (fun i => ws[i]?) = wc.map some) (hRr : isR.map (fun i => ws[i]?) = (isR.filterMap (fun i => ws[i]?)).map some) (hnC : va_nd isC = true) (hnR : va_nd isR = true) (hdis : ∀ i ∈ isR, i ∉ isC) (hnp : va_nd perm = true) (hp : perm.map (fun i => (isR.filterMap (fun i => ws[i]?) ++ wc)[i]?) = ws.map some) (hst : (rest.map fun v => v.category).sum ≤ 8) (d : decode cc pc = .ok (.invokevirtual index, 3)) (hs : st = As.reverse ++ .ref b :: rest)
    (pre : List ExceptionTableEntry) (x : ExceptionTableEntry) (suf : List ExceptionTableEntry) (hsplit : c.exceptionTable.toList = pre ++ x :: suf) (hpass : ∀ z ∈ pre, covers z pc = false ∨ (z.catchType ≠ 0 ∧ ∃ nm : String, (Cond.classLink own z.catchType nm).before args s = true ∧ va_Nc En nm s)) (hx : covers x pc = true) (h0 : x.catchType ≠ 0) (hlink : Cond.classLink own x.catchType En ∈ Ts) (hE : En ∈ xEs)
    (k : ∀ q : Nat, Z p l e R s m args below meth c X A nL Q (cells + mc2) (slots + ms2) ws lv x.handlerPc [.ref q]) : Z p l e R s m args below meth c X A nL Q cells slots ws lv pc st := by
  intro H locs ls hP hD hS hl
  subst hs
  have hPc := hP.sub (ws' := wc) isC (zfm hC)
  have hDc := hD.sub (ws' := wc) isC hnC hC
  have hFc := va_free (wc := wc) hD hS C.hA isC hC
  refine vx_callv (vx_runV (As := As) (rest := rest) ⟨C.ex, C.cb, C.ml, C.ow, C.ts⟩ (hM H.size) (cwV As.length C.ts g hw rfl rfl hd hR) ⟨xPre_blind X wc H.size (.ref b :: As), va_recv C.hK hPc hrc hr, fun U hU hW => ⟨rfl, ⟨by rw [hU], by rw [hU]; exact hPc, va_K.moved hW.alike C.hK, hDc.weaken (fun _ _ _ _ => trivial)⟩, hxw.warm hW, hxs.at hS hFc hU hW.alike⟩⟩ rfl rfl hl.1 rfl (lv_room hst) d hf) hS (fun q _ h => hFc q h) hFc (fun q _ h => hFc q h) (fun E ce q9 u t H1 locs1 ht hvm _ hB hz1 hk1 hS1 hce hcv hcl => ?_) (fun u t H1 locs1 ht hvm hbad _ _ _ _ => absurd hbad id)
  obtain ⟨rfl, hP1, hK1, hD1⟩ := hB
  rw [ht] at hP1
  obtain ⟨hP2, hD2⟩ := va_join hP hD isC isR hC hRr hnR hdis hk1 hFc hP1 hD1
  exact vx_catch C.ow pre x suf hsplit hpass hx h0 (C.ts _ hlink) (va_Nw.use rfl (hxw.1 _ hE)) hce hcv hcl (k q9 H1 locs1 ls (hP2.sub perm (zfm hp)) (hD2.sub perm hnp hp) hS1 hl)
/-- a static call of a method with a table of its own, which returns -/
theorem z_cE (C : ZC p s m args meth c X A nL cc own Ts ret) (hxw : xW s) (hxs : xS A s s.heap) {y : MethodName} {bytes : ByteArray} {ry : Option FieldType} {hh : List (Nat × Nat × Nat × Nat)} {wsY ws9 : List Cond} {fr lo mc2 ms2 maxL index : Nat} {As rest : List Value} {wc : va_W} {r : Int32} {w1 : va_W} (hM : CE l y wsY fr lo mc2 ms2 X wc As r w1) (g : GoodIn Ts (va_wsS own index y wsY)) (hw : wsY = Cond.codeWith y bytes maxL ry hh :: ws9) (hd : y.cls ≠ "java/lang/invoke/MethodHandle" ∧ y.cls ≠ "java/lang/invoke/VarHandle" ∧ (parseMethodDescriptor y.desc).map (fun d => d.parameters.length) = some As.length) (hR : fr + 1 ≤ R.frames ∧ 8 + (maxL + 11) + lo ≤ R.locals) (hf : cells + mc2 ≤ R.cells ∧ slots + ms2 ≤ R.slots) (isC isR perm : List Nat) (hC : isC.map (fun i => ws[i]?) = wc.map some) (hRr : isR.map (fun i => ws[i]?) = (isR.filterMap (fun i => ws[i]?)).map some) (hnC : va_nd isC = true) (hnR : va_nd isR = true) (hdis : ∀ i ∈ isR, i ∉ isC) (hnp : va_nd perm = true) (w2 : va_W) (hp : perm.map (fun i => (isR.filterMap (fun i => ws[i]?) ++ w1)[i]?) = w2.map some) (hst : (rest.map fun v => v.category).sum ≤ 8) (d : decode cc pc = .ok (.invokestatic index, 3)) (hs : st = As.reverse ++ rest) (k : Z p l e R s m args below meth c X A nL Q (cells + mc2) (slots + ms2) w2 lv (pc + 3) (.int r :: rest)) : Z p l e R s m args below meth c X A nL Q cells slots ws lv pc st := by
  intro H locs ls hP hD hS hl
  subst hs
  have hPc := hP.sub (ws' := wc) isC (zfm hC)
  have hDc := hD.sub (ws' := wc) isC hnC hC
  have hFc := va_free (wc := wc) hD hS C.hA isC hC
  refine va_calli (vx_runSW (As := As) (rest := rest) ⟨C.ex, C.cb, C.ml, C.ow, C.ts⟩ (hM H.size) (vx_cwSW As.length C.ts g hw rfl rfl hd hR) ⟨xPre_blind X wc H.size As, fun U hU hW => ⟨rfl, ⟨by rw [hU], by rw [hU]; exact hPc, va_K.moved hW.alike C.hK, hDc.weaken (fun _ _ _ _ => trivial)⟩, hxw.warm hW, hxs.at hS hFc hU hW.alike⟩⟩ rfl rfl hl.1 rfl (lv_room hst) d hf) hS (fun q _ h => hFc q h) hFc (fun r9 u t H1 locs1 ht hvm hw1 hB hz1 hk1 hS1 => ?_)
  obtain ⟨hP1, hK1, hD1⟩ := hB
  rw [ht] at hP1
  obtain ⟨hP2, hD2⟩ := va_join hP hD isC isR hC hRr hnR hdis hk1 hFc hP1 hD1
  subst hw1
  exact k H1 locs1 ls (hP2.sub perm (zfm hp)) (hD2.sub perm hnp hp) hS1 hl
end XM
