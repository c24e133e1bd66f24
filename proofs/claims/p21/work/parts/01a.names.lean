/-! ===== BEGIN words of one list among another's, by their places ===== -/
theorem goodIn_r {big : List Cond} (ws : List Cond) (ps : List Nat) (hp : ws = ps.filterMap (fun i => big[i]?)) (h : ws.all goodWord = true) : GoodIn big ws := by
  intro w hw
  have h1 := List.all_eq_true.mp h w hw
  rw [hp] at hw
  obtain ⟨i, -, hi⟩ := List.mem_filterMap.mp hw
  have hm : w ∈ big := by first | exact List.mem_of_getElem? hi | exact List.getElem?_mem hi
  exact ⟨hm, good_of_word h1⟩
theorem goodIn_app {big a b : List Cond} (ha : GoodIn big a) (hb : GoodIn big b) : GoodIn big (a ++ b) := fun w h => (List.mem_append.mp h).elim (ha w) (hb w)
theorem goodIn_ca {big a b : List Cond} {c : Cond} (ha : GoodIn big (c :: a)) (hb : GoodIn big b) : GoodIn big (c :: (a ++ b)) := fun w h => (List.mem_cons.mp h).elim (fun e => ha w (List.mem_cons.mpr (Or.inl e))) (fun h => (List.mem_append.mp h).elim (fun h => ha w (List.mem_cons.mpr (Or.inr h))) (hb w))
theorem goodIn_sub {big ws : List Cond} (hm : ∀ w ∈ ws, w ∈ big) (h : ws.all goodWord = true) : GoodIn big ws := fun w hw => ⟨hm w hw, good_of_word (List.all_eq_true.mp h w hw)⟩
/-! ===== END ===== -/

/-! ===== BEGIN exceptions that leave a method, and their catching by the caller (launches without stack traces) ===== -/
section VXA
/-! The laws vx_back, vx_callV, vx_callS, vx_callSW, vx_throw0, vx_throwS follow proofs of the library, with one case more: JvmDerived/Free/Laws.lean (Back.of_free), Shelf42/LK1.lean (callV, callS), Shelf/KitTraced.lean (throwNew0V, throwNewS). -/
/-- where a method has thrown q: the class by its name, the cell, what was written, the world -/
def vx_T (XC : String → State → State → Prop) (st : State) (q : Addr) (t : State) (mc ms : Nat) (free : Addr → Prop) : Prop :=
  ∃ (E : String) (ce : Cell) (L : List Loc), XC E st t ∧ t.heap[q]? = some ce ∧ ce.vm = .none ∧ st.vm.findClass E = some ce.cls ∧ st.WarmedH t.vm ∧ st.sameButNew ({ t with vm := st.vm } : State) L mc ms ∧ ∀ z ∈ L, free z.base
def vx_Q (Qc : Array Value → State → Outcome → State → Prop) (XC : String → State → State → Prop) (mc ms : Nat) (free : Addr → Prop) : Array Value → State → Outcome → State → Prop := fun a st o t =>
  (Qc a st o t ∧ ∃ L, FrameEnd st o t L mc ms ∧ ∀ q ∈ L, free q.base) ∨ ∃ q, o = .threw q ∧ vx_T XC st q t mc ms free
/-- a callee that returns or throws -/
def vx_Met (l : Launch) (y : MethodName) (ws : List Cond) (rm : Room) (Pc : Array Value → State → Prop) (Qc : Array Value → State → Outcome → State → Prop) (XC : String → State → State → Prop) (mc ms : Nat) (free : Addr → Prop) : Prop :=
  MetFree l y (headSpec ws rm) Pc (fun _ _ _ _ _ => True) (vx_Q Qc XC mc ms free)
def vx_Post (XC : String → State → State → Prop) (mc ms : Nat) (free : Addr → Prop) : Pt → Array Value → Addr → Pt → Prop := fun A a q B =>
  ∃ (g : JFrame) (mk : MethodId) (t : State) (L : List Loc) (E : String) (ce : Cell), B.U.heap = t.heap ∧ B.U.vm = t.vm ∧ XC E (A.U.calling g mk a) t ∧ t.heap[q]? = some ce ∧ ce.vm = .none ∧ A.U.vm.findClass E = some ce.cls ∧ B.locs = A.locs ++ L ∧ (∀ z ∈ L, free z.base) ∧ B.cells = A.cells + mc ∧ B.slots = A.slots + ms
def vx_Back (l : Launch) (R : Room) (p : Program) (e : Env) (below : List Frame) (s : State) (sargs : Array Value) (y : MethodName) (len W9 : Nat)
    (Pre : Pt → Array Value → Prop) (Post : Pt → Array Value → Option Value → Pt → Prop) (PostX : Pt → Array Value → Addr → Pt → Prop) : Prop :=
  ∀ (m : MethodId) (meth : Method) (c : Code) (A : Pt) (g : JFrame) (ig : Instr) (mk : MethodId) (a : Array Value),
    Stand p l e R s m sargs below meth c A.U A.locs A.cells A.slots → g.method = m → g.locals.size = c.maxLocals → decode c.code g.pc = .ok (ig, len) →
    2 * g.monitorRoom + (g.stack.map fun v => v.category).sum ≤ W9 → A.U.methodNamed? y = some mk → Pre A a →
    (∃ (v : Option Value) (B : Pt), Stand p l e R s m sargs below meth c B.U B.locs B.cells B.slots ∧ Post A a v B ∧
      Steps p.tables e below (doInvoke e (A.U.setTop g) [] mk a).1 (B.U.setTop { g with pc := g.pc + len, stack := v.toList ++ g.stack })) ∨
    (∃ (q : Addr) (B : Pt), Stand p l e R s m sargs below meth c B.U B.locs B.cells B.slots ∧ PostX A a q B ∧
      Steps p.tables e below (doInvoke e (A.U.setTop g) [] mk a).1 ((B.U.setTop g).pushFrame (.throwing q)))
section Payer
variable {l : Launch} {R : Room} {p : Program} {e : Env} {below : List Frame} {s : State} {sargs : Array Value} {y : MethodName} {len W9 : Nat}
theorem vx_back {ws : List Cond} {rm : Room} {Pc : Array Value → State → Prop} {Qc : Array Value → State → Outcome → State → Prop} {XC : String → State → State → Prop} {mc ms : Nat} {free : Addr → Prop} {bytes : ByteArray} {maxL : Nat} {ret : Option FieldType}
    (hM : vx_Met l y ws rm Pc Qc XC mc ms free) (hblind : FrameBlind Pc) (hrc : rm.cells = mc) (hrs : rm.slots = ms)
    (hframes : rm.frames + 1 ≤ R.frames) (hlocals : W9 + (maxL + 11) + rm.locals ≤ R.locals)
    (hws : ∀ w ∈ ws, ∀ a' U, s.WarmedH U.vm → w.before a' U = true) (hcode : Cond.code y bytes maxL ret ∈ ws) (hinit : ∀ a' U, s.WarmedH U.vm → (Cond.initialized y.cls).before a' U = true) :
    vx_Back l R p e below s sargs y len W9 (PreOf R mc ms Pc) (PostOf Qc mc ms free) (vx_Post XC mc ms free) := by
  intro m meth c A g ig mk a X hg hsize hdg hW hn hp
  have h1 : (headSpec ws rm).pre.before a A.U = true := atoms_intro fun w hw => hws w hw _ _ X.warmed
  have h2 : (Cond.code y bytes maxL ret).before a A.U = true := hws _ hcode _ _ X.warmed
  have h3 : (Cond.initialized y.cls).before a A.U = true := hinit _ _ X.warmed
  have h4 : A.cells + (headSpec ws rm).room.cells ≤ R.cells := by rw [show (headSpec ws rm).room.cells = mc from hrc]; exact hp.1
  have h5 : A.slots + (headSpec ws rm).room.slots ≤ R.slots := by rw [show (headSpec ws rm).room.slots = ms from hrs]; exact hp.2.1
  have hPc : Pc a (A.U.calling g mk a) := hblind _ _ _ _ hp.2.2
  obtain ⟨U, Ls, c0, s0⟩ := A
  dsimp only [Pt.U, Pt.locs, Pt.cells, Pt.slots] at h1 h2 h3 h4 h5 X hn hPc ⊢
  obtain ⟨methY, cY, hmY, hcY, -, hlY, -, -, -, -⟩ := Cond.code_spec hn h2
  obtain ⟨kY, hkY, -⟩ := className_of_methodNamed hn
  have hinitY : kY.init = .initialized := Cond.initialized_spec (findClass_of_methodNamed hn) hkY h3
  have h : At U g.method c below := by rw [hg]; exact X.here
  have hlocals9 : W9 + (maxL + 11) + (headSpec ws rm).room.locals ≤ R.locals := hlocals
  have happ : (headSpec ws rm).appliesLoose y e.platform (U.calling g mk a) = true :=
    Spec.appliesLoose_calling (g := g) h hdg hn hkY hinitY
      (X.room_calling (g := g) (R' := (headSpec ws rm).room) hsize hmY hcY hframes (by rw [hlY]; omega) h4 h5) h1
  obtain ⟨mid, hmid⟩ := h.above
  have hfr : (U.setTop g).frames = (.java g :: mid) ++ below := by rw [State.frames_setTop' g h.top, hmid]; rfl
  obtain ⟨o, s₂, hsteps, -, hend, hq⟩ := Steps.callFree hM p X.admits X.cas X.clock (acts := []) hfr happ hPc trivial
  have hq' : vx_Q Qc XC mc ms free a (U.calling g mk a) o s₂ := hq
  rw [State.frames_setTop' g h.top] at hend
  obtain ⟨g₀, hg0⟩ := Option.isSome_iff_exists.mp h.top
  obtain ⟨r, hr⟩ := State.topJava?_eq_some.mp hg0
  have hr' : (({ U with heap := s₂.heap, slotsUsed := s₂.slotsUsed } : State).setVm s₂.vm).frames = .java g₀ :: r := hr
  rcases hq' with ⟨hqc, L, hfe, hL⟩ | ⟨q, rfl, E, ce, L, hx, hce, hcv, hcl, hW₂, hsm, hL⟩
  · obtain ⟨⟨v, rfl⟩, hW₂, e2, q2, q3, q4, q5, q6⟩ := id hfe
    have e3 : s₂ = ({ (U.calling g mk a).setFrames s₂.frames with heap := s₂.heap, slotsUsed := s₂.slotsUsed } : State).setVm s₂.vm := by
      have : s₂ = ({ s₂ with vm := (U.calling g mk a).vm } : State).setVm s₂.vm := rfl
      rw [e2] at this
      exact this
    obtain ⟨c₂, i₂, len₂, hc₂, hd₂, hf₂⟩ := hend
    have hW' : U.WarmedH s₂.vm := hW₂
    have hcc : c₂ = c := by
      have h1 : s₂.code? g.method = U.code? g.method := by
        rw [State.code?_eq, State.code?_eq, hW'.alike.method?]
      exact Option.some.inj (hc₂.symm.trans (h1.trans h.code))
    subst hcc
    have hlen : len₂ = len := by rw [hdg] at hd₂; cases hd₂; rfl
    subst hlen
    have hs₂ : s₂ = (({ U with heap := s₂.heap, slotsUsed := s₂.slotsUsed } : State).setVm s₂.vm).setTop { g with pc := g.pc + len₂, stack := v.toList ++ g.stack } := by
      refine e3.trans ?_
      rw [hf₂, State.calling_eq h.top, State.setFrames_setFrames, State.setTop_of_frames _ hr', hr]
      rfl
    have hsame : U.sameButNew ({ U with heap := s₂.heap, slotsUsed := s₂.slotsUsed } : State) L mc ms := by
      refine ⟨?_, q2, q3, q4, q5, q6⟩
      obtain ⟨t, ht, -⟩ := State.frames_cons hr
      show ({ U with heap := s₂.heap, slotsUsed := s₂.slotsUsed } : State) = { U.setFrames U.frames with heap := s₂.heap, slotsUsed := s₂.slotsUsed }
      rw [State.setFrames_self ht]
    subst hg
    refine Or.inl ⟨v, ⟨(({ U with heap := s₂.heap, slotsUsed := s₂.slotsUsed } : State).setVm s₂.vm), Ls ++ L, c0 + mc, s0 + ms⟩,
      ⟨X.admits, X.cas, X.clock, X.frames, X.room, X.hears, X.method, X.code, (X.here.setHeapUsed s₂.heap s₂.slotsUsed).setVm hW'.alike, X.tail, State.WarmedH.trans X.warmed hW', X.limits, X.bytes, X.same.trans (hsame.setVm s.vm)⟩,
      ⟨g, mk, s₂, L, rfl, rfl, hqc, rfl, hL, rfl, rfl⟩, ?_⟩
    show Steps p.tables e below _ ((({ U with heap := s₂.heap, slotsUsed := s₂.slotsUsed } : State).setVm s₂.vm).setTop { g with pc := g.pc + len₂, stack := v.toList ++ g.stack })
    rw [← hs₂]
    exact hsteps
  · obtain ⟨e2, q2, q3, q4, q5, q6⟩ := id hsm
    have e3 : s₂ = ({ (U.calling g mk a).setFrames s₂.frames with heap := s₂.heap, slotsUsed := s₂.slotsUsed } : State).setVm s₂.vm := by
      have : s₂ = ({ s₂ with vm := (U.calling g mk a).vm } : State).setVm s₂.vm := rfl
      rw [e2] at this
      exact this
    have hf₂ : s₂.frames = .throwing q :: .java g :: U.frames.tail := hend
    have hW' : U.WarmedH s₂.vm := hW₂
    have hs₂ : s₂ = ((({ U with heap := s₂.heap, slotsUsed := s₂.slotsUsed } : State).setVm s₂.vm).setTop g).pushFrame (.throwing q) := by
      refine e3.trans ?_
      rw [hf₂, State.calling_eq h.top, State.setFrames_setFrames, State.pushFrame, State.frames_setTop _ hr', State.setTop_of_frames _ hr', State.setFrames_setFrames, hr]
      rfl
    have hsame : U.sameButNew ({ U with heap := s₂.heap, slotsUsed := s₂.slotsUsed } : State) L mc ms := by
      refine ⟨?_, q2, q3, q4, q5, q6⟩
      obtain ⟨t, ht, -⟩ := State.frames_cons hr
      show ({ U with heap := s₂.heap, slotsUsed := s₂.slotsUsed } : State) = { U.setFrames U.frames with heap := s₂.heap, slotsUsed := s₂.slotsUsed }
      rw [State.setFrames_self ht]
    subst hg
    refine Or.inr ⟨q, ⟨(({ U with heap := s₂.heap, slotsUsed := s₂.slotsUsed } : State).setVm s₂.vm), Ls ++ L, c0 + mc, s0 + ms⟩,
      ⟨X.admits, X.cas, X.clock, X.frames, X.room, X.hears, X.method, X.code, (X.here.setHeapUsed s₂.heap s₂.slotsUsed).setVm hW'.alike, X.tail, State.WarmedH.trans X.warmed hW', X.limits, X.bytes, X.same.trans (hsame.setVm s.vm)⟩,
      ⟨g, mk, s₂, L, E, ce, rfl, rfl, hx, hce, hcv, hcl, rfl, hL, rfl, rfl⟩, ?_⟩
    show Steps p.tables e below _ (((({ U with heap := s₂.heap, slotsUsed := s₂.slotsUsed } : State).setVm s₂.vm).setTop g).pushFrame (.throwing q))
    rw [← hs₂]
    exact hsteps
end Payer
section Calls
variable {p : Program} {l : Launch} {e : Env} {R : Room} {s : State} {m : MethodId} {args : Array Value} {below : List Frame} {meth : Method} {c : Code} {T : State} {locs : List Loc} {cells slots : Nat}
theorem vx_callV (X : Stand p l e R s m args below meth c T locs cells slots) (hexec : p.tables.exec = Jvm.exec) {own C : String} {index : Nat} {y : MethodName} {bytes : ByteArray} {maxL : Nat} {ret : Option FieldType}
    (hown : s.vm.findClass own = some m.cls) (hlink : (Cond.methodLink own index y).before args s = true) (hinst : (Cond.instanceMethod y).before args s = true) (hsel : (Cond.selects C y y).before args s = true)
    (hcode : (Cond.code y bytes maxL ret).before args s = true) (hy : y.cls ≠ "java/lang/invoke/MethodHandle" ∧ y.cls ≠ "java/lang/invoke/VarHandle")
    {W9 : Nat} {Pre : Pt → Array Value → Prop} {Post : Pt → Array Value → Option Value → Pt → Prop} {PostX : Pt → Array Value → Addr → Pt → Prop} (hK : vx_Back l R p e below s args y 3 W9 Pre Post PostX)
    {b : Addr} {cellB : Cell} (hcell : T.heap[b]? = some cellB) (hobj : cellB.vm.isStatics = false) (hcls : s.vm.findClass C = some cellB.cls)
    {g : JFrame} (hg : g.method = m) (hsize : g.locals.size = c.maxLocals) {argsL rest : List Value} (hlen : ∀ sig, parseMethodDescriptor y.desc = some sig → argsL.length = sig.parameters.length)
    (hstack : g.stack = argsL.reverse ++ .ref b :: rest) (hW : 2 * g.monitorRoom + (rest.map fun v => v.category).sum ≤ W9) (hdg : decode c.code g.pc = .ok (.invokevirtual index, 3))
    (hpre : ∀ vm₁, s.WarmedH vm₁ → Pre ⟨T.setVm vm₁, locs, cells, slots⟩ (Value.ref b :: argsL).toArray) :
    (∃ (v : Option Value) (vm₁ : Vm) (B : Pt), s.WarmedH vm₁ ∧ Stand p l e R s m args below meth c B.U B.locs B.cells B.slots ∧ Post ⟨T.setVm vm₁, locs, cells, slots⟩ (Value.ref b :: argsL).toArray v B ∧
      ∀ target, Steps p.tables e below (B.U.setTop { g with pc := g.pc + 3, stack := v.toList ++ rest }) target → Steps p.tables e below (T.setTop g) target) ∨
    (∃ (q : Addr) (vm₁ : Vm) (B : Pt), s.WarmedH vm₁ ∧ Stand p l e R s m args below meth c B.U B.locs B.cells B.slots ∧ PostX ⟨T.setVm vm₁, locs, cells, slots⟩ (Value.ref b :: argsL).toArray q B ∧
      Steps p.tables e below (T.setTop g) ((B.U.setTop { g with stack := rest }).pushFrame (.throwing q))) := by
  obtain ⟨mk, methM, hnamed, hmethM, hstM, habM⟩ := Cond.instanceMethod_spec hinst
  obtain ⟨methM', cM, hmethM', -, -, -, -, -, -, hsigM⟩ := Cond.code_spec hnamed hcode
  cases hmethM.symm.trans hmethM'
  obtain ⟨c2, r2, m2, q1, q2, q3, q4, kP, hkP, hkPi⟩ := Cond.selects_spec hsel
  cases hcls.symm.trans q1
  cases (State.methodFound?_of_named hnamed hy).symm.trans q2
  cases hnamed.symm.trans q3
  have hselP : selectMethod e.platform s.vm cellB.cls mk = .method mk := by rw [Launch.admits_selectMethod X.admits]; exact q4
  obtain ⟨vm₁, X₁, hstep₁⟩ := X.invokevirtual hexec hown hlink hnamed hmethM hstM hkP hkPi hy (a := b) (cell := cellB) hcell
    (fun z h => by rw [h] at hobj; cases hobj) hselP hmethM habM hkP hkPi (g := g) hg (argsL := argsL) (rest := rest) (hlen _ hsigM) hstack hdg
  rcases hK m meth c ⟨T.setVm vm₁, locs, cells, slots⟩ { g with stack := rest } (.invokevirtual index) mk (Value.ref b :: argsL).toArray X₁ hg hsize hdg hW (X₁.named hnamed) (hpre vm₁ X₁.warmed) with ⟨v, B, X', hpost, hsteps⟩ | ⟨q, B, X', hpost, hsteps⟩
  · exact Or.inl ⟨v, vm₁, B, X₁.warmed, X', hpost, fun target h => hstep₁ _ fun acts => by rw [doInvoke_state]; exact hsteps.trans h⟩
  · exact Or.inr ⟨q, vm₁, B, X₁.warmed, X', hpost, hstep₁ _ fun acts => by rw [doInvoke_state]; exact hsteps⟩
theorem vx_callS (X : Stand p l e R s m args below meth c T locs cells slots) (hexec : p.tables.exec = Jvm.exec) {own : String} {index : Nat} {y : MethodName} {bytes : ByteArray} {maxL : Nat} {ret : Option FieldType}
    (hown : s.vm.findClass own = some m.cls) (hlink : (Cond.methodLink own index y).before args s = true) (hstat : (Cond.static y).before args s = true) (hinit : (Cond.initialized y.cls).before args s = true)
    (hcode : (Cond.code y bytes maxL ret).before args s = true) (hy : y.cls ≠ "java/lang/invoke/MethodHandle" ∧ y.cls ≠ "java/lang/invoke/VarHandle")
    {W9 : Nat} {Pre : Pt → Array Value → Prop} {Post : Pt → Array Value → Option Value → Pt → Prop} {PostX : Pt → Array Value → Addr → Pt → Prop} (hK : vx_Back l R p e below s args y 3 W9 Pre Post PostX)
    {g : JFrame} (hg : g.method = m) (hsize : g.locals.size = c.maxLocals) {argsL rest : List Value} (hlen : ∀ sig, parseMethodDescriptor y.desc = some sig → argsL.length = sig.parameters.length)
    (hstack : g.stack = argsL.reverse ++ rest) (hW : 2 * g.monitorRoom + (rest.map fun v => v.category).sum ≤ W9) (hdg : decode c.code g.pc = .ok (.invokestatic index, 3))
    (hpre : ∀ vm₁, s.WarmedH vm₁ → Pre ⟨T.setVm vm₁, locs, cells, slots⟩ argsL.toArray) :
    (∃ (v : Option Value) (vm₁ : Vm) (B : Pt), s.WarmedH vm₁ ∧ Stand p l e R s m args below meth c B.U B.locs B.cells B.slots ∧ Post ⟨T.setVm vm₁, locs, cells, slots⟩ argsL.toArray v B ∧
      ∀ target, Steps p.tables e below (B.U.setTop { g with pc := g.pc + 3, stack := v.toList ++ rest }) target → Steps p.tables e below (T.setTop g) target) ∨
    (∃ (q : Addr) (vm₁ : Vm) (B : Pt), s.WarmedH vm₁ ∧ Stand p l e R s m args below meth c B.U B.locs B.cells B.slots ∧ PostX ⟨T.setVm vm₁, locs, cells, slots⟩ argsL.toArray q B ∧
      Steps p.tables e below (T.setTop g) ((B.U.setTop { g with stack := rest }).pushFrame (.throwing q))) := by
  obtain ⟨mk, hnamed⟩ := Cond.code_named hcode
  obtain ⟨methM, cM, hmethM, -, -, -, -, -, -, hsigM⟩ := Cond.code_spec hnamed hcode
  have hstatic : methM.isStatic = true := Cond.static_spec hnamed hmethM hstat
  obtain ⟨kP, hkP, -⟩ := className_of_methodNamed hnamed
  have hinitP : kP.init = .initialized := Cond.initialized_spec (findClass_of_methodNamed hnamed) hkP hinit
  obtain ⟨vm₁, X₁, hstep₁⟩ := X.invokestatic hexec hown hlink hnamed hmethM hstatic hkP hinitP hy (g := g) hg (argsL := argsL) (rest := rest) (hlen _ hsigM) hstack hdg
  rcases hK m meth c ⟨T.setVm vm₁, locs, cells, slots⟩ { g with stack := rest } (.invokestatic index) mk argsL.toArray X₁ hg hsize hdg hW (X₁.named hnamed) (hpre vm₁ X₁.warmed) with ⟨v, B, X', hpost, hsteps⟩ | ⟨q, B, X', hpost, hsteps⟩
  · exact Or.inl ⟨v, vm₁, B, X₁.warmed, X', hpost, fun target h => hstep₁ _ fun acts => by rw [doInvoke_state]; exact hsteps.trans h⟩
  · exact Or.inr ⟨q, vm₁, B, X₁.warmed, X', hpost, hstep₁ _ fun acts => by rw [doInvoke_state]; exact hsteps⟩
end Calls
theorem vx_cls {s : State} {T : State} {vm₁ : Vm} {E : String} {k : ClassId} (hW : s.WarmedH vm₁) (h : (T.setVm vm₁).vm.findClass E = some k) : s.vm.findClass E = some k := by
  have h1 : vm₁.findClass E = some k := h
  rw [hW.alike.findClass] at h1
  exact h1
/-- the method's frame g, with q thrown over it -/
def vx_W (p : Program) (l : Launch) (e : Env) (R : Room) (s : State) (m : MethodId) (args : Array Value) (below : List Frame) (meth : Method) (c : Code) (H : Heap) (locs : List Loc) (cells slots : Nat) (Q : State → Prop) (g : JFrame) (q : Addr) : Prop :=
  ∀ T : State, T.heap = H → Stand p l e R s m args below meth c T locs cells slots → ∃ t, Steps p.tables e below ((T.setTop g).pushFrame (.throwing q)) t ∧ Q t
def vx_Run (p : Program) (l : Launch) (e : Env) (R : Room) (s : State) (m : MethodId) (args : Array Value) (below : List Frame) (meth : Method) (c : Code) (H : Heap) (locs : List Loc) (cells slots mc ms : Nat) (g : JFrame) (rest : List Value) (Qa : State → Outcome → State → Prop) (XC : String → State → State → Prop) (free : Addr → Prop) : Prop :=
  ∀ T : State, T.heap = H → Stand p l e R s m args below meth c T locs cells slots →
    (∃ (v : Option Value) (st₀ t T' : State) (L : List Loc), st₀.heap = H ∧ Stand p l e R s m args below meth c T' (locs ++ L) (cells + mc) (slots + ms) ∧ (∀ q ∈ L, free q.base) ∧ T'.heap = t.heap ∧ T'.vm = t.vm ∧ Qa st₀ (.returned v) t ∧
      Goes p e below T g T' { g with pc := g.pc + 3, stack := v.toList ++ rest }) ∨
    (∃ (q : Addr) (st₀ t T' : State) (L : List Loc) (E : String) (ce : Cell), st₀.heap = H ∧ Stand p l e R s m args below meth c T' (locs ++ L) (cells + mc) (slots + ms) ∧ (∀ z ∈ L, free z.base) ∧ T'.heap = t.heap ∧ T'.vm = t.vm ∧ XC E st₀ t ∧ t.heap[q]? = some ce ∧ ce.vm = .none ∧ s.vm.findClass E = some ce.cls ∧
      Steps p.tables e below (T.setTop g) ((T'.setTop { g with stack := rest }).pushFrame (.throwing q)))
def vx_X {S : Type} (px : S → Prop) (B : String → S → State → Prop) (A : Nat → Prop) : String → State → State → Prop := fun E st t => ∃ u : S, px u ∧ B E u t ∧ va_F A st t
section Runs
variable {p : Program} {l : Launch} {e : Env} {R : Room} {s : State} {m : MethodId} {args : Array Value} {below : List Frame} {meth : Method} {c : Code} {H : Heap} {locs : List Loc} {cells slots : Nat}
variable {y : MethodName} {bytes cc : ByteArray} {maxL nL mc ms n index : Nat} {ret : Option FieldType} {ws : List Cond} {rm : Room} {Pc : Array Value → State → Prop} {Qc : Array Value → State → Outcome → State → Prop} {XC : String → State → State → Prop} {free : Addr → Prop} {Ts : List Cond} {own C : String} {b : Addr} {As rest : List Value} {g : JFrame}
theorem vx_callBack (cb : CallB R s args own index y bytes maxL ret ws rm mc ms n) (hM : vx_Met l y ws rm Pc Qc XC mc ms free) (hbl : FrameBlind Pc) : vx_Back l R p e below s args y 3 8 (PreOf R mc ms Pc) (PostOf Qc mc ms free) (vx_Post XC mc ms free) := by
  obtain ⟨hrc, hrs, hfr, hlo, hws, hcw, -, hini, -⟩ := cb
  exact vx_back (bytes := bytes) (maxL := maxL) (ret := ret) hM hbl hrc hrs hfr hlo hws hcw (fun a' U hW => word_at hW (Or.inl (by first | rfl | simp [Cond.onTables, Cond.keeps, Cond.steady])) hini)
theorem vx_runV (S : CallFix p m c cc nL s args Ts own) (hM : vx_Met l y ws rm Pc Qc XC mc ms free) (cw : CallW R s args own C index y bytes maxL ret ws rm mc ms n) (hp : PreV s H C b Pc As)
    (hg : g.method = m) (hn : As.length = n) (hsize : g.locals.size = nL) (hstack : g.stack = As.reverse ++ .ref b :: rest) (hW : 2 * g.monitorRoom + (rest.map fun v => v.category).sum ≤ 8) (hdg : decode cc g.pc = .ok (.invokevirtual index, 3)) (hf : cells + mc ≤ R.cells ∧ slots + ms ≤ R.slots) :
    vx_Run p l e R s m args below meth c H locs cells slots mc ms g rest (Qc (Value.ref b :: As).toArray) XC free := by
  have hK : vx_Back l R p e below s args y 3 8 (PreOf R mc ms Pc) (PostOf Qc mc ms free) (vx_Post XC mc ms free) := vx_callBack cw.1 hM hp.1
  obtain ⟨⟨-, -, -, -, -, -, hcode, -, hy, hlen, hl⟩, hin, hse⟩ := cw
  obtain ⟨hx, hb, hml, ho, -⟩ := S
  obtain ⟨-, ⟨cellB, hcB, hoB, hclB⟩, hPc⟩ := hp
  intro T hT X
  rcases vx_callV X hx (C := C) (bytes := bytes) (maxL := maxL) (ret := ret) ho hl hin hse hcode hy hK (by rw [hT]; exact hcB) hoB hclB hg (hsize.trans hml.symm) (argsL := As) (rest := rest) (fun sig h => hn.trans (hlen sig h)) hstack hW (by rw [hb]; exact hdg)
    (fun vm₁ hW₁ => ⟨hf.1, hf.2, hPc (T.setVm vm₁) hT hW₁⟩) with ⟨v, vm₁, ⟨U', l2, c2, s2⟩, hW₁, X', ⟨g', mk, t, L, e1, e2, hq, h1, hL, h2, h3⟩, st⟩ | ⟨q, vm₁, ⟨U', l2, c2, s2⟩, hW₁, X', ⟨g', mk, t, L, E, ce, e1, e2, hq, hce, hcv, hcl, h1, hL, h2, h3⟩, st⟩
  · dsimp only [Pt.U, Pt.locs, Pt.cells, Pt.slots] at X' e1 e2 h1 h2 h3 st
    subst h1; subst h2; subst h3
    exact Or.inl ⟨v, (T.setVm vm₁).calling g' mk (Value.ref b :: As).toArray, t, U', L, hT, X', hL, e1, e2, hq, st⟩
  · dsimp only [Pt.U, Pt.locs, Pt.cells, Pt.slots] at X' e1 e2 h1 h2 h3 st hcl
    subst h1; subst h2; subst h3
    exact Or.inr ⟨q, (T.setVm vm₁).calling g' mk (Value.ref b :: As).toArray, t, U', L, E, ce, hT, X', hL, e1, e2, hq, hce, hcv, vx_cls hW₁ hcl, st⟩
theorem vx_runS (S : CallFix p m c cc nL s args Ts own) (hM : vx_Met l y ws rm Pc Qc XC mc ms free) (cw : CallB R s args own index y bytes maxL ret ws rm mc ms n ∧ (Cond.static y).before args s = true) (hp : PreS s H Pc As)
    (hg : g.method = m) (hn : As.length = n) (hsize : g.locals.size = nL) (hstack : g.stack = As.reverse ++ rest) (hW : 2 * g.monitorRoom + (rest.map fun v => v.category).sum ≤ 8) (hdg : decode cc g.pc = .ok (.invokestatic index, 3)) (hf : cells + mc ≤ R.cells ∧ slots + ms ≤ R.slots) :
    vx_Run p l e R s m args below meth c H locs cells slots mc ms g rest (Qc As.toArray) XC free := by
  have hK : vx_Back l R p e below s args y 3 8 (PreOf R mc ms Pc) (PostOf Qc mc ms free) (vx_Post XC mc ms free) := vx_callBack cw.1 hM hp.1
  obtain ⟨⟨-, -, -, -, -, -, hcode, hini, hy, hlen, hl⟩, hstt⟩ := cw
  obtain ⟨hx, hb, hml, ho, -⟩ := S
  intro T hT X
  rcases vx_callS X hx (bytes := bytes) (maxL := maxL) (ret := ret) ho hl hstt hini hcode hy hK hg (hsize.trans hml.symm) (argsL := As) (rest := rest) (fun sig h => hn.trans (hlen sig h)) hstack hW (by rw [hb]; exact hdg)
    (fun vm₁ hW₁ => ⟨hf.1, hf.2, hp.2 (T.setVm vm₁) hT hW₁⟩) with ⟨v, vm₁, ⟨U', l2, c2, s2⟩, hW₁, X', ⟨g', mk, t, L, e1, e2, hq, h1, hL, h2, h3⟩, st⟩ | ⟨q, vm₁, ⟨U', l2, c2, s2⟩, hW₁, X', ⟨g', mk, t, L, E, ce, e1, e2, hq, hce, hcv, hcl, h1, hL, h2, h3⟩, st⟩
  · dsimp only [Pt.U, Pt.locs, Pt.cells, Pt.slots] at X' e1 e2 h1 h2 h3 st
    subst h1; subst h2; subst h3
    exact Or.inl ⟨v, (T.setVm vm₁).calling g' mk As.toArray, t, U', L, hT, X', hL, e1, e2, hq, st⟩
  · dsimp only [Pt.U, Pt.locs, Pt.cells, Pt.slots] at X' e1 e2 h1 h2 h3 st hcl
    subst h1; subst h2; subst h3
    exact Or.inr ⟨q, (T.setVm vm₁).calling g' mk As.toArray, t, U', L, E, ce, hT, X', hL, e1, e2, hq, hce, hcv, vx_cls hW₁ hcl, st⟩
end Runs
section Rows
variable {p : Program} {l : Launch} {e : Env} {R : Room} {s : State} {m : MethodId} {args : Array Value} {below : List Frame} {meth : Method} {c : Code} {H : Heap} {locs : List Loc} {cells slots : Nat} {Q : State → Prop}
variable {mc ms : Nat} {free : Addr → Prop} {A0 A1 : Nat → Prop} {H0 : Heap} {a : Array Value} {pc : Nat} {ls : Array Slot} {st0 rest : List Value}
theorem vx_keep {st₀ t T' : State} {L : List Loc} (h0 : st₀.heap = H) (e1 : T'.heap = t.heap) (hS : va_S A0 H0 H locs) (hA : ∀ q, q < H.size → A1 q → A0 q) (hf : ∀ q, free q → A0 q) (hL : ∀ q ∈ L, free q.base) (hF : va_F A1 st₀ t) :
    H.size ≤ T'.heap.size ∧ (∀ q : Nat, q < H.size → ¬ A1 q → T'.heap[q]? = H[q]?) ∧ va_S A0 H0 T'.heap (locs ++ L) := by
  obtain ⟨hz, hk⟩ := hF
  rw [h0] at hz hk
  exact ⟨by rw [e1]; exact hz, fun q h1 h2 => by rw [e1]; exact hk q h1 h2,
    ⟨Nat.le_trans hS.1 (by rw [e1]; exact hz), fun q h1 h2 => by rw [e1, hk q (Nat.lt_of_lt_of_le h1 hS.1) (fun z => h2 (hA q (Nat.lt_of_lt_of_le h1 hS.1) z))]; exact hS.2.1 q h1 h2, fun q hq => by
      rcases List.mem_append.mp hq with h | h
      · exact hS.2.2 q h
      · exact hf _ (hL q h)⟩⟩
theorem vx_calli {S SX : Type} {post : Int32 → S → Prop} {px : SX → Prop} {B : S → State → Prop} {BX : String → SX → State → Prop} {AX : Nat → Prop} (hr : vx_Run p l e R s m args below meth c H locs cells slots mc ms (F0 m pc ls st0) rest (va_Qi post B A1 a) (vx_X px BX AX) free) (hS : va_S A0 H0 H locs) (hA : ∀ q, q < H.size → A1 q → A0 q) (hf : ∀ q, free q → A0 q) (hAX : ∀ q, q < H.size → AX q → A0 q)
    (kx : ∀ (E : String) (ce : Cell) (q9 : Addr) (u : SX) (t : State) (H1 : Heap) (locs1 : List Loc), t.heap = H1 → s.vm.Alike t.vm → px u → BX E u t → H.size ≤ H1.size → (∀ q : Nat, q < H.size → ¬ AX q → H1[q]? = H[q]?) → va_S A0 H0 H1 locs1 → H1[q9]? = some ce → ce.vm = .none → s.vm.findClass E = some ce.cls → vx_W p l e R s m args below meth c H1 locs1 (cells + mc) (slots + ms) Q (F0 m pc ls rest) q9)
    (kk : ∀ (r : Int32) (u : S) (t : State) (H1 : Heap) (locs1 : List Loc), t.heap = H1 → s.vm.Alike t.vm → post r u → B u t → H.size ≤ H1.size → (∀ q : Nat, q < H.size → ¬ A1 q → H1[q]? = H[q]?) → va_S A0 H0 H1 locs1 → W p l e R s m args below meth c H1 locs1 (cells + mc) (slots + ms) Q (F0 m (pc + 3) ls (.int r :: rest))) : W p l e R s m args below meth c H locs cells slots Q (F0 m pc ls st0) := by
  intro T hT X
  rcases hr T hT X with ⟨v, st₀, t, T', L, h0, X', hL, e1, e2, ⟨⟨r, u, hv, hp, hb⟩, hF⟩, st⟩ | ⟨q, st₀, t, T', L, E, ce, h0, X', hL, e1, e2, ⟨u, hp, hb, hF⟩, hce, hcv, hcl, st⟩
  · cases hv
    obtain ⟨k1, k2, k3⟩ := vx_keep h0 e1 hS hA hf hL hF
    obtain ⟨t2, a1, b1⟩ := kk r u t T'.heap (locs ++ L) e1.symm (by rw [← e2]; exact X'.warmed.alike) hp hb k1 k2 k3 T' rfl X'
    exact ⟨t2, st t2 a1, b1⟩
  · obtain ⟨k1, k2, k3⟩ := vx_keep h0 e1 hS hAX hf hL hF
    obtain ⟨t2, a1, b1⟩ := kx E ce q u t T'.heap (locs ++ L) e1.symm (by rw [← e2]; exact X'.warmed.alike) hp hb k1 k2 k3 (by rw [e1]; exact hce) hcv hcl T' rfl X'
    exact ⟨t2, st.trans a1, b1⟩
theorem vx_calll {S SX : Type} {post : Int64 → S → Prop} {px : SX → Prop} {B : S → State → Prop} {BX : String → SX → State → Prop} {AX : Nat → Prop} (hr : vx_Run p l e R s m args below meth c H locs cells slots mc ms (F0 m pc ls st0) rest (va_Ql post B A1 a) (vx_X px BX AX) free) (hS : va_S A0 H0 H locs) (hA : ∀ q, q < H.size → A1 q → A0 q) (hf : ∀ q, free q → A0 q) (hAX : ∀ q, q < H.size → AX q → A0 q)
    (kx : ∀ (E : String) (ce : Cell) (q9 : Addr) (u : SX) (t : State) (H1 : Heap) (locs1 : List Loc), t.heap = H1 → s.vm.Alike t.vm → px u → BX E u t → H.size ≤ H1.size → (∀ q : Nat, q < H.size → ¬ AX q → H1[q]? = H[q]?) → va_S A0 H0 H1 locs1 → H1[q9]? = some ce → ce.vm = .none → s.vm.findClass E = some ce.cls → vx_W p l e R s m args below meth c H1 locs1 (cells + mc) (slots + ms) Q (F0 m pc ls rest) q9)
    (kk : ∀ (r : Int64) (u : S) (t : State) (H1 : Heap) (locs1 : List Loc), t.heap = H1 → s.vm.Alike t.vm → post r u → B u t → H.size ≤ H1.size → (∀ q : Nat, q < H.size → ¬ A1 q → H1[q]? = H[q]?) → va_S A0 H0 H1 locs1 → W p l e R s m args below meth c H1 locs1 (cells + mc) (slots + ms) Q (F0 m (pc + 3) ls (.long r :: rest))) : W p l e R s m args below meth c H locs cells slots Q (F0 m pc ls st0) := by
  intro T hT X
  rcases hr T hT X with ⟨v, st₀, t, T', L, h0, X', hL, e1, e2, ⟨⟨r, u, hv, hp, hb⟩, hF⟩, st⟩ | ⟨q, st₀, t, T', L, E, ce, h0, X', hL, e1, e2, ⟨u, hp, hb, hF⟩, hce, hcv, hcl, st⟩
  · cases hv
    obtain ⟨k1, k2, k3⟩ := vx_keep h0 e1 hS hA hf hL hF
    obtain ⟨t2, a1, b1⟩ := kk r u t T'.heap (locs ++ L) e1.symm (by rw [← e2]; exact X'.warmed.alike) hp hb k1 k2 k3 T' rfl X'
    exact ⟨t2, st t2 a1, b1⟩
  · obtain ⟨k1, k2, k3⟩ := vx_keep h0 e1 hS hAX hf hL hF
    obtain ⟨t2, a1, b1⟩ := kx E ce q u t T'.heap (locs ++ L) e1.symm (by rw [← e2]; exact X'.warmed.alike) hp hb k1 k2 k3 (by rw [e1]; exact hce) hcv hcl T' rfl X'
    exact ⟨t2, st.trans a1, b1⟩
theorem vx_callf {S SX : Type} {post : UInt32 → S → Prop} {px : SX → Prop} {B : S → State → Prop} {BX : String → SX → State → Prop} {AX : Nat → Prop} (hr : vx_Run p l e R s m args below meth c H locs cells slots mc ms (F0 m pc ls st0) rest (va_Qf post B A1 a) (vx_X px BX AX) free) (hS : va_S A0 H0 H locs) (hA : ∀ q, q < H.size → A1 q → A0 q) (hf : ∀ q, free q → A0 q) (hAX : ∀ q, q < H.size → AX q → A0 q)
    (kx : ∀ (E : String) (ce : Cell) (q9 : Addr) (u : SX) (t : State) (H1 : Heap) (locs1 : List Loc), t.heap = H1 → s.vm.Alike t.vm → px u → BX E u t → H.size ≤ H1.size → (∀ q : Nat, q < H.size → ¬ AX q → H1[q]? = H[q]?) → va_S A0 H0 H1 locs1 → H1[q9]? = some ce → ce.vm = .none → s.vm.findClass E = some ce.cls → vx_W p l e R s m args below meth c H1 locs1 (cells + mc) (slots + ms) Q (F0 m pc ls rest) q9)
    (kk : ∀ (r : UInt32) (u : S) (t : State) (H1 : Heap) (locs1 : List Loc), t.heap = H1 → s.vm.Alike t.vm → post r u → B u t → H.size ≤ H1.size → (∀ q : Nat, q < H.size → ¬ A1 q → H1[q]? = H[q]?) → va_S A0 H0 H1 locs1 → W p l e R s m args below meth c H1 locs1 (cells + mc) (slots + ms) Q (F0 m (pc + 3) ls (.float r :: rest))) : W p l e R s m args below meth c H locs cells slots Q (F0 m pc ls st0) := by
  intro T hT X
  rcases hr T hT X with ⟨v, st₀, t, T', L, h0, X', hL, e1, e2, ⟨⟨r, u, hv, hp, hb⟩, hF⟩, st⟩ | ⟨q, st₀, t, T', L, E, ce, h0, X', hL, e1, e2, ⟨u, hp, hb, hF⟩, hce, hcv, hcl, st⟩
  · cases hv
    obtain ⟨k1, k2, k3⟩ := vx_keep h0 e1 hS hA hf hL hF
    obtain ⟨t2, a1, b1⟩ := kk r u t T'.heap (locs ++ L) e1.symm (by rw [← e2]; exact X'.warmed.alike) hp hb k1 k2 k3 T' rfl X'
    exact ⟨t2, st t2 a1, b1⟩
  · obtain ⟨k1, k2, k3⟩ := vx_keep h0 e1 hS hAX hf hL hF
    obtain ⟨t2, a1, b1⟩ := kx E ce q u t T'.heap (locs ++ L) e1.symm (by rw [← e2]; exact X'.warmed.alike) hp hb k1 k2 k3 (by rw [e1]; exact hce) hcv hcl T' rfl X'
    exact ⟨t2, st.trans a1, b1⟩
theorem vx_calld {S SX : Type} {post : UInt64 → S → Prop} {px : SX → Prop} {B : S → State → Prop} {BX : String → SX → State → Prop} {AX : Nat → Prop} (hr : vx_Run p l e R s m args below meth c H locs cells slots mc ms (F0 m pc ls st0) rest (va_Qd post B A1 a) (vx_X px BX AX) free) (hS : va_S A0 H0 H locs) (hA : ∀ q, q < H.size → A1 q → A0 q) (hf : ∀ q, free q → A0 q) (hAX : ∀ q, q < H.size → AX q → A0 q)
    (kx : ∀ (E : String) (ce : Cell) (q9 : Addr) (u : SX) (t : State) (H1 : Heap) (locs1 : List Loc), t.heap = H1 → s.vm.Alike t.vm → px u → BX E u t → H.size ≤ H1.size → (∀ q : Nat, q < H.size → ¬ AX q → H1[q]? = H[q]?) → va_S A0 H0 H1 locs1 → H1[q9]? = some ce → ce.vm = .none → s.vm.findClass E = some ce.cls → vx_W p l e R s m args below meth c H1 locs1 (cells + mc) (slots + ms) Q (F0 m pc ls rest) q9)
    (kk : ∀ (r : UInt64) (u : S) (t : State) (H1 : Heap) (locs1 : List Loc), t.heap = H1 → s.vm.Alike t.vm → post r u → B u t → H.size ≤ H1.size → (∀ q : Nat, q < H.size → ¬ A1 q → H1[q]? = H[q]?) → va_S A0 H0 H1 locs1 → W p l e R s m args below meth c H1 locs1 (cells + mc) (slots + ms) Q (F0 m (pc + 3) ls (.double r :: rest))) : W p l e R s m args below meth c H locs cells slots Q (F0 m pc ls st0) := by
  intro T hT X
  rcases hr T hT X with ⟨v, st₀, t, T', L, h0, X', hL, e1, e2, ⟨⟨r, u, hv, hp, hb⟩, hF⟩, st⟩ | ⟨q, st₀, t, T', L, E, ce, h0, X', hL, e1, e2, ⟨u, hp, hb, hF⟩, hce, hcv, hcl, st⟩
  · cases hv
    obtain ⟨k1, k2, k3⟩ := vx_keep h0 e1 hS hA hf hL hF
    obtain ⟨t2, a1, b1⟩ := kk r u t T'.heap (locs ++ L) e1.symm (by rw [← e2]; exact X'.warmed.alike) hp hb k1 k2 k3 T' rfl X'
    exact ⟨t2, st t2 a1, b1⟩
  · obtain ⟨k1, k2, k3⟩ := vx_keep h0 e1 hS hAX hf hL hF
    obtain ⟨t2, a1, b1⟩ := kx E ce q u t T'.heap (locs ++ L) e1.symm (by rw [← e2]; exact X'.warmed.alike) hp hb k1 k2 k3 (by rw [e1]; exact hce) hcv hcl T' rfl X'
    exact ⟨t2, st.trans a1, b1⟩
theorem vx_callv {S SX : Type} {post : S → Prop} {px : SX → Prop} {B : S → State → Prop} {BX : String → SX → State → Prop} {AX : Nat → Prop} (hr : vx_Run p l e R s m args below meth c H locs cells slots mc ms (F0 m pc ls st0) rest (va_Qv post B A1 a) (vx_X px BX AX) free) (hS : va_S A0 H0 H locs) (hA : ∀ q, q < H.size → A1 q → A0 q) (hf : ∀ q, free q → A0 q) (hAX : ∀ q, q < H.size → AX q → A0 q)
    (kx : ∀ (E : String) (ce : Cell) (q9 : Addr) (u : SX) (t : State) (H1 : Heap) (locs1 : List Loc), t.heap = H1 → s.vm.Alike t.vm → px u → BX E u t → H.size ≤ H1.size → (∀ q : Nat, q < H.size → ¬ AX q → H1[q]? = H[q]?) → va_S A0 H0 H1 locs1 → H1[q9]? = some ce → ce.vm = .none → s.vm.findClass E = some ce.cls → vx_W p l e R s m args below meth c H1 locs1 (cells + mc) (slots + ms) Q (F0 m pc ls rest) q9)
    (kk : ∀ (u : S) (t : State) (H1 : Heap) (locs1 : List Loc), t.heap = H1 → s.vm.Alike t.vm → post u → B u t → H.size ≤ H1.size → (∀ q : Nat, q < H.size → ¬ A1 q → H1[q]? = H[q]?) → va_S A0 H0 H1 locs1 → W p l e R s m args below meth c H1 locs1 (cells + mc) (slots + ms) Q (F0 m (pc + 3) ls (rest))) : W p l e R s m args below meth c H locs cells slots Q (F0 m pc ls st0) := by
  intro T hT X
  rcases hr T hT X with ⟨v, st₀, t, T', L, h0, X', hL, e1, e2, ⟨⟨u, hv, hp, hb⟩, hF⟩, st⟩ | ⟨q, st₀, t, T', L, E, ce, h0, X', hL, e1, e2, ⟨u, hp, hb, hF⟩, hce, hcv, hcl, st⟩
  · cases hv
    obtain ⟨k1, k2, k3⟩ := vx_keep h0 e1 hS hA hf hL hF
    obtain ⟨t2, a1, b1⟩ := kk u t T'.heap (locs ++ L) e1.symm (by rw [← e2]; exact X'.warmed.alike) hp hb k1 k2 k3 T' rfl X'
    exact ⟨t2, st t2 a1, b1⟩
  · obtain ⟨k1, k2, k3⟩ := vx_keep h0 e1 hS hAX hf hL hF
    obtain ⟨t2, a1, b1⟩ := kx E ce q u t T'.heap (locs ++ L) e1.symm (by rw [← e2]; exact X'.warmed.alike) hp hb k1 k2 k3 (by rw [e1]; exact hce) hcv hcl T' rfl X'
    exact ⟨t2, st.trans a1, b1⟩
/-- caught by the row x of this method's table; the rows ahead don't take it -/
theorem vx_catch {own name : String} {E : String} {ce : Cell} {q : Addr} (hown : s.vm.findClass own = some m.cls) (pre : List ExceptionTableEntry) (x : ExceptionTableEntry) (suf : List ExceptionTableEntry) (hsplit : c.exceptionTable.toList = pre ++ x :: suf)
    (hpass : ∀ z ∈ pre, covers z pc = false ∨ (z.catchType ≠ 0 ∧ ∃ nm : String, (Cond.classLink own z.catchType nm).before args s = true ∧ va_Nc E nm s)) (hx : covers x pc = true) (h0 : x.catchType ≠ 0)
    (hlink : (Cond.classLink own x.catchType name).before args s = true) (hcast : (Cond.castable E name).before args s = true) (hcell : H[q]? = some ce) (hv : ce.vm = .none) (hcl : s.vm.findClass E = some ce.cls)
    (kk : W p l e R s m args below meth c H locs cells slots Q (F0 m x.handlerPc ls [.ref q])) : vx_W p l e R s m args below meth c H locs cells slots Q (F0 m pc ls rest) q := by
  intro T hT X
  have hpl : e.platform.magicAccessors = ({} : Platform).magicAccessors := by rw [X.admits.platform]
  obtain ⟨c3, c4, hc3, hc4, hasg⟩ := Cond.castable_spec hcast
  cases Option.some.inj (hc3.symm.trans hcl)
  obtain ⟨c5, hc5, hcl5⟩ := Cond.classLink_spec hown hlink e.platform hpl
  cases Option.some.inj (hc4.symm.trans hc5)
  obtain ⟨vm', X', st⟩ := X.thenCaughtThrough q (g := F0 m pc ls rest) rfl (Steps.refl _) (by rw [hT]; exact hcell) (by rw [hv]; rfl) (by obtain ⟨k9, h9, -⟩ := Vm.findClass_spec hcl; exact ⟨k9, h9⟩) pre x suf hsplit
    (fun z hz => by
      rcases hpass z hz with h | ⟨hz0, nm, hl1, hn1⟩
      · exact Or.inl h
      · obtain ⟨c6, hc6, hcl6⟩ := Cond.classLink_spec hown hl1 e.platform hpl
        obtain ⟨a8, b8, h1, h2, h3⟩ := hn1
        cases Option.some.inj (h1.symm.trans hcl)
        cases Option.some.inj (h2.symm.trans hc6)
        exact Or.inr ⟨hz0, _, hcl6, h3⟩) hx (Or.inr ⟨h0, c4, hcl5, hasg⟩)
  obtain ⟨t, a1, b1⟩ := kk (T.setVm vm') hT X'
  exact ⟨t, st.trans a1, b1⟩
end Rows
section Ends
variable {p : Program} {l : Launch} {e : Env} {R : Room} {s : State} {m : MethodId} {args : Array Value} {below : List Frame} {meth : Method} {c : Code} {H : Heap} {locs : List Loc} {cells slots : Nat} {Q : State → Prop}
variable {mc ms : Nat} {free : Addr → Prop} {A0 A1 : Nat → Prop} {H0 : Heap} {a : Array Value} {ls : Array Slot} {st0 rest : List Value}
variable {Qc : Array Value → State → Outcome → State → Prop} {XC : String → State → State → Prop}
/-- what a body that may throw owes at its end -/
def vx_MQ (below : List Frame) (Qc : Array Value → State → Outcome → State → Prop) (XC : String → State → State → Prop) (a : Array Value) (s : State) (mc ms : Nat) (free : Addr → Prop) : State → Prop := fun t =>
  ∃ o, t.status = .running ∧ Ended t below o ∧ vx_Q Qc XC mc ms free a s o t
theorem vx_ret {g : JFrame} {mc ms : Nat} (k : W p l e R s m args below meth c H locs cells slots (MQ below Qc args s mc ms free) g) : W p l e R s m args below meth c H locs cells slots (vx_MQ below Qc XC args s mc ms free) g := by
  intro T hT X
  obtain ⟨t, a1, o, b1, b2, b3, b4⟩ := k T hT X
  exact ⟨t, a1, o, b1, b2, Or.inl ⟨b3, b4⟩⟩
/-- not caught here: it goes on to the caller -/
theorem vx_widen {g : JFrame} {q : Addr} {k n : Nat} (h1 : cells ≤ k) (h2 : slots ≤ n) (kk : vx_W p l e R s m args below meth c H locs k n Q g q) : vx_W p l e R s m args below meth c H locs cells slots Q g q := fun T hT X => kk T hT (stand_widen X h1 h2)
theorem vx_out {pc : Nat} {E : String} {ce : Cell} {q : Addr} {mc ms : Nat} (hout : ∀ x ∈ c.exceptionTable.toList, covers x pc = false) (hlocks : meth.locks = false) (hcell : H[q]? = some ce) (hv : ce.vm = .none) (hcl : s.vm.findClass E = some ce.cls)
    (hx : ∀ t : State, t.heap = H → s.vm.Alike t.vm → XC E s t) (hf : ∀ z ∈ locs, free z.base) (hc : cells ≤ mc) (hs : slots ≤ ms) :
    vx_W p l e R s m args below meth c H locs cells slots (vx_MQ below Qc XC args s mc ms free) (F0 m pc ls rest) q := by
  intro T hT X
  obtain ⟨st1, hrun, hend, hW, hsm⟩ := X.leaveThrown q (g := F0 m pc ls rest) rfl rfl rfl hout hlocks
  have hcell9 : (T.setFrames (.throwing q :: below)).heap[q]? = some ce := by
    show T.heap[q]? = some ce
    rw [hT]; exact hcell
  exact ⟨_, st1, .threw q, hrun, hend, Or.inr ⟨q, rfl, E, ce, locs, hx _ hT hW.alike, hcell9, hv, hcl, hW, hsm.mono hc hs, hf⟩⟩
theorem vx_frame {U : State} {k n : Nat} (h : s.sameButNew ({ U with vm := s.vm } : State) locs k n) : s.heap.size ≤ U.heap.size ∧ ∀ q : Nat, q < s.heap.size → (∀ z ∈ locs, z.base ≠ q) → U.heap[q]? = s.heap[q]? := by
  obtain ⟨-, h2, -, -, -, h6⟩ := h
  refine ⟨h2, fun q hq hz => ?_⟩
  obtain ⟨c9, e1, e2, e3, e4⟩ := h6 q _ (Array.getElem?_eq_getElem hq)
  have hs : c9.slots = (s.heap[q]).slots := Array.ext_getElem? fun i => e4 i fun hm => hz _ hm rfl
  have h9 : c9 = s.heap[q] := by
    rw [hs] at e2
    exact e2
  have e5 : U.heap[q]? = some c9 := e1
  rw [e5, h9, Array.getElem?_eq_getElem hq]
/-- the words of a throw but the four that speak of the heap -/
def vx_no (w : Cond) : Bool := decide (w ≠ .isRef (.static Bundle.tN "UNASSIGNED_STACK" Bundle.steD)) && decide (w ≠ .isRef (.static Bundle.tN "SUPPRESSED_SENTINEL" Bundle.listD)) && decide (w ≠ .laysStatic Bundle.tN "UNASSIGNED_STACK" Bundle.steD) && decide (w ≠ .laysStatic Bundle.tN "SUPPRESSED_SENTINEL" Bundle.listD)
def vx_at0 (own : String) (ic : Nat) (X : String) (names : List String) : List Cond := (Bundle.ownAtoms0 own ic X names).filter vx_no
def vx_atS (own : String) (ic : Nat) (X : String) (names : List String) : List Cond := (Bundle.ownAtoms own ic X names).filter vx_no
/-- a word that the tables alone decide, or a good one -/
def vx_ot (w : Cond) : Bool := w.onTables || goodWord w
theorem vx_ot_at {args a' : Array Value} {s U : State} {w : Cond} (hW : s.WarmedH U.vm) (hvm : s.vm = U.vm) (hg : vx_ot w = true) (h : w.before args s = true) : w.before a' U = true := by
  simp only [vx_ot, Bool.or_eq_true] at hg
  rcases hg with hg | hg
  · exact va_tabs hg hvm h
  · exact word_at hW (good_of_word hg) h
/-- a list's words: the good ones out of the method's own list, the others by premises of their own -/
theorem vx_hat {args : Array Value} {s : State} {L B : List Cond} (h1 : ∀ w ∈ L.filter goodWord, w.before args s = true) (h2 : ∀ w ∈ L.filter (fun w => !goodWord w), w ∈ B) (h3 : ∀ w ∈ B, w.before args s = true) : ∀ w ∈ L, w.before args s = true := by
  intro w hw
  by_cases g : goodWord w = true
  · exact h1 w (List.mem_filter.mpr ⟨hw, g⟩)
  · refine h3 w (h2 w (List.mem_filter.mpr ⟨hw, ?_⟩))
    show (!goodWord w) = true
    cases hgw : goodWord w
    · rfl
    · exact absurd hgw g
theorem vx_c {args : Array Value} {s : State} {w : Cond} {B : List Cond} (h : w.before args s = true) (t : ∀ w ∈ B, w.before args s = true) : ∀ w' ∈ w :: B, w'.before args s = true := fun w' h' => (List.mem_cons.mp h').elim (fun e => by rw [e]; exact h) (t w')
theorem vx_n {args : Array Value} {s : State} : ∀ w ∈ ([] : List Cond), w.before args s = true := fun _ h => nomatch h
theorem vx_own {args : Array Value} {s : State} {L : List Cond} (h1 : ∀ w ∈ L.filter vx_no, w.before args s = true)
    (hU : (Cond.isRef (.static Bundle.tN "UNASSIGNED_STACK" Bundle.steD)).before args s = true) (hN : (Cond.isRef (.static Bundle.tN "SUPPRESSED_SENTINEL" Bundle.listD)).before args s = true)
    (lU : (Cond.laysStatic Bundle.tN "UNASSIGNED_STACK" Bundle.steD).before args s = true) (lN : (Cond.laysStatic Bundle.tN "SUPPRESSED_SENTINEL" Bundle.listD).before args s = true) : ∀ w ∈ L, w.before args s = true := by
  intro w hw
  by_cases e1 : w = .isRef (.static Bundle.tN "UNASSIGNED_STACK" Bundle.steD)
  · rw [e1]; exact hU
  · by_cases e2 : w = .isRef (.static Bundle.tN "SUPPRESSED_SENTINEL" Bundle.listD)
    · rw [e2]; exact hN
    · by_cases e3 : w = .laysStatic Bundle.tN "UNASSIGNED_STACK" Bundle.steD
      · rw [e3]; exact lU
      · by_cases e4 : w = .laysStatic Bundle.tN "SUPPRESSED_SENTINEL" Bundle.listD
        · rw [e4]; exact lN
        · exact h1 w (List.mem_filter.mpr ⟨hw, by unfold vx_no; rw [decide_eq_true e1, decide_eq_true e2, decide_eq_true e3, decide_eq_true e4]; rfl⟩)
/-- where a static field lies, its class's statics cell in H -/
def vx_L (C n d : String) (A : Nat → Prop) (U : State) (H : Heap) : Prop := ∃ (c : ClassId) (k : Class) (i : Nat) (f : Field) (a : Nat) (cell : Cell), U.vm.findClass C = some c ∧ U.fieldFound? C n d = some (c, k, i, f) ∧ f.isStatic = true ∧ k.statics = some a ∧ H[a]? = some cell ∧ cell.vm.isStatics = true ∧ cell.cls = c ∧ f.slot < cell.slots.size ∧ k.staticTypes[f.slot]? = some f.type ∧ ¬ A a
theorem vx_L.moved {C n d : String} {A : Nat → Prop} {u U : State} {H : Heap} (hvm : u.vm.Alike U.vm) (h : vx_L C n d A u H) : vx_L C n d A U H := by
  obtain ⟨c, k, i, f, a, cell, h1, h2, h3, h4, h5, h6, h7, h8, h9, h10⟩ := h
  obtain ⟨k', hi', he⟩ := State.fieldFound?_setVm hvm h2
  exact ⟨c, k', i, f, a, cell, by rw [hvm.findClass]; exact h1, hi', h3, by rw [he]; exact h4, h5, h6, h7, h8, by rw [he]; exact h9, h10⟩
theorem vx_L.kept {C n d : String} {A : Nat → Prop} {U : State} {H H1 : Heap} (h : vx_L C n d A U H) (hq : ∀ a : Nat, a < H.size → ¬ A a → H1[a]? = H[a]?) : vx_L C n d A U H1 := by
  obtain ⟨c, k, i, f, a, cell, h1, h2, h3, h4, h5, h6, h7, h8, h9, h10⟩ := h
  exact ⟨c, k, i, f, a, cell, h1, h2, h3, h4, by rw [hq a (Array.getElem?_eq_some_iff.mp h5).1 h10]; exact h5, h6, h7, h8, h9, h10⟩
theorem vx_L.narrow {C n d : String} {A B : Nat → Prop} {U : State} {H : Heap} (h : vx_L C n d A U H) (hAB : ∀ q, B q → A q) : vx_L C n d B U H := by
  obtain ⟨c, k, i, f, a, cell, h1, h2, h3, h4, h5, h6, h7, h8, h9, h10⟩ := h
  exact ⟨c, k, i, f, a, cell, h1, h2, h3, h4, h5, h6, h7, h8, h9, fun z => h10 (hAB _ z)⟩
theorem vx_L.word {C n d : String} {A : Nat → Prop} {s : State} {args : Array Value} (h : vx_L C n d A s s.heap) : (Cond.laysStatic C n d).before args s = true := by
  obtain ⟨c, k, i, f, a, cell, h1, h2, h3, h4, h5, h6, h7, h8, h9, -⟩ := h
  show (Cond.laysStatic C n d).holds args s none s [] = true
  exact Cond.laysStatic_of h1 h2 h3 h4 h5 h6 h7 h8 h9
/-- .. and what it holds: null or some reference -/
def vx_Zq (C n d : String) (A : Nat → Prop) (U : State) (H : Heap) : Prop := va_Zq C n d A U H ∧ vx_L C n d A U H
theorem vx_Zq.moved {C n d : String} {A : Nat → Prop} {u U : State} {H : Heap} (hvm : u.vm.Alike U.vm) (h : vx_Zq C n d A u H) : vx_Zq C n d A U H := ⟨va_Zq.moved hvm h.1, vx_L.moved hvm h.2⟩
theorem vx_Zq.kept {C n d : String} {A : Nat → Prop} {U : State} {H H1 : Heap} (h : vx_Zq C n d A U H) (hq : ∀ a : Nat, a < H.size → ¬ A a → H1[a]? = H[a]?) : vx_Zq C n d A U H1 := ⟨va_Zq.kept h.1 hq, vx_L.kept h.2 hq⟩
theorem vx_Zq.narrow {C n d : String} {A B : Nat → Prop} {U : State} {H : Heap} (h : vx_Zq C n d A U H) (hAB : ∀ q, B q → A q) : vx_Zq C n d B U H := ⟨va_Zq.narrow h.1 hAB, vx_L.narrow h.2 hAB⟩
theorem vx_Zqof {args : Array Value} {s : State} {C n d : String} {A : Nat → Prop} (hl : (Cond.laysStatic C n d).before args s = true) (hini : (Cond.initialized C).before args s = true) (h : (Cond.isRef (.static C n d)).before args s = true) (hA : ∀ a : Nat, a < s.heap.size → ¬ A a) : vx_Zq C n d A s s.heap := by
  refine ⟨va_Zqof hl hini h hA, ?_⟩
  obtain ⟨c, k, i, f, a, cell, h1, h2, h3, h4, h5, h6, h7, h8, h9⟩ := Cond.laysStatic_spec hl
  exact ⟨c, k, i, f, a, cell, h1, h2, h3, h4, h5, h6, h7, h8, h9, hA a (Array.getElem?_eq_some_iff.mp h5).1⟩
theorem vx_isRef {C n d : String} {v : Value} {A : Nat → Prop} {s : State} {args : Array Value} (h : va_Z C n d v A s s.heap) (hv : v.isRef = true) : (Cond.isRef (.static C n d)).before args s = true := by
  obtain ⟨cf, kf, fi, f, a, cell, h1, h2, h3, h4, h5, h6, h7, -⟩ := h
  have he : (Term.static C n d).eval args s none [] s = some v := by
    simp [Term.eval, State.fieldNamed?, h1, h2, h4, h5, h6, h7]
  simp only [Cond.before, Cond.holds, Cond.value, he]
  cases v <;> simp_all [Value.isRef]
theorem vx_isRefq {C n d : String} {A : Nat → Prop} {s : State} {args : Array Value} (h : va_Zq C n d A s s.heap) : (Cond.isRef (.static C n d)).before args s = true := by
  rcases h with h | ⟨t, h⟩
  · exact vx_isRef h rfl
  · exact vx_isRef h rfl
/-- the same frame, seen from here: as if the method were called anew in this heap -/
theorem vx_rebase {T : State} (X : Stand p l e R s m args below meth c T locs cells slots) {R' : Room} (hf : R'.frames ≤ R.frames) (hl : R'.locals ≤ R.locals) (hc : cells + R'.cells ≤ R.cells) (hs : slots + R'.slots ≤ R.slots) :
    Stand p l e R' ((T.setVm s.vm).setFrames (.invoking m args :: below)) m args below meth c T [] 0 0 := by
  have htop : (T.setVm s.vm).topJava?.isSome := X.here.top
  have hF : ((T.setVm s.vm).setFrames (.invoking m args :: below)).frames = .invoking m args :: below := State.frames_setFrames _ (State.cur_lt_of_top htop)
  obtain ⟨g₀, hg0⟩ := Option.isSome_iff_exists.mp htop
  obtain ⟨r, hr⟩ := State.topJava?_eq_some.mp hg0
  have hl9 : e.platform.stackLimits (T.setVm s.vm).me = e.platform.stackLimits s.me := X.limits
  have hb9 : (T.setVm s.vm).me.stackBytes = s.me.stackBytes := X.bytes
  refine ⟨X.admits, X.cas, X.clock, hF, ?_, X.hears, X.method, X.code, X.here, X.tail, X.warmed, ?_, ?_, ?_⟩
  · have h := X.room
    have hU : ((T.setVm s.vm).setFrames (.invoking m args :: below)).localsInUse = s.localsInUse := by
      rw [State.localsInUse_invoking hF (meth := meth) (c := c) X.method X.code, State.localsInUse_invoking X.frames X.method X.code]
    simp only [State.hasRoom, Bool.and_eq_true, decide_eq_true_eq] at h ⊢
    obtain ⟨⟨⟨⟨h1, h2, h3, h4, h5, h6⟩, h7⟩, h8⟩, h9⟩ := h
    rw [X.frames, List.length_cons] at h2 h3
    have q1 := X.heapSize
    have q2 := X.used
    simp only [hF, hU, List.length_cons, State.stackLimits_setFrames, State.stackBytes_setFrames, hl9, hb9]
    refine ⟨⟨⟨⟨by omega, by omega, by omega, by omega, by omega, h6⟩, ?_⟩, ?_⟩, X.book⟩
    · show T.heap.size + R'.cells ≤ e.platform.maxCells
      omega
    · show T.slotsUsed + R'.slots ≤ e.platform.maxSlots
      omega
  · rw [State.stackLimits_setFrames]; rfl
  · rw [State.stackBytes_setFrames]; rfl
  · refine ⟨?_, Nat.le_refl _, Nat.le_refl _, ?_, ?_, fun a c9 h9 => ⟨c9, h9, rfl, rfl, fun _ _ => rfl⟩⟩
    · obtain ⟨t, ht, -⟩ := State.frames_cons hr
      show T.setVm s.vm = { ((T.setVm s.vm).setFrames (.invoking m args :: below)).setFrames (T.setVm s.vm).frames with heap := T.heap, slotsUsed := T.slotsUsed }
      rw [State.setFrames_setFrames, State.setFrames_self ht]
      rfl
    · show T.slotsUsed = T.slotsUsed + ((T.heap.toList.drop T.heap.size).map (·.slots.size)).sum
      rw [List.drop_eq_nil_of_le (Nat.le_of_eq Array.length_toList)]
      rfl
    · show ((T.heap.toList.drop T.heap.size).map (·.slots.size)).sum ≤ 0
      rw [List.drop_eq_nil_of_le (Nat.le_of_eq Array.length_toList)]
      exact Nat.le_refl _
/-- 'throw new E()': new; dup; invokespecial; athrow -/
theorem vx_throw0 {cc : ByteArray} {pc : Nat} (hexec : p.tables.exec = Jvm.exec) (hb : c.code = cc) (hl : l.stackTraces = false) {own cls : String} {names : List String} {ik ic mc ms : Nat} {A : Nat → Prop}
    (hown : s.vm.findClass own = some m.cls) (hcls : Bundle.fit cls = true) (hnames : ∀ n ∈ names, Bundle.fit n = true)
    (hk : (Cond.classLink own ik cls).before args s = true) (hini : (Cond.initialized cls).before args s = true) (hat : ∀ w ∈ vx_at0 own ic cls names, w.before args s = true)
    (hgood : ∀ w ∈ Cond.classLink own ik cls :: Cond.initialized cls :: vx_at0 own ic cls names, vx_ot w = true)
    (hU : vx_Zq Bundle.tN "UNASSIGNED_STACK" Bundle.steD A s s.heap) (hN : vx_Zq Bundle.tN "SUPPRESSED_SENTINEL" Bundle.listD A s s.heap) (hS : va_S A s.heap H locs) (hsize : ls.size = c.maxLocals)
    (d0 : decode cc pc = .ok (.new ik, 3)) (d3 : decode cc (pc + 3) = .ok (.dup, 1)) (d4 : decode cc (pc + 4) = .ok (.invokespecial ic, 3)) (d7 : decode cc (pc + 7) = .ok (.athrow, 1))
    (hout : ∀ x ∈ c.exceptionTable.toList, covers x (pc + 7) = false)
    (hRframes : names.length + 3 < R.frames) (hRlocals : (rest.map fun v => v.category).sum + (13 * (names.length + 1) + 42) ≤ R.locals) (hRcells : cells + 1 ≤ R.cells) (hRslots : slots + 6 ≤ R.slots) (hlocks : meth.locks = false)
    (hx : ∀ t : State, s.vm.Alike t.vm → H.size ≤ t.heap.size → (∀ q : Nat, q < H.size → t.heap[q]? = H[q]?) → XC cls s t)
    (hf : ∀ z ∈ locs, free z.base) (hc : cells + 1 ≤ mc) (hs : slots + 6 ≤ ms) :
    W p l e R s m args below meth c H locs cells slots (vx_MQ below Qc XC args s mc ms free) (F0 m pc ls rest) := by
  intro T hT X
  have htr : e.platform.stackTraces = false := (show e.platform.stackTraces = l.stackTraces by rw [X.admits.platform]).trans hl
  have Y := vx_rebase X (R' := { frames := R.frames, locals := R.locals, cells := 1, slots := 6 }) (Nat.le_refl _) (Nat.le_refl _) hRcells hRslots
  obtain ⟨s', hA⟩ : ∃ z, z = (T.setVm s.vm).setFrames (.invoking m args :: below) := ⟨_, rfl⟩
  rw [← hA] at Y
  have hvm : s'.vm = s.vm := by rw [hA]; rfl
  have hhp : s'.heap = H := by rw [hA]; exact hT
  have hW0 : s.WarmedH s'.vm := by rw [hvm]; exact State.WarmedH.refl s
  have hat' : ∀ w ∈ vx_at0 own ic cls names, w.before args s' = true := fun w hw => vx_ot_at hW0 hvm.symm (hgood w (List.mem_cons_of_mem _ (List.mem_cons_of_mem _ hw))) (hat w hw)
  have hk' : (Cond.classLink own ik cls).before args s' = true := vx_ot_at hW0 hvm.symm (hgood _ List.mem_cons_self) hk
  have hini' : (Cond.initialized cls).before args s' = true := vx_ot_at hW0 hvm.symm (hgood _ (List.mem_cons_of_mem _ List.mem_cons_self)) hini
  have hU' : vx_Zq Bundle.tN "UNASSIGNED_STACK" Bundle.steD A s' s'.heap := by rw [hhp]; exact vx_Zq.moved hW0.alike (hU.kept hS.2.1)
  have hN' : vx_Zq Bundle.tN "SUPPRESSED_SENTINEL" Bundle.listD A s' s'.heap := by rw [hhp]; exact vx_Zq.moved hW0.alike (hN.kept hS.2.1)
  have h : ∀ w ∈ Bundle.ownAtoms0 own ic cls names, w.before args s' = true := vx_own hat' (vx_isRefq hU'.1) (vx_isRefq hN'.1) hU'.2.word hN'.2.word
  have hown' : s'.vm.findClass own = some m.cls := by rw [hvm]; exact hown
  have hins : (Cond.instantiable cls 6).before args s' = true := h _ (by simp [Bundle.ownAtoms0])
  obtain ⟨vm₁, cX, kX, hfX, hkX, -, -, X₁, st1⟩ := Y.newCold hexec (own := own) (C := cls) (index := ik) (n := 6) hown' hk' hins hini'
    (g := F0 m pc ls rest) rfl (by rw [hb]; exact d0) (Nat.le_refl _) (Nat.le_refl _)
  generalize hT1 : (T.setVm vm₁).pushCell { cls := cX, slots := kX.instanceTypes.map defaultValue, vm := .none } = T1 at X₁ st1
  have hcat : (Value.ref T.heap.size).category = 1 := rfl
  have hcellA : T1.heap[T.heap.size]? = some (freshCell cX kX) := by rw [← hT1]; exact State.heap_pushCell_size _ _
  have d3' : decode c.code (pc + 3) = .ok (.dup, 1) := by rw [hb]; exact d3
  obtain ⟨U, hsteps, hrun, hend, hW, hsame, ce, hce, hO⟩ := X₁.ctorThrow0 hexec htr (own := own) (cls := cls) (names := names) (ic := ic) hown' hcls hnames h (fun x hx => nomatch hx) hfX hkX hcellA (by rw [hhp, hT]; exact Nat.le_refl _)
    (g := { method := m, pc := pc + 4, locals := ls, stack := .ref T.heap.size :: .ref T.heap.size :: rest, locked := none }) rfl hsize rfl rfl (rest := rest) rfl
    (by rw [hb]; exact d4) (by rw [hb]; exact d7) hout hRframes (by simp only [List.map_cons, List.sum_cons, hcat]; omega) hlocks
  obtain ⟨f1, f2⟩ := vx_frame hsame
  rw [hhp] at f1 f2
  have hWs : s.WarmedH U.vm := State.WarmedH.trans hW0 hW
  have hcl : s.vm.findClass cls = some ce.cls := by
    have h9 := hO.cls
    rw [hvm] at h9
    exact h9
  have hall : s.sameButNew ({ U with vm := s.vm } : State) locs mc ms := by
    subst hA
    obtain ⟨e1, e2⟩ := hsame
    rw [State.setFrames_setFrames] at e1
    have h2 : (T.setVm s.vm).sameButNew ({ U with vm := s.vm } : State) [] (0 + 1) (0 + 6) := ⟨e1, e2⟩
    have h3 := X.same.trans h2
    rw [List.append_nil] at h3
    exact h3.mono hc hs
  refine ⟨U, ?_, .threw T.heap.size, hrun, hend, Or.inr ⟨T.heap.size, rfl, cls, ce, locs, hx U hWs.alike f1 (fun q hq => f2 q hq (fun z hz => nomatch hz)), hce, hO.vm, hcl, hWs, hall, hf⟩⟩
  refine st1 _ ?_
  show Steps p.tables e below (T1.setTop { method := m, pc := pc + 3, locals := ls, stack := .ref T.heap.size :: rest, locked := none }) _
  jvm_step X₁.here [X₁.here.top, hexec, d3', Value.category]
  exact hsteps
/-- 'throw new E("text")': new; dup; ldc; invokespecial; athrow -/
theorem vx_throwS {cc : ByteArray} {pc : Nat} (hexec : p.tables.exec = Jvm.exec) (hb : c.code = cc) (hl : l.stackTraces = false) {own cls text : String} {names : List String} {ik is ic mc ms sa : Nat} {A : Nat → Prop}
    (hown : s.vm.findClass own = some m.cls) (hcls : Bundle.fit cls = true) (hnames : ∀ n ∈ names, Bundle.fit n = true)
    (hk : (Cond.classLink own ik cls).before args s = true) (hini : (Cond.initialized cls).before args s = true) (hstr : vk_R own is text sa s) (hat : ∀ w ∈ vx_atS own ic cls names, w.before args s = true)
    (hgood : ∀ w ∈ Cond.classLink own ik cls :: Cond.initialized cls :: vx_atS own ic cls names, vx_ot w = true)
    (hU : vx_Zq Bundle.tN "UNASSIGNED_STACK" Bundle.steD A s s.heap) (hN : vx_Zq Bundle.tN "SUPPRESSED_SENTINEL" Bundle.listD A s s.heap) (hS : va_S A s.heap H locs) (hsize : ls.size = c.maxLocals)
    (d0 : decode cc pc = .ok (.new ik, 3)) (d3 : decode cc (pc + 3) = .ok (.dup, 1)) (d4 : decode cc (pc + 4) = .ok (.ldc is, 2)) (d6 : decode cc (pc + 6) = .ok (.invokespecial ic, 3)) (d9 : decode cc (pc + 9) = .ok (.athrow, 1))
    (hout : ∀ x ∈ c.exceptionTable.toList, covers x (pc + 9) = false)
    (hRframes : names.length + 3 < R.frames) (hRlocals : (rest.map fun v => v.category).sum + (13 * (names.length + 1) + 43) ≤ R.locals) (hRcells : cells + 1 ≤ R.cells) (hRslots : slots + 6 ≤ R.slots) (hlocks : meth.locks = false)
    (hx : ∀ t : State, s.vm.Alike t.vm → H.size ≤ t.heap.size → (∀ q : Nat, q < H.size → t.heap[q]? = H[q]?) → XC cls s t)
    (hf : ∀ z ∈ locs, free z.base) (hc : cells + 1 ≤ mc) (hs : slots + 6 ≤ ms) :
    W p l e R s m args below meth c H locs cells slots (vx_MQ below Qc XC args s mc ms free) (F0 m pc ls rest) := by
  intro T hT X
  have htr : e.platform.stackTraces = false := (show e.platform.stackTraces = l.stackTraces by rw [X.admits.platform]).trans hl
  have Y := vx_rebase X (R' := { frames := R.frames, locals := R.locals, cells := 1, slots := 6 }) (Nat.le_refl _) (Nat.le_refl _) hRcells hRslots
  obtain ⟨s', hA⟩ : ∃ z, z = (T.setVm s.vm).setFrames (.invoking m args :: below) := ⟨_, rfl⟩
  rw [← hA] at Y
  have hvm : s'.vm = s.vm := by rw [hA]; rfl
  have hhp : s'.heap = H := by rw [hA]; exact hT
  have hW0 : s.WarmedH s'.vm := by rw [hvm]; exact State.WarmedH.refl s
  have hat' : ∀ w ∈ vx_atS own ic cls names, w.before args s' = true := fun w hw => vx_ot_at hW0 hvm.symm (hgood w (List.mem_cons_of_mem _ (List.mem_cons_of_mem _ hw))) (hat w hw)
  have hk' : (Cond.classLink own ik cls).before args s' = true := vx_ot_at hW0 hvm.symm (hgood _ List.mem_cons_self) hk
  have hini' : (Cond.initialized cls).before args s' = true := vx_ot_at hW0 hvm.symm (hgood _ (List.mem_cons_of_mem _ List.mem_cons_self)) hini
  have hU' : vx_Zq Bundle.tN "UNASSIGNED_STACK" Bundle.steD A s' s'.heap := by rw [hhp]; exact vx_Zq.moved hW0.alike (hU.kept hS.2.1)
  have hN' : vx_Zq Bundle.tN "SUPPRESSED_SENTINEL" Bundle.listD A s' s'.heap := by rw [hhp]; exact vx_Zq.moved hW0.alike (hN.kept hS.2.1)
  have h : ∀ w ∈ Bundle.ownAtoms own ic cls names, w.before args s' = true := vx_own hat' (vx_isRefq hU'.1) (vx_isRefq hN'.1) hU'.2.word hN'.2.word
  have hown' : s'.vm.findClass own = some m.cls := by rw [hvm]; exact hown
  have hins : (Cond.instantiable cls 6).before args s' = true := h _ (by simp [Bundle.ownAtoms])
  obtain ⟨vm₁, cX, kX, hfX, hkX, -, -, X₁, st1⟩ := Y.newCold hexec (own := own) (C := cls) (index := ik) (n := 6) hown' hk' hins hini'
    (g := F0 m pc ls rest) rfl (by rw [hb]; exact d0) (Nat.le_refl _) (Nat.le_refl _)
  generalize hT1 : (T.setVm vm₁).pushCell { cls := cX, slots := kX.instanceTypes.map defaultValue, vm := .none } = T1 at X₁ st1
  have hcat : (Value.ref T.heap.size).category = 1 := rfl
  have hcellA : T1.heap[T.heap.size]? = some (freshCell cX kX) := by rw [← hT1]; exact State.heap_pushCell_size _ _
  have d3' : decode c.code (pc + 3) = .ok (.dup, 1) := by rw [hb]; exact d3
  have d4' : decode c.code (pc + 4) = .ok (.ldc is, 2) := by rw [hb]; exact d4
  have hstr' : vk_R own is text sa s' := vk_R.warm hW0 hstr
  obtain ⟨U, hsteps, hrun, hend, hW, hsame, ce, hce, hO⟩ := X₁.ctorThrowS hexec htr (own := own) (cls := cls) (names := names) (ic := ic) hown' hcls hnames h (fun x hx => nomatch hx) hfX hkX hcellA (by rw [hhp, hT]; exact Nat.le_refl _) (msg := .ref sa) rfl
    (g := { method := m, pc := pc + 6, locals := ls, stack := .ref sa :: .ref T.heap.size :: .ref T.heap.size :: rest, locked := none }) rfl hsize rfl rfl (rest := rest) rfl
    (by rw [hb]; exact d6) (by rw [hb]; exact d9) hout hRframes (by simp only [List.map_cons, List.sum_cons, hcat]; omega) hlocks
  obtain ⟨f1, f2⟩ := vx_frame hsame
  rw [hhp] at f1 f2
  have hWs : s.WarmedH U.vm := State.WarmedH.trans hW0 hW
  have hcl : s.vm.findClass cls = some ce.cls := by
    have h9 := hO.cls
    rw [hvm] at h9
    exact h9
  have hall : s.sameButNew ({ U with vm := s.vm } : State) locs mc ms := by
    subst hA
    obtain ⟨e1, e2⟩ := hsame
    rw [State.setFrames_setFrames] at e1
    have h2 : (T.setVm s.vm).sameButNew ({ U with vm := s.vm } : State) [] (0 + 1) (0 + 6) := ⟨e1, e2⟩
    have h3 := X.same.trans h2
    rw [List.append_nil] at h3
    exact h3.mono hc hs
  refine ⟨U, ?_, .threw T.heap.size, hrun, hend, Or.inr ⟨T.heap.size, rfl, cls, ce, locs, hx U hWs.alike f1 (fun q hq => f2 q hq (fun z hz => nomatch hz)), hce, hO.vm, hcl, hWs, hall, hf⟩⟩
  refine st1 _ ?_
  show Steps p.tables e below (T1.setTop { method := m, pc := pc + 3, locals := ls, stack := .ref T.heap.size :: rest, locked := none }) _
  jvm_step X₁.here [X₁.here.top, hexec, d3', Value.category]
  exact X₁.ldcString hexec (own := own) (text := text) (index := is) (a := sa) hown' hstr'.1 hstr'.2
    (g := { method := m, pc := pc + 4, locals := ls, stack := .ref T.heap.size :: .ref T.heap.size :: rest, locked := none }) rfl d4' _ hsteps
/-- 'throw new E("text")', the text by a wide index -/
theorem vx_throwSW {cc : ByteArray} {pc : Nat} (hexec : p.tables.exec = Jvm.exec) (hb : c.code = cc) (hl : l.stackTraces = false) {own cls text : String} {names : List String} {ik is ic mc ms sa : Nat} {A : Nat → Prop}
    (hown : s.vm.findClass own = some m.cls) (hcls : Bundle.fit cls = true) (hnames : ∀ n ∈ names, Bundle.fit n = true)
    (hk : (Cond.classLink own ik cls).before args s = true) (hini : (Cond.initialized cls).before args s = true) (hstr : vk_R own is text sa s) (hat : ∀ w ∈ vx_atS own ic cls names, w.before args s = true)
    (hgood : ∀ w ∈ Cond.classLink own ik cls :: Cond.initialized cls :: vx_atS own ic cls names, vx_ot w = true)
    (hU : vx_Zq Bundle.tN "UNASSIGNED_STACK" Bundle.steD A s s.heap) (hN : vx_Zq Bundle.tN "SUPPRESSED_SENTINEL" Bundle.listD A s s.heap) (hS : va_S A s.heap H locs) (hsize : ls.size = c.maxLocals)
    (d0 : decode cc pc = .ok (.new ik, 3)) (d3 : decode cc (pc + 3) = .ok (.dup, 1)) (d4 : decode cc (pc + 4) = .ok (.ldc_w is, 3)) (d7 : decode cc (pc + 7) = .ok (.invokespecial ic, 3)) (d10 : decode cc (pc + 10) = .ok (.athrow, 1))
    (hout : ∀ x ∈ c.exceptionTable.toList, covers x (pc + 10) = false)
    (hRframes : names.length + 3 < R.frames) (hRlocals : (rest.map fun v => v.category).sum + (13 * (names.length + 1) + 43) ≤ R.locals) (hRcells : cells + 1 ≤ R.cells) (hRslots : slots + 6 ≤ R.slots) (hlocks : meth.locks = false)
    (hx : ∀ t : State, s.vm.Alike t.vm → H.size ≤ t.heap.size → (∀ q : Nat, q < H.size → t.heap[q]? = H[q]?) → XC cls s t)
    (hf : ∀ z ∈ locs, free z.base) (hc : cells + 1 ≤ mc) (hs : slots + 6 ≤ ms) :
    W p l e R s m args below meth c H locs cells slots (vx_MQ below Qc XC args s mc ms free) (F0 m pc ls rest) := by
  intro T hT X
  have htr : e.platform.stackTraces = false := (show e.platform.stackTraces = l.stackTraces by rw [X.admits.platform]).trans hl
  have Y := vx_rebase X (R' := { frames := R.frames, locals := R.locals, cells := 1, slots := 6 }) (Nat.le_refl _) (Nat.le_refl _) hRcells hRslots
  obtain ⟨s', hA⟩ : ∃ z, z = (T.setVm s.vm).setFrames (.invoking m args :: below) := ⟨_, rfl⟩
  rw [← hA] at Y
  have hvm : s'.vm = s.vm := by rw [hA]; rfl
  have hhp : s'.heap = H := by rw [hA]; exact hT
  have hW0 : s.WarmedH s'.vm := by rw [hvm]; exact State.WarmedH.refl s
  have hat' : ∀ w ∈ vx_atS own ic cls names, w.before args s' = true := fun w hw => vx_ot_at hW0 hvm.symm (hgood w (List.mem_cons_of_mem _ (List.mem_cons_of_mem _ hw))) (hat w hw)
  have hk' : (Cond.classLink own ik cls).before args s' = true := vx_ot_at hW0 hvm.symm (hgood _ List.mem_cons_self) hk
  have hini' : (Cond.initialized cls).before args s' = true := vx_ot_at hW0 hvm.symm (hgood _ (List.mem_cons_of_mem _ List.mem_cons_self)) hini
  have hU' : vx_Zq Bundle.tN "UNASSIGNED_STACK" Bundle.steD A s' s'.heap := by rw [hhp]; exact vx_Zq.moved hW0.alike (hU.kept hS.2.1)
  have hN' : vx_Zq Bundle.tN "SUPPRESSED_SENTINEL" Bundle.listD A s' s'.heap := by rw [hhp]; exact vx_Zq.moved hW0.alike (hN.kept hS.2.1)
  have h : ∀ w ∈ Bundle.ownAtoms own ic cls names, w.before args s' = true := vx_own hat' (vx_isRefq hU'.1) (vx_isRefq hN'.1) hU'.2.word hN'.2.word
  have hown' : s'.vm.findClass own = some m.cls := by rw [hvm]; exact hown
  have hins : (Cond.instantiable cls 6).before args s' = true := h _ (by simp [Bundle.ownAtoms])
  obtain ⟨vm₁, cX, kX, hfX, hkX, -, -, X₁, st1⟩ := Y.newCold hexec (own := own) (C := cls) (index := ik) (n := 6) hown' hk' hins hini'
    (g := F0 m pc ls rest) rfl (by rw [hb]; exact d0) (Nat.le_refl _) (Nat.le_refl _)
  generalize hT1 : (T.setVm vm₁).pushCell { cls := cX, slots := kX.instanceTypes.map defaultValue, vm := .none } = T1 at X₁ st1
  have hcat : (Value.ref T.heap.size).category = 1 := rfl
  have hcellA : T1.heap[T.heap.size]? = some (freshCell cX kX) := by rw [← hT1]; exact State.heap_pushCell_size _ _
  have d3' : decode c.code (pc + 3) = .ok (.dup, 1) := by rw [hb]; exact d3
  have d4' : decode c.code (pc + 4) = .ok (.ldc_w is, 3) := by rw [hb]; exact d4
  have hstr' : vk_R own is text sa s' := vk_R.warm hW0 hstr
  obtain ⟨U, hsteps, hrun, hend, hW, hsame, ce, hce, hO⟩ := X₁.ctorThrowS hexec htr (own := own) (cls := cls) (names := names) (ic := ic) hown' hcls hnames h (fun x hx => nomatch hx) hfX hkX hcellA (by rw [hhp, hT]; exact Nat.le_refl _) (msg := .ref sa) rfl
    (g := { method := m, pc := pc + 7, locals := ls, stack := .ref sa :: .ref T.heap.size :: .ref T.heap.size :: rest, locked := none }) rfl hsize rfl rfl (rest := rest) rfl
    (by rw [hb]; exact d7) (by rw [hb]; exact d10) hout hRframes (by simp only [List.map_cons, List.sum_cons, hcat]; omega) hlocks
  obtain ⟨f1, f2⟩ := vx_frame hsame
  rw [hhp] at f1 f2
  have hWs : s.WarmedH U.vm := State.WarmedH.trans hW0 hW
  have hcl : s.vm.findClass cls = some ce.cls := by
    have h9 := hO.cls
    rw [hvm] at h9
    exact h9
  have hall : s.sameButNew ({ U with vm := s.vm } : State) locs mc ms := by
    subst hA
    obtain ⟨e1, e2⟩ := hsame
    rw [State.setFrames_setFrames] at e1
    have h2 : (T.setVm s.vm).sameButNew ({ U with vm := s.vm } : State) [] (0 + 1) (0 + 6) := ⟨e1, e2⟩
    have h3 := X.same.trans h2
    rw [List.append_nil] at h3
    exact h3.mono hc hs
  refine ⟨U, ?_, .threw T.heap.size, hrun, hend, Or.inr ⟨T.heap.size, rfl, cls, ce, locs, hx U hWs.alike f1 (fun q hq => f2 q hq (fun z hz => nomatch hz)), hce, hO.vm, hcl, hWs, hall, hf⟩⟩
  refine st1 _ ?_
  show Steps p.tables e below (T1.setTop { method := m, pc := pc + 3, locals := ls, stack := .ref T.heap.size :: rest, locked := none }) _
  jvm_step X₁.here [X₁.here.top, hexec, d3', Value.category]
  exact X₁.ldcStringW hexec (own := own) (text := text) (index := is) (a := sa) hown' hstr'.1 hstr'.2
    (g := { method := m, pc := pc + 4, locals := ls, stack := .ref T.heap.size :: .ref T.heap.size :: rest, locked := none }) rfl d4' _ hsteps
end Ends
section Bodies
variable {l : Launch}
theorem vx_ofW {y : MethodName} {ws ws' : List Cond} {rm : Room} {Pc : Array Value → State → Prop} {Qc : Array Value → State → Outcome → State → Prop} {XC : String → State → State → Prop} {mc ms : Nat} {free : Addr → Prop} {cc : ByteArray} {maxL : Nat} {ret : Option FieldType}
    (hy : plainName y.cls = true) (hw : ws = Cond.code y cc maxL ret :: ws')
    (body : ∀ p e s m args below meth c s₁, BodyLoose p l y (headSpec ws rm) cc maxL ret e s m args below meth c s₁ → c.maxLocals = maxL → (∀ x ∈ c.exceptionTable.toList, False) → Pc args s →
      W p l e (headSpec ws rm).room s m args below meth c s.heap [] 0 0 (vx_MQ below Qc XC args s mc ms free) (entryFrame m args maxL)) : vx_Met l y ws rm Pc Qc XC mc ms free := by
  refine MetFree.of_bodyS (code := cc) (maxLocals := maxL) (ret := ret) hy ?_ ?_
  · intro args s m h hn
    obtain ⟨meth, c, h1, h2, h3, h4, h5, h6, -, -⟩ := Cond.code_spec hn (atoms_spec (ws := ws) h _ (by rw [hw]; exact List.mem_cons_self))
    exact ⟨meth, c, h1, h2, h3, h4, h5, h6⟩
  · intro p e s m args below meth c s₁ B hml hP _
    have hh0 : s₁.heap = s.heap := by rw [B.state]; rfl
    have ht : ∀ x ∈ c.exceptionTable.toList, False := by
      obtain ⟨meth9, c9, h1, h2, -, -, -, -, h7, -⟩ := Cond.code_spec B.named (atoms_spec (ws := ws) B.pre _ (by rw [hw]; exact List.mem_cons_self))
      cases Option.some.inj (h1.symm.trans B.method)
      cases Option.some.inj (h2.symm.trans (Stand.of_body B).code)
      intro x hx
      rw [Array.isEmpty_iff.mp h7] at hx
      cases hx
    obtain ⟨t, a1, o, b1, b2, b3⟩ := body p e s m args below meth c s₁ B hml ht hP s₁ hh0 (Stand.of_body B)
    exact ⟨t, o, a1, b1, b2, b3⟩
/-- the table of a body with handlers -/
theorem vx_table {p : Program} {x y : MethodName} {S : Spec} {cc bytes : ByteArray} {maxL maxL' : Nat} {ret ret' : Option FieldType} {e : Env} {s s₁ : State} {m : MethodId} {args : Array Value} {below : List Frame} {meth : Method} {c : Code} {hh : List (Nat × Nat × Nat × Nat)}
    (B : BodyLoose p l y S cc maxL ret e s m args below meth c s₁) (h : (Cond.codeWith y bytes maxL' ret' hh).before args s = true) : c.exceptionTable.toList = tableOf hh := by
  obtain ⟨m9, meth9, c9, hn9, h1, h2, -, -, h6, -⟩ := Cond.codeWith_spec h
  cases Option.some.inj (hn9.symm.trans B.named)
  cases Option.some.inj (h1.symm.trans B.method)
  cases Option.some.inj (h2.symm.trans (Stand.of_body B).code)
  rw [← h6, table_eq]
end Bodies
end VXA
/-! ===== END ===== -/
/-! ===== BEGIN a static call of a method with an exception table ===== -/
section VXS
variable {p : Program} {l : Launch} {e : Env} {R : Room} {s : State} {m : MethodId} {args : Array Value} {below : List Frame} {meth : Method} {c : Code} {T : State} {H : Heap} {locs : List Loc} {cells slots : Nat}
abbrev vx_CSW (R : Room) (s : State) (args : Array Value) (own : String) (index : Nat) (y : MethodName) (bytes : ByteArray) (maxL : Nat) (ret : Option FieldType) (hh : List (Nat × Nat × Nat × Nat)) (ws : List Cond) (rm : Room) (mc ms n : Nat) : Prop :=
  (rm.cells = mc ∧ rm.slots = ms ∧ rm.frames + 1 ≤ R.frames ∧ 8 + (maxL + 11) + rm.locals ≤ R.locals ∧ (∀ w ∈ ws, ∀ (a' : Array Value) (U : State), s.WarmedH U.vm → w.before a' U = true) ∧ Cond.codeWith y bytes maxL ret hh ∈ ws) ∧
  (Cond.codeWith y bytes maxL ret hh).before args s = true ∧ (Cond.initialized y.cls).before args s = true ∧ (y.cls ≠ "java/lang/invoke/MethodHandle" ∧ y.cls ≠ "java/lang/invoke/VarHandle") ∧
  (∀ sig, parseMethodDescriptor y.desc = some sig → n = sig.parameters.length) ∧ (Cond.methodLink own index y).before args s = true ∧ (Cond.static y).before args s = true
theorem vx_cwSW {own : String} {index maxL mc ms : Nat} {y : MethodName} {bytes : ByteArray} {ret : Option FieldType} {hh : List (Nat × Nat × Nat × Nat)} {Ts ws ws' : List Cond} {rm : Room} (n : Nat) (ht : ∀ w ∈ Ts, w.before args s = true) (hT : GoodIn Ts (va_wsS own index y ws)) (hw : ws = Cond.codeWith y bytes maxL ret hh :: ws') (hrc : rm.cells = mc) (hrs : rm.slots = ms)
    (hd : y.cls ≠ "java/lang/invoke/MethodHandle" ∧ y.cls ≠ "java/lang/invoke/VarHandle" ∧ (parseMethodDescriptor y.desc).map (fun d => d.parameters.length) = some n) (hR : rm.frames + 1 ≤ R.frames ∧ 8 + (maxL + 11) + rm.locals ≤ R.locals) :
    vx_CSW R s args own index y bytes maxL ret hh ws rm mc ms n := by
  have ok : ∀ w ∈ va_wsS own index y ws, w.before args s = true := fun w h => ht w (hT w h).1
  have hG : GoodIn Ts ws := fun w h => hT w (by unfold va_wsS; exact List.mem_append_right _ h)
  have hc : Cond.codeWith y bytes maxL ret hh ∈ ws := by rw [hw]; exact List.mem_cons_self
  refine ⟨⟨hrc, hrs, hR.1, hR.2, pay_in ht hG, hc⟩, ht _ (hG _ hc).1, ok _ (by simp [va_wsS]), ⟨hd.1, hd.2.1⟩, fun sig h => ?_, ok _ (by simp [va_wsS]), ok _ (by simp [va_wsS])⟩
  have h2 := hd.2.2
  rw [h] at h2
  exact (Option.some.inj h2).symm
theorem vx_callSW (X : Stand p l e R s m args below meth c T locs cells slots) (hexec : p.tables.exec = Jvm.exec) {own : String} {index : Nat} {y : MethodName} {bytes : ByteArray} {maxL : Nat} {ret : Option FieldType} {hh : List (Nat × Nat × Nat × Nat)}
    (hown : s.vm.findClass own = some m.cls) (hlink : (Cond.methodLink own index y).before args s = true) (hstat : (Cond.static y).before args s = true) (hinit : (Cond.initialized y.cls).before args s = true)
    (hcode : (Cond.codeWith y bytes maxL ret hh).before args s = true) (hy : y.cls ≠ "java/lang/invoke/MethodHandle" ∧ y.cls ≠ "java/lang/invoke/VarHandle")
    {W9 : Nat} {Pre : Pt → Array Value → Prop} {Post : Pt → Array Value → Option Value → Pt → Prop} (hK : Back l R p e below s args y 3 W9 Pre Post)
    {g : JFrame} (hg : g.method = m) (hsize : g.locals.size = c.maxLocals) {argsL rest : List Value} (hlen : ∀ sig, parseMethodDescriptor y.desc = some sig → argsL.length = sig.parameters.length)
    (hstack : g.stack = argsL.reverse ++ rest) (hW : 2 * g.monitorRoom + (rest.map fun v => v.category).sum ≤ W9) (hdg : decode c.code g.pc = .ok (.invokestatic index, 3))
    (hpre : ∀ vm₁, s.WarmedH vm₁ → Pre ⟨T.setVm vm₁, locs, cells, slots⟩ argsL.toArray) :
    ∃ (v : Option Value) (vm₁ : Vm) (B : Pt), s.WarmedH vm₁ ∧ Stand p l e R s m args below meth c B.U B.locs B.cells B.slots ∧ Post ⟨T.setVm vm₁, locs, cells, slots⟩ argsL.toArray v B ∧
      ∀ target, Steps p.tables e below (B.U.setTop { g with pc := g.pc + 3, stack := v.toList ++ rest }) target → Steps p.tables e below (T.setTop g) target := by
  obtain ⟨mk, methM, cM, hnamed, hmethM, -, -, -, -, -, -, hsigM⟩ := Cond.codeWith_spec hcode
  have hstatic : methM.isStatic = true := Cond.static_spec hnamed hmethM hstat
  obtain ⟨kP, hkP, -⟩ := className_of_methodNamed hnamed
  have hinitP : kP.init = .initialized := Cond.initialized_spec (findClass_of_methodNamed hnamed) hkP hinit
  obtain ⟨vm₁, X₁, hstep₁⟩ := X.invokestatic hexec hown hlink hnamed hmethM hstatic hkP hinitP hy (g := g) hg (argsL := argsL) (rest := rest) (hlen _ hsigM) hstack hdg
  obtain ⟨v, B, X', hpost, hsteps⟩ := hK m meth c ⟨T.setVm vm₁, locs, cells, slots⟩ { g with stack := rest } (.invokestatic index) mk argsL.toArray X₁ hg hsize hdg hW (X₁.named hnamed) (hpre vm₁ X₁.warmed)
  exact ⟨v, vm₁, B, X₁.warmed, X', hpost, fun target h => hstep₁ _ fun acts => by rw [doInvoke_state]; exact hsteps.trans h⟩
theorem vx_runSW {y : MethodName} {bytes cc : ByteArray} {maxL nL mc ms n index : Nat} {ret : Option FieldType} {hh : List (Nat × Nat × Nat × Nat)} {ws : List Cond} {rm : Room} {Pc : Array Value → State → Prop} {Qc : Array Value → State → Outcome → State → Prop} {free : Addr → Prop} {Ts : List Cond} {own : String} {As rest : List Value} {g : JFrame}
    (S : CallFix p m c cc nL s args Ts own) (hM : Met l y ws rm Pc Qc mc ms free) (cw : vx_CSW R s args own index y bytes maxL ret hh ws rm mc ms n) (hp : PreS s H Pc As)
    (hg : g.method = m) (hn : As.length = n) (hsize : g.locals.size = nL) (hstack : g.stack = As.reverse ++ rest) (hW : 2 * g.monitorRoom + (rest.map fun v => v.category).sum ≤ 8) (hdg : decode cc g.pc = .ok (.invokestatic index, 3)) (hf : cells + mc ≤ R.cells ∧ slots + ms ≤ R.slots) :
    va_Run p l e R s m args below meth c H locs cells slots mc ms g rest (Qc As.toArray) (free) := by
  obtain ⟨⟨hrc, hrs, hfr, hlo, hws, hcw⟩, hcode, hini, hy, hlen, hl, hstt⟩ := cw
  have hK : Back l R p e below s args y 3 8 (PreOf R mc ms Pc) (PostOf Qc mc ms free) := va_backW (hh := hh) (bytes := bytes) (maxL := maxL) (ret := ret) hM hp.1 hrc hrs hfr hlo hws hcw (fun a' U hW => word_at hW (Or.inl (by first | rfl | simp [Cond.onTables, Cond.keeps, Cond.steady])) hini)
  obtain ⟨hx, hb, hml, ho, -⟩ := S
  intro T hT X
  obtain ⟨v, vm₁, ⟨U', l2, c2, s2⟩, hW₁, X', ⟨g', mk, t, L, e1, e2, hq, h1, hL, h2, h3⟩, st⟩ := vx_callSW X hx (hh := hh) (bytes := bytes) (maxL := maxL) (ret := ret) ho hl hstt hini hcode hy hK hg (hsize.trans hml.symm) (argsL := As) (rest := rest) (fun sig h => hn.trans (hlen sig h)) hstack hW (by rw [hb]; exact hdg)
    (fun vm₁ hW₁ => ⟨hf.1, hf.2, hp.2 (T.setVm vm₁) hT hW₁⟩)
  dsimp only [Pt.U, Pt.locs, Pt.cells, Pt.slots] at X' e1 e2 h1 h2 h3 st
  subst h1; subst h2; subst h3
  exact ⟨v, (T.setVm vm₁).calling g' mk As.toArray, t, U', L, hT, X', hL, e1, e2, hq, st⟩
/-- not caught here, past rows that name other classes: it goes on to the caller -/
theorem vx_outP {p : Program} {l : Launch} {e : Env} {R : Room} {s : State} {m : MethodId} {args : Array Value} {below : List Frame} {meth : Method} {c : Code} {H : Heap} {locs : List Loc} {cells slots : Nat} {free : Addr → Prop} {ls : Array Slot} {rest : List Value} {Qc : Array Value → State → Outcome → State → Prop} {XC : String → State → State → Prop}
    {pc : Nat} {own E : String} {ce : Cell} {q : Addr} {mc ms : Nat} (hown : s.vm.findClass own = some m.cls) (hlocks : meth.locks = false)
    (hpass : ∀ z ∈ c.exceptionTable.toList, covers z pc = false ∨ (z.catchType ≠ 0 ∧ ∃ nm : String, (Cond.classLink own z.catchType nm).before args s = true ∧ va_Nc E nm s)) (hcell : H[q]? = some ce) (hv : ce.vm = .none) (hcl : s.vm.findClass E = some ce.cls)
    (hx : ∀ t : State, t.heap = H → s.vm.Alike t.vm → XC E s t) (hf : ∀ z ∈ locs, free z.base) (hc : cells ≤ mc) (hs : slots ≤ ms) :
    vx_W p l e R s m args below meth c H locs cells slots (vx_MQ below Qc XC args s mc ms free) (F0 m pc ls rest) q := by
  intro T hT X
  have hpl : e.platform.magicAccessors = ({} : Platform).magicAccessors := by rw [X.admits.platform]
  obtain ⟨vm', hW', X', st⟩ := X.outThrough hlocks q (g := F0 m pc ls rest) rfl rfl rfl (cell := ce) (by rw [hT]; exact hcell) (by rw [hv]; rfl)
    (by obtain ⟨k9, h9, -⟩ := Vm.findClass_spec hcl; exact ⟨k9, h9⟩) (fun z hz => by
      rcases hpass z hz with h | ⟨hz0, nm, hl1, hn1⟩
      · exact Or.inl h
      · obtain ⟨c6, hc6, hcl6⟩ := Cond.classLink_spec hown hl1 e.platform hpl
        obtain ⟨a8, b8, h1, h2, h3⟩ := hn1
        cases Option.some.inj (h1.symm.trans hcl)
        cases Option.some.inj (h2.symm.trans hc6)
        exact Or.inr ⟨hz0, _, hcl6, h3⟩)
  obtain ⟨g₀, hfr⟩ := X'.frames_eq
  have hcell9 : ((T.setVm vm').setFrames (.throwing q :: below)).heap[q]? = some ce := by
    show T.heap[q]? = some ce
    rw [hT]; exact hcell
  have hend : Ended ((T.setVm vm').setFrames (.throwing q :: below)) below (.threw q) := State.frames_setFrames _ (State.cur_lt_of_frames hfr)
  refine ⟨(T.setVm vm').setFrames (.throwing q :: below), ?_, .threw q, X'.here.running, hend, Or.inr ⟨q, rfl, E, ce, locs, hx _ hT (X'.ends _).1.alike, hcell9, hv, hcl, (X'.ends _).1, (X'.ends _).2.mono hc hs, hf⟩⟩
  rw [X.pushThrowing_eq]
  exact st
/-- a thing of a world lies in the heap -/
theorem vx_lt {D : va_G} {cl : List vw_C} {ws : va_W} {H1 : Heap} (h : va_P D cl ws H1) {k : Nat} {q : Nat × va_E} (hk : ws[k]? = some q) : q.1 < H1.size := (h k q hk).lt
end VXS
/-! ===== END ===== -/
/-! ===== BEGIN methods with a table of their own: called by a name, returning or throwing ===== -/
section VXH
/-! vx_backW, vx_callVX, vx_callSX, vx_callVW, vx_runVW, vx_runVX, vx_runSX, vx_ofWH follow the same proofs as their sisters above (Free/Laws.lean, Shelf42/LK1.lean); vx_outP calls Shelf42/NT130.lean (outThrough). -/
section
variable {l : Launch} {R : Room} {p : Program} {e : Env} {below : List Frame} {s : State} {sargs : Array Value} {y : MethodName} {len W9 : Nat}
theorem vx_backW {ws : List Cond} {rm : Room} {Pc : Array Value → State → Prop} {Qc : Array Value → State → Outcome → State → Prop} {XC : String → State → State → Prop} {mc ms : Nat} {free : Addr → Prop} {bytes : ByteArray} {maxL : Nat} {ret : Option FieldType} {hh : List (Nat × Nat × Nat × Nat)}
    (hM : vx_Met l y ws rm Pc Qc XC mc ms free) (hblind : FrameBlind Pc) (hrc : rm.cells = mc) (hrs : rm.slots = ms)
    (hframes : rm.frames + 1 ≤ R.frames) (hlocals : W9 + (maxL + 11) + rm.locals ≤ R.locals)
    (hws : ∀ w ∈ ws, ∀ a' U, s.WarmedH U.vm → w.before a' U = true) (hcode : Cond.codeWith y bytes maxL ret hh ∈ ws) (hinit : ∀ a' U, s.WarmedH U.vm → (Cond.initialized y.cls).before a' U = true) :
    vx_Back l R p e below s sargs y len W9 (PreOf R mc ms Pc) (PostOf Qc mc ms free) (vx_Post XC mc ms free) := by
  intro m meth c A g ig mk a X hg hsize hdg hW hn hp
  have h1 : (headSpec ws rm).pre.before a A.U = true := atoms_intro fun w hw => hws w hw _ _ X.warmed
  have h2 : (Cond.codeWith y bytes maxL ret hh).before a A.U = true := hws _ hcode _ _ X.warmed
  have h3 : (Cond.initialized y.cls).before a A.U = true := hinit _ _ X.warmed
  have h4 : A.cells + (headSpec ws rm).room.cells ≤ R.cells := by rw [show (headSpec ws rm).room.cells = mc from hrc]; exact hp.1
  have h5 : A.slots + (headSpec ws rm).room.slots ≤ R.slots := by rw [show (headSpec ws rm).room.slots = ms from hrs]; exact hp.2.1
  have hPc : Pc a (A.U.calling g mk a) := hblind _ _ _ _ hp.2.2
  obtain ⟨U, Ls, c0, s0⟩ := A
  dsimp only [Pt.U, Pt.locs, Pt.cells, Pt.slots] at h1 h2 h3 h4 h5 X hn hPc ⊢
  obtain ⟨m9, methY, cY, hn9, hmY, hcY, -, hlY, -⟩ := Cond.codeWith_spec h2
  cases Option.some.inj (hn9.symm.trans hn)
  obtain ⟨kY, hkY, -⟩ := className_of_methodNamed hn
  have hinitY : kY.init = .initialized := Cond.initialized_spec (findClass_of_methodNamed hn) hkY h3
  have h : At U g.method c below := by rw [hg]; exact X.here
  have hlocals9 : W9 + (maxL + 11) + (headSpec ws rm).room.locals ≤ R.locals := hlocals
  have happ : (headSpec ws rm).appliesLoose y e.platform (U.calling g mk a) = true :=
    Spec.appliesLoose_calling (g := g) h hdg hn hkY hinitY
      (X.room_calling (g := g) (R' := (headSpec ws rm).room) hsize hmY hcY hframes (by rw [hlY]; omega) h4 h5) h1
  obtain ⟨mid, hmid⟩ := h.above
  have hfr : (U.setTop g).frames = (.java g :: mid) ++ below := by rw [State.frames_setTop' g h.top, hmid]; rfl
  obtain ⟨o, s₂, hsteps, -, hend, hq⟩ := Steps.callFree hM p X.admits X.cas X.clock (acts := []) hfr happ hPc trivial
  have hq' : vx_Q Qc XC mc ms free a (U.calling g mk a) o s₂ := hq
  rw [State.frames_setTop' g h.top] at hend
  obtain ⟨g₀, hg0⟩ := Option.isSome_iff_exists.mp h.top
  obtain ⟨r, hr⟩ := State.topJava?_eq_some.mp hg0
  have hr' : (({ U with heap := s₂.heap, slotsUsed := s₂.slotsUsed } : State).setVm s₂.vm).frames = .java g₀ :: r := hr
  rcases hq' with ⟨hqc, L, hfe, hL⟩ | ⟨q, rfl, E, ce, L, hx, hce, hcv, hcl, hW₂, hsm, hL⟩
  · obtain ⟨⟨v, rfl⟩, hW₂, e2, q2, q3, q4, q5, q6⟩ := id hfe
    have e3 : s₂ = ({ (U.calling g mk a).setFrames s₂.frames with heap := s₂.heap, slotsUsed := s₂.slotsUsed } : State).setVm s₂.vm := by
      have : s₂ = ({ s₂ with vm := (U.calling g mk a).vm } : State).setVm s₂.vm := rfl
      rw [e2] at this
      exact this
    obtain ⟨c₂, i₂, len₂, hc₂, hd₂, hf₂⟩ := hend
    have hW' : U.WarmedH s₂.vm := hW₂
    have hcc : c₂ = c := by
      have h1 : s₂.code? g.method = U.code? g.method := by
        rw [State.code?_eq, State.code?_eq, hW'.alike.method?]
      exact Option.some.inj (hc₂.symm.trans (h1.trans h.code))
    subst hcc
    have hlen : len₂ = len := by rw [hdg] at hd₂; cases hd₂; rfl
    subst hlen
    have hs₂ : s₂ = (({ U with heap := s₂.heap, slotsUsed := s₂.slotsUsed } : State).setVm s₂.vm).setTop { g with pc := g.pc + len₂, stack := v.toList ++ g.stack } := by
      refine e3.trans ?_
      rw [hf₂, State.calling_eq h.top, State.setFrames_setFrames, State.setTop_of_frames _ hr', hr]
      rfl
    have hsame : U.sameButNew ({ U with heap := s₂.heap, slotsUsed := s₂.slotsUsed } : State) L mc ms := by
      refine ⟨?_, q2, q3, q4, q5, q6⟩
      obtain ⟨t, ht, -⟩ := State.frames_cons hr
      show ({ U with heap := s₂.heap, slotsUsed := s₂.slotsUsed } : State) = { U.setFrames U.frames with heap := s₂.heap, slotsUsed := s₂.slotsUsed }
      rw [State.setFrames_self ht]
    subst hg
    refine Or.inl ⟨v, ⟨(({ U with heap := s₂.heap, slotsUsed := s₂.slotsUsed } : State).setVm s₂.vm), Ls ++ L, c0 + mc, s0 + ms⟩,
      ⟨X.admits, X.cas, X.clock, X.frames, X.room, X.hears, X.method, X.code, (X.here.setHeapUsed s₂.heap s₂.slotsUsed).setVm hW'.alike, X.tail, State.WarmedH.trans X.warmed hW', X.limits, X.bytes, X.same.trans (hsame.setVm s.vm)⟩,
      ⟨g, mk, s₂, L, rfl, rfl, hqc, rfl, hL, rfl, rfl⟩, ?_⟩
    show Steps p.tables e below _ ((({ U with heap := s₂.heap, slotsUsed := s₂.slotsUsed } : State).setVm s₂.vm).setTop { g with pc := g.pc + len₂, stack := v.toList ++ g.stack })
    rw [← hs₂]
    exact hsteps
  · obtain ⟨e2, q2, q3, q4, q5, q6⟩ := id hsm
    have e3 : s₂ = ({ (U.calling g mk a).setFrames s₂.frames with heap := s₂.heap, slotsUsed := s₂.slotsUsed } : State).setVm s₂.vm := by
      have : s₂ = ({ s₂ with vm := (U.calling g mk a).vm } : State).setVm s₂.vm := rfl
      rw [e2] at this
      exact this
    have hf₂ : s₂.frames = .throwing q :: .java g :: U.frames.tail := hend
    have hW' : U.WarmedH s₂.vm := hW₂
    have hs₂ : s₂ = ((({ U with heap := s₂.heap, slotsUsed := s₂.slotsUsed } : State).setVm s₂.vm).setTop g).pushFrame (.throwing q) := by
      refine e3.trans ?_
      rw [hf₂, State.calling_eq h.top, State.setFrames_setFrames, State.pushFrame, State.frames_setTop _ hr', State.setTop_of_frames _ hr', State.setFrames_setFrames, hr]
      rfl
    have hsame : U.sameButNew ({ U with heap := s₂.heap, slotsUsed := s₂.slotsUsed } : State) L mc ms := by
      refine ⟨?_, q2, q3, q4, q5, q6⟩
      obtain ⟨t, ht, -⟩ := State.frames_cons hr
      show ({ U with heap := s₂.heap, slotsUsed := s₂.slotsUsed } : State) = { U.setFrames U.frames with heap := s₂.heap, slotsUsed := s₂.slotsUsed }
      rw [State.setFrames_self ht]
    subst hg
    refine Or.inr ⟨q, ⟨(({ U with heap := s₂.heap, slotsUsed := s₂.slotsUsed } : State).setVm s₂.vm), Ls ++ L, c0 + mc, s0 + ms⟩,
      ⟨X.admits, X.cas, X.clock, X.frames, X.room, X.hears, X.method, X.code, (X.here.setHeapUsed s₂.heap s₂.slotsUsed).setVm hW'.alike, X.tail, State.WarmedH.trans X.warmed hW', X.limits, X.bytes, X.same.trans (hsame.setVm s.vm)⟩,
      ⟨g, mk, s₂, L, E, ce, rfl, rfl, hx, hce, hcv, hcl, rfl, hL, rfl, rfl⟩, ?_⟩
    show Steps p.tables e below _ (((({ U with heap := s₂.heap, slotsUsed := s₂.slotsUsed } : State).setVm s₂.vm).setTop g).pushFrame (.throwing q))
    rw [← hs₂]
    exact hsteps
end
variable {p : Program} {l : Launch} {e : Env} {R : Room} {s : State} {m : MethodId} {args : Array Value} {below : List Frame} {meth : Method} {c : Code} {T : State} {H : Heap} {locs : List Loc} {cells slots : Nat}
theorem vx_callVX (X : Stand p l e R s m args below meth c T locs cells slots) (hexec : p.tables.exec = Jvm.exec) {own C : String} {index : Nat} {y : MethodName} {bytes : ByteArray} {maxL : Nat} {ret : Option FieldType} {hh : List (Nat × Nat × Nat × Nat)}
    (hown : s.vm.findClass own = some m.cls) (hlink : (Cond.methodLink own index y).before args s = true) (hinst : (Cond.instanceMethod y).before args s = true) (hsel : (Cond.selects C y y).before args s = true)
    (hcode : (Cond.codeWith y bytes maxL ret hh).before args s = true) (hy : y.cls ≠ "java/lang/invoke/MethodHandle" ∧ y.cls ≠ "java/lang/invoke/VarHandle")
    {W9 : Nat} {Pre : Pt → Array Value → Prop} {Post : Pt → Array Value → Option Value → Pt → Prop} {PostX : Pt → Array Value → Addr → Pt → Prop} (hK : vx_Back l R p e below s args y 3 W9 Pre Post PostX)
    {b : Addr} {cellB : Cell} (hcell : T.heap[b]? = some cellB) (hobj : cellB.vm.isStatics = false) (hcls : s.vm.findClass C = some cellB.cls)
    {g : JFrame} (hg : g.method = m) (hsize : g.locals.size = c.maxLocals) {argsL rest : List Value} (hlen : ∀ sig, parseMethodDescriptor y.desc = some sig → argsL.length = sig.parameters.length)
    (hstack : g.stack = argsL.reverse ++ .ref b :: rest) (hW : 2 * g.monitorRoom + (rest.map fun v => v.category).sum ≤ W9) (hdg : decode c.code g.pc = .ok (.invokevirtual index, 3))
    (hpre : ∀ vm₁, s.WarmedH vm₁ → Pre ⟨T.setVm vm₁, locs, cells, slots⟩ (Value.ref b :: argsL).toArray) :
    (∃ (v : Option Value) (vm₁ : Vm) (B : Pt), s.WarmedH vm₁ ∧ Stand p l e R s m args below meth c B.U B.locs B.cells B.slots ∧ Post ⟨T.setVm vm₁, locs, cells, slots⟩ (Value.ref b :: argsL).toArray v B ∧
      ∀ target, Steps p.tables e below (B.U.setTop { g with pc := g.pc + 3, stack := v.toList ++ rest }) target → Steps p.tables e below (T.setTop g) target) ∨
    (∃ (q : Addr) (vm₁ : Vm) (B : Pt), s.WarmedH vm₁ ∧ Stand p l e R s m args below meth c B.U B.locs B.cells B.slots ∧ PostX ⟨T.setVm vm₁, locs, cells, slots⟩ (Value.ref b :: argsL).toArray q B ∧
      Steps p.tables e below (T.setTop g) ((B.U.setTop { g with stack := rest }).pushFrame (.throwing q))) := by
  obtain ⟨mk, methM, hnamed, hmethM, hstM, habM⟩ := Cond.instanceMethod_spec hinst
  obtain ⟨m8, methM', cM, hn8, hmethM', -, -, -, -, -, -, hsigM⟩ := Cond.codeWith_spec hcode
  cases Option.some.inj (hn8.symm.trans hnamed)
  cases hmethM.symm.trans hmethM'
  obtain ⟨c2, r2, m2, q1, q2, q3, q4, kP, hkP, hkPi⟩ := Cond.selects_spec hsel
  cases hcls.symm.trans q1
  cases (State.methodFound?_of_named hnamed hy).symm.trans q2
  cases hnamed.symm.trans q3
  have hselP : selectMethod e.platform s.vm cellB.cls mk = .method mk := by rw [Launch.admits_selectMethod X.admits]; exact q4
  obtain ⟨vm₁, X₁, hstep₁⟩ := X.invokevirtual hexec hown hlink hnamed hmethM hstM hkP hkPi hy (a := b) (cell := cellB) hcell
    (fun z h => by rw [h] at hobj; cases hobj) hselP hmethM habM hkP hkPi (g := g) hg (argsL := argsL) (rest := rest) (hlen _ hsigM) hstack hdg
  rcases hK m meth c ⟨T.setVm vm₁, locs, cells, slots⟩ { g with stack := rest } (.invokevirtual index) mk (Value.ref b :: argsL).toArray X₁ hg hsize hdg hW (X₁.named hnamed) (hpre vm₁ X₁.warmed) with ⟨v, B, X', hpost, hsteps⟩ | ⟨q, B, X', hpost, hsteps⟩
  · exact Or.inl ⟨v, vm₁, B, X₁.warmed, X', hpost, fun target h => hstep₁ _ fun acts => by rw [doInvoke_state]; exact hsteps.trans h⟩
  · exact Or.inr ⟨q, vm₁, B, X₁.warmed, X', hpost, hstep₁ _ fun acts => by rw [doInvoke_state]; exact hsteps⟩
theorem vx_callSX (X : Stand p l e R s m args below meth c T locs cells slots) (hexec : p.tables.exec = Jvm.exec) {own : String} {index : Nat} {y : MethodName} {bytes : ByteArray} {maxL : Nat} {ret : Option FieldType} {hh : List (Nat × Nat × Nat × Nat)}
    (hown : s.vm.findClass own = some m.cls) (hlink : (Cond.methodLink own index y).before args s = true) (hstat : (Cond.static y).before args s = true) (hinit : (Cond.initialized y.cls).before args s = true)
    (hcode : (Cond.codeWith y bytes maxL ret hh).before args s = true) (hy : y.cls ≠ "java/lang/invoke/MethodHandle" ∧ y.cls ≠ "java/lang/invoke/VarHandle")
    {W9 : Nat} {Pre : Pt → Array Value → Prop} {Post : Pt → Array Value → Option Value → Pt → Prop} {PostX : Pt → Array Value → Addr → Pt → Prop} (hK : vx_Back l R p e below s args y 3 W9 Pre Post PostX)
    {g : JFrame} (hg : g.method = m) (hsize : g.locals.size = c.maxLocals) {argsL rest : List Value} (hlen : ∀ sig, parseMethodDescriptor y.desc = some sig → argsL.length = sig.parameters.length)
    (hstack : g.stack = argsL.reverse ++ rest) (hW : 2 * g.monitorRoom + (rest.map fun v => v.category).sum ≤ W9) (hdg : decode c.code g.pc = .ok (.invokestatic index, 3))
    (hpre : ∀ vm₁, s.WarmedH vm₁ → Pre ⟨T.setVm vm₁, locs, cells, slots⟩ argsL.toArray) :
    (∃ (v : Option Value) (vm₁ : Vm) (B : Pt), s.WarmedH vm₁ ∧ Stand p l e R s m args below meth c B.U B.locs B.cells B.slots ∧ Post ⟨T.setVm vm₁, locs, cells, slots⟩ argsL.toArray v B ∧
      ∀ target, Steps p.tables e below (B.U.setTop { g with pc := g.pc + 3, stack := v.toList ++ rest }) target → Steps p.tables e below (T.setTop g) target) ∨
    (∃ (q : Addr) (vm₁ : Vm) (B : Pt), s.WarmedH vm₁ ∧ Stand p l e R s m args below meth c B.U B.locs B.cells B.slots ∧ PostX ⟨T.setVm vm₁, locs, cells, slots⟩ argsL.toArray q B ∧
      Steps p.tables e below (T.setTop g) ((B.U.setTop { g with stack := rest }).pushFrame (.throwing q))) := by
  obtain ⟨mk, methM, cM, hnamed, hmethM, -, -, -, -, -, -, hsigM⟩ := Cond.codeWith_spec hcode
  have hstatic : methM.isStatic = true := Cond.static_spec hnamed hmethM hstat
  obtain ⟨kP, hkP, -⟩ := className_of_methodNamed hnamed
  have hinitP : kP.init = .initialized := Cond.initialized_spec (findClass_of_methodNamed hnamed) hkP hinit
  obtain ⟨vm₁, X₁, hstep₁⟩ := X.invokestatic hexec hown hlink hnamed hmethM hstatic hkP hinitP hy (g := g) hg (argsL := argsL) (rest := rest) (hlen _ hsigM) hstack hdg
  rcases hK m meth c ⟨T.setVm vm₁, locs, cells, slots⟩ { g with stack := rest } (.invokestatic index) mk argsL.toArray X₁ hg hsize hdg hW (X₁.named hnamed) (hpre vm₁ X₁.warmed) with ⟨v, B, X', hpost, hsteps⟩ | ⟨q, B, X', hpost, hsteps⟩
  · exact Or.inl ⟨v, vm₁, B, X₁.warmed, X', hpost, fun target h => hstep₁ _ fun acts => by rw [doInvoke_state]; exact hsteps.trans h⟩
  · exact Or.inr ⟨q, vm₁, B, X₁.warmed, X', hpost, hstep₁ _ fun acts => by rw [doInvoke_state]; exact hsteps⟩
theorem vx_callVW (X : Stand p l e R s m args below meth c T locs cells slots) (hexec : p.tables.exec = Jvm.exec) {own C : String} {index : Nat} {y : MethodName} {bytes : ByteArray} {maxL : Nat} {ret : Option FieldType} {hh : List (Nat × Nat × Nat × Nat)}
    (hown : s.vm.findClass own = some m.cls) (hlink : (Cond.methodLink own index y).before args s = true) (hinst : (Cond.instanceMethod y).before args s = true) (hsel : (Cond.selects C y y).before args s = true)
    (hcode : (Cond.codeWith y bytes maxL ret hh).before args s = true) (hy : y.cls ≠ "java/lang/invoke/MethodHandle" ∧ y.cls ≠ "java/lang/invoke/VarHandle")
    {W9 : Nat} {Pre : Pt → Array Value → Prop} {Post : Pt → Array Value → Option Value → Pt → Prop} (hK : Back l R p e below s args y 3 W9 Pre Post)
    {b : Addr} {cellB : Cell} (hcell : T.heap[b]? = some cellB) (hobj : cellB.vm.isStatics = false) (hcls : s.vm.findClass C = some cellB.cls)
    {g : JFrame} (hg : g.method = m) (hsize : g.locals.size = c.maxLocals) {argsL rest : List Value} (hlen : ∀ sig, parseMethodDescriptor y.desc = some sig → argsL.length = sig.parameters.length)
    (hstack : g.stack = argsL.reverse ++ .ref b :: rest) (hW : 2 * g.monitorRoom + (rest.map fun v => v.category).sum ≤ W9) (hdg : decode c.code g.pc = .ok (.invokevirtual index, 3))
    (hpre : ∀ vm₁, s.WarmedH vm₁ → Pre ⟨T.setVm vm₁, locs, cells, slots⟩ (Value.ref b :: argsL).toArray) :
    ∃ (v : Option Value) (vm₁ : Vm) (B : Pt), s.WarmedH vm₁ ∧ Stand p l e R s m args below meth c B.U B.locs B.cells B.slots ∧ Post ⟨T.setVm vm₁, locs, cells, slots⟩ (Value.ref b :: argsL).toArray v B ∧
      ∀ target, Steps p.tables e below (B.U.setTop { g with pc := g.pc + 3, stack := v.toList ++ rest }) target → Steps p.tables e below (T.setTop g) target := by
  obtain ⟨mk, methM, hnamed, hmethM, hstM, habM⟩ := Cond.instanceMethod_spec hinst
  obtain ⟨m8, methM', cM, hn8, hmethM', -, -, -, -, -, -, hsigM⟩ := Cond.codeWith_spec hcode
  cases Option.some.inj (hn8.symm.trans hnamed)
  cases hmethM.symm.trans hmethM'
  obtain ⟨c2, r2, m2, q1, q2, q3, q4, kP, hkP, hkPi⟩ := Cond.selects_spec hsel
  cases hcls.symm.trans q1
  cases (State.methodFound?_of_named hnamed hy).symm.trans q2
  cases hnamed.symm.trans q3
  have hselP : selectMethod e.platform s.vm cellB.cls mk = .method mk := by rw [Launch.admits_selectMethod X.admits]; exact q4
  obtain ⟨vm₁, X₁, hstep₁⟩ := X.invokevirtual hexec hown hlink hnamed hmethM hstM hkP hkPi hy (a := b) (cell := cellB) hcell
    (fun z h => by rw [h] at hobj; cases hobj) hselP hmethM habM hkP hkPi (g := g) hg (argsL := argsL) (rest := rest) (hlen _ hsigM) hstack hdg
  obtain ⟨v, B, X', hpost, hsteps⟩ := hK m meth c ⟨T.setVm vm₁, locs, cells, slots⟩ { g with stack := rest } (.invokevirtual index) mk (Value.ref b :: argsL).toArray X₁ hg hsize hdg hW (X₁.named hnamed) (hpre vm₁ X₁.warmed)
  exact ⟨v, vm₁, B, X₁.warmed, X', hpost, fun target h => hstep₁ _ fun acts => by rw [doInvoke_state]; exact hsteps.trans h⟩
abbrev vx_CVW (R : Room) (s : State) (args : Array Value) (own C : String) (index : Nat) (y : MethodName) (bytes : ByteArray) (maxL : Nat) (ret : Option FieldType) (hh : List (Nat × Nat × Nat × Nat)) (ws : List Cond) (rm : Room) (mc ms n : Nat) : Prop :=
  (rm.cells = mc ∧ rm.slots = ms ∧ rm.frames + 1 ≤ R.frames ∧ 8 + (maxL + 11) + rm.locals ≤ R.locals ∧ (∀ w ∈ ws, ∀ (a' : Array Value) (U : State), s.WarmedH U.vm → w.before a' U = true) ∧ Cond.codeWith y bytes maxL ret hh ∈ ws) ∧
  (Cond.codeWith y bytes maxL ret hh).before args s = true ∧ (Cond.initialized y.cls).before args s = true ∧ (y.cls ≠ "java/lang/invoke/MethodHandle" ∧ y.cls ≠ "java/lang/invoke/VarHandle") ∧
  (∀ sig, parseMethodDescriptor y.desc = some sig → n = sig.parameters.length) ∧ (Cond.methodLink own index y).before args s = true ∧ (Cond.instanceMethod y).before args s = true ∧ (Cond.selects C y y).before args s = true
theorem vx_cwVW {own C : String} {index maxL mc ms : Nat} {y : MethodName} {bytes : ByteArray} {ret : Option FieldType} {hh : List (Nat × Nat × Nat × Nat)} {Ts ws ws' : List Cond} {rm : Room} (n : Nat) (ht : ∀ w ∈ Ts, w.before args s = true) (hT : GoodIn Ts (wsV own index C y ws)) (hw : ws = Cond.codeWith y bytes maxL ret hh :: ws') (hrc : rm.cells = mc) (hrs : rm.slots = ms)
    (hd : y.cls = C ∧ y.cls ≠ "java/lang/invoke/MethodHandle" ∧ y.cls ≠ "java/lang/invoke/VarHandle" ∧ (parseMethodDescriptor y.desc).map (fun d => d.parameters.length) = some n) (hR : rm.frames + 1 ≤ R.frames ∧ 8 + (maxL + 11) + rm.locals ≤ R.locals) :
    vx_CVW R s args own C index y bytes maxL ret hh ws rm mc ms n := by
  obtain ⟨hC, hd⟩ := hd
  subst hC
  have ok : ∀ w ∈ wsV own index y.cls y ws, w.before args s = true := fun w h => ht w (hT w h).1
  have hG : GoodIn Ts ws := fun w h => hT w (by unfold wsV; exact List.mem_append_right _ h)
  have hc : Cond.codeWith y bytes maxL ret hh ∈ ws := by rw [hw]; exact List.mem_cons_self
  refine ⟨⟨hrc, hrs, hR.1, hR.2, pay_in ht hG, hc⟩, ht _ (hG _ hc).1, ok _ (by simp [wsV]), ⟨hd.1, hd.2.1⟩, fun sig h => ?_, ok _ (by simp [wsV]), ok _ (by simp [wsV]), ok _ (by simp [wsV])⟩
  have h2 := hd.2.2
  rw [h] at h2
  exact (Option.some.inj h2).symm
theorem vx_runVW {y : MethodName} {bytes cc : ByteArray} {maxL nL mc ms n index : Nat} {ret : Option FieldType} {hh : List (Nat × Nat × Nat × Nat)} {ws : List Cond} {rm : Room} {Pc : Array Value → State → Prop} {Qc : Array Value → State → Outcome → State → Prop} {free : Addr → Prop} {Ts : List Cond} {own C : String} {b : Addr} {As rest : List Value} {g : JFrame}
    (S : CallFix p m c cc nL s args Ts own) (hM : Met l y ws rm Pc Qc mc ms free) (cw : vx_CVW R s args own C index y bytes maxL ret hh ws rm mc ms n) (hp : PreV s H C b Pc As)
    (hg : g.method = m) (hn : As.length = n) (hsize : g.locals.size = nL) (hstack : g.stack = As.reverse ++ .ref b :: rest) (hW : 2 * g.monitorRoom + (rest.map fun v => v.category).sum ≤ 8) (hdg : decode cc g.pc = .ok (.invokevirtual index, 3)) (hf : cells + mc ≤ R.cells ∧ slots + ms ≤ R.slots) :
    va_Run p l e R s m args below meth c H locs cells slots mc ms g rest (Qc (Value.ref b :: As).toArray) free := by
  obtain ⟨⟨hrc, hrs, hfr, hlo, hws, hcw⟩, hcode, hini, hy, hlen, hl, hin, hse⟩ := cw
  have hK : Back l R p e below s args y 3 8 (PreOf R mc ms Pc) (PostOf Qc mc ms free) := va_backW (hh := hh) (bytes := bytes) (maxL := maxL) (ret := ret) hM hp.1 hrc hrs hfr hlo hws hcw (fun a' U hW => word_at hW (Or.inl (by first | rfl | simp [Cond.onTables, Cond.keeps, Cond.steady])) hini)
  obtain ⟨hx, hb, hml, ho, -⟩ := S
  obtain ⟨-, ⟨cellB, hcB, hoB, hclB⟩, hPc⟩ := hp
  intro T hT X
  obtain ⟨v, vm₁, ⟨U', l2, c2, s2⟩, hW₁, X', ⟨g', mk, t, L, e1, e2, hq, h1, hL, h2, h3⟩, st⟩ := vx_callVW X hx (C := C) (hh := hh) (bytes := bytes) (maxL := maxL) (ret := ret) ho hl hin hse hcode hy hK (by rw [hT]; exact hcB) hoB hclB hg (hsize.trans hml.symm) (argsL := As) (rest := rest) (fun sig h => hn.trans (hlen sig h)) hstack hW (by rw [hb]; exact hdg)
    (fun vm₁ hW₁ => ⟨hf.1, hf.2, hPc (T.setVm vm₁) hT hW₁⟩)
  dsimp only [Pt.U, Pt.locs, Pt.cells, Pt.slots] at X' e1 e2 h1 h2 h3 st
  subst h1; subst h2; subst h3
  exact ⟨v, (T.setVm vm₁).calling g' mk (Value.ref b :: As).toArray, t, U', L, hT, X', hL, e1, e2, hq, st⟩
section
variable {y : MethodName} {bytes cc : ByteArray} {maxL nL mc ms n index : Nat} {ret : Option FieldType} {ws : List Cond} {rm : Room} {Pc : Array Value → State → Prop} {Qc : Array Value → State → Outcome → State → Prop} {XC : String → State → State → Prop} {free : Addr → Prop} {Ts : List Cond} {own C : String} {b : Addr} {As rest : List Value} {g : JFrame}
theorem vx_runVX {hh : List (Nat × Nat × Nat × Nat)} (S : CallFix p m c cc nL s args Ts own) (hM : vx_Met l y ws rm Pc Qc XC mc ms free) (cw : vx_CVW R s args own C index y bytes maxL ret hh ws rm mc ms n) (hp : PreV s H C b Pc As)
    (hg : g.method = m) (hn : As.length = n) (hsize : g.locals.size = nL) (hstack : g.stack = As.reverse ++ .ref b :: rest) (hW : 2 * g.monitorRoom + (rest.map fun v => v.category).sum ≤ 8) (hdg : decode cc g.pc = .ok (.invokevirtual index, 3)) (hf : cells + mc ≤ R.cells ∧ slots + ms ≤ R.slots) :
    vx_Run p l e R s m args below meth c H locs cells slots mc ms g rest (Qc (Value.ref b :: As).toArray) XC free := by
  obtain ⟨⟨hrc, hrs, hfr, hlo, hws, hcw⟩, hcode, hini, hy, hlen, hl, hin, hse⟩ := cw
  have hK : vx_Back l R p e below s args y 3 8 (PreOf R mc ms Pc) (PostOf Qc mc ms free) (vx_Post XC mc ms free) := vx_backW (hh := hh) (bytes := bytes) (maxL := maxL) (ret := ret) hM hp.1 hrc hrs hfr hlo hws hcw (fun a' U hW => word_at hW (Or.inl (by first | rfl | simp [Cond.onTables, Cond.keeps, Cond.steady])) hini)
  obtain ⟨hx, hb, hml, ho, -⟩ := S
  obtain ⟨-, ⟨cellB, hcB, hoB, hclB⟩, hPc⟩ := hp
  intro T hT X
  rcases vx_callVX X hx (C := C) (hh := hh) (bytes := bytes) (maxL := maxL) (ret := ret) ho hl hin hse hcode hy hK (by rw [hT]; exact hcB) hoB hclB hg (hsize.trans hml.symm) (argsL := As) (rest := rest) (fun sig h => hn.trans (hlen sig h)) hstack hW (by rw [hb]; exact hdg)
    (fun vm₁ hW₁ => ⟨hf.1, hf.2, hPc (T.setVm vm₁) hT hW₁⟩) with ⟨v, vm₁, ⟨U', l2, c2, s2⟩, hW₁, X', ⟨g', mk, t, L, e1, e2, hq, h1, hL, h2, h3⟩, st⟩ | ⟨q, vm₁, ⟨U', l2, c2, s2⟩, hW₁, X', ⟨g', mk, t, L, E, ce, e1, e2, hq, hce, hcv, hcl, h1, hL, h2, h3⟩, st⟩
  · dsimp only [Pt.U, Pt.locs, Pt.cells, Pt.slots] at X' e1 e2 h1 h2 h3 st
    subst h1; subst h2; subst h3
    exact Or.inl ⟨v, (T.setVm vm₁).calling g' mk (Value.ref b :: As).toArray, t, U', L, hT, X', hL, e1, e2, hq, st⟩
  · dsimp only [Pt.U, Pt.locs, Pt.cells, Pt.slots] at X' e1 e2 h1 h2 h3 st hcl
    subst h1; subst h2; subst h3
    exact Or.inr ⟨q, (T.setVm vm₁).calling g' mk (Value.ref b :: As).toArray, t, U', L, E, ce, hT, X', hL, e1, e2, hq, hce, hcv, vx_cls hW₁ hcl, st⟩
theorem vx_runSX {hh : List (Nat × Nat × Nat × Nat)} (S : CallFix p m c cc nL s args Ts own) (hM : vx_Met l y ws rm Pc Qc XC mc ms free) (cw : vx_CSW R s args own index y bytes maxL ret hh ws rm mc ms n) (hp : PreS s H Pc As)
    (hg : g.method = m) (hn : As.length = n) (hsize : g.locals.size = nL) (hstack : g.stack = As.reverse ++ rest) (hW : 2 * g.monitorRoom + (rest.map fun v => v.category).sum ≤ 8) (hdg : decode cc g.pc = .ok (.invokestatic index, 3)) (hf : cells + mc ≤ R.cells ∧ slots + ms ≤ R.slots) :
    vx_Run p l e R s m args below meth c H locs cells slots mc ms g rest (Qc As.toArray) XC free := by
  obtain ⟨⟨hrc, hrs, hfr, hlo, hws, hcw⟩, hcode, hini, hy, hlen, hl, hstt⟩ := cw
  have hK : vx_Back l R p e below s args y 3 8 (PreOf R mc ms Pc) (PostOf Qc mc ms free) (vx_Post XC mc ms free) := vx_backW (hh := hh) (bytes := bytes) (maxL := maxL) (ret := ret) hM hp.1 hrc hrs hfr hlo hws hcw (fun a' U hW => word_at hW (Or.inl (by first | rfl | simp [Cond.onTables, Cond.keeps, Cond.steady])) hini)
  obtain ⟨hx, hb, hml, ho, -⟩ := S
  intro T hT X
  rcases vx_callSX X hx (hh := hh) (bytes := bytes) (maxL := maxL) (ret := ret) ho hl hstt hini hcode hy hK hg (hsize.trans hml.symm) (argsL := As) (rest := rest) (fun sig h => hn.trans (hlen sig h)) hstack hW (by rw [hb]; exact hdg)
    (fun vm₁ hW₁ => ⟨hf.1, hf.2, hp.2 (T.setVm vm₁) hT hW₁⟩) with ⟨v, vm₁, ⟨U', l2, c2, s2⟩, hW₁, X', ⟨g', mk, t, L, e1, e2, hq, h1, hL, h2, h3⟩, st⟩ | ⟨q, vm₁, ⟨U', l2, c2, s2⟩, hW₁, X', ⟨g', mk, t, L, E, ce, e1, e2, hq, hce, hcv, hcl, h1, hL, h2, h3⟩, st⟩
  · dsimp only [Pt.U, Pt.locs, Pt.cells, Pt.slots] at X' e1 e2 h1 h2 h3 st
    subst h1; subst h2; subst h3
    exact Or.inl ⟨v, (T.setVm vm₁).calling g' mk As.toArray, t, U', L, hT, X', hL, e1, e2, hq, st⟩
  · dsimp only [Pt.U, Pt.locs, Pt.cells, Pt.slots] at X' e1 e2 h1 h2 h3 st hcl
    subst h1; subst h2; subst h3
    exact Or.inr ⟨q, (T.setVm vm₁).calling g' mk As.toArray, t, U', L, E, ce, hT, X', hL, e1, e2, hq, hce, hcv, vx_cls hW₁ hcl, st⟩
end
end VXH
theorem vx_ofWH {l : Launch} {y : MethodName} {ws ws' : List Cond} {rm : Room} {Pc : Array Value → State → Prop} {Qc : Array Value → State → Outcome → State → Prop} {XC : String → State → State → Prop} {mc ms : Nat} {free : Addr → Prop} {cc : ByteArray} {maxL : Nat} {ret : Option FieldType} {hh : List (Nat × Nat × Nat × Nat)}
    (hy : plainName y.cls = true) (hw : ws = Cond.codeWith y cc maxL ret hh :: ws')
    (body : ∀ p e s m args below meth c s₁, BodyLoose p l y (headSpec ws rm) cc maxL ret e s m args below meth c s₁ → c.maxLocals = maxL → Pc args s →
      W p l e (headSpec ws rm).room s m args below meth c s.heap [] 0 0 (vx_MQ below Qc XC args s mc ms free) (entryFrame m args maxL)) : vx_Met l y ws rm Pc Qc XC mc ms free := by
  refine MetFree.of_bodyS (code := cc) (maxLocals := maxL) (ret := ret) hy ?_ ?_
  · intro args s m h hn
    obtain ⟨m9, meth, c, hn9, h1, h2, h3, h4, -, h5, h6, -⟩ := Cond.codeWith_spec (atoms_spec (ws := ws) h _ (by rw [hw]; exact List.mem_cons_self))
    cases hn.symm.trans hn9
    exact ⟨meth, c, h1, h2, h3, h4, h5, h6⟩
  · intro p e s m args below meth c s₁ B hml hP _
    have hh0 : s₁.heap = s.heap := by rw [B.state]; rfl
    obtain ⟨t, a1, o, b1, b2, b3⟩ := body p e s m args below meth c s₁ B hml hP s₁ hh0 (Stand.of_body B)
    exact ⟨t, o, a1, b1, b2, b3⟩
/-! ===== END ===== -/

/-! ===== BEGIN printed: names, fields, word lists, decode rows ===== -/
def RX0 : String := "IceLand$Annals"
def TX0 : u_T := fun k => match k with
  | 0 => ("IceLand$Annals", "ashFell", "[Z", true)
  | 1 => ("IceLand$Annals", "frontOf", "[I", true)
  | 2 => ("IceLand$Annals", "iceBehind", "[I", true)
  | 3 => ("IceLand$Annals", "floodYear", "[I", true)
  | 4 => ("IceLand$Annals", "floodCell", "[I", true)
  | 5 => ("IceLand$Annals", "floodUnits", "[I", true)
  | _ => ("IceLand$Annals", "floodCount", "I", false)
def tyX0 : Nat → FieldType := fun k => match k with
  | 0 => .array .boolean
  | 1 => .array .int
  | 2 => .array .int
  | 3 => .array .int
  | 4 => .array .int
  | 5 => .array .int
  | _ => .int
abbrev wsX00 : List Cond := u_ws RX0 TX0 7
theorem nmX0 : ∀ a, a < 7 → ∀ b, b < 7 → a ≠ b → (TX0 a).2.1 ≠ (TX0 b).2.1 := by decide +kernel
theorem tyX0_ok : ∀ k, k < 7 → parseFieldDescriptor (TX0 k).2.2.1 = some (tyX0 k) := by decide +kernel
abbrev cX0_init : ByteArray := prog_2_method_1_code
def yX0_init : MethodName := ⟨RX0, "<init>", "()V"⟩
abbrev cX0_note : ByteArray := prog_2_method_2_code
def yX0_note : MethodName := ⟨RX0, "note", "(LIceLand$Land;)V"⟩
def RX1 : String := "IceLand$Core"
def TX1 : u_T := fun k => match k with
  | 0 => ("IceLand$Core", "ice", "[I", true)
  | _ => ("IceLand$Core", "units", "[I", true)
def tyX1 : Nat → FieldType := fun k => match k with
  | 0 => .array .int
  | _ => .array .int
abbrev wsX10 : List Cond := u_ws RX1 TX1 2
theorem nmX1 : ∀ a, a < 2 → ∀ b, b < 2 → a ≠ b → (TX1 a).2.1 ≠ (TX1 b).2.1 := by decide +kernel
theorem tyX1_ok : ∀ k, k < 2 → parseFieldDescriptor (TX1 k).2.2.1 = some (tyX1 k) := by decide +kernel
abbrev cX1_init : ByteArray := prog_3_method_1_code
def yX1_init : MethodName := ⟨RX1, "<init>", "()V"⟩
abbrev cX1_becomeLike : ByteArray := prog_3_method_2_code
def yX1_becomeLike : MethodName := ⟨RX1, "becomeLike", "(LIceLand$Core;)V"⟩
abbrev cX1_unitsOf : ByteArray := prog_3_method_3_code
def yX1_unitsOf : MethodName := ⟨RX1, "unitsOf", "(II)I"⟩
abbrev cX1_allIce : ByteArray := prog_3_method_4_code
def yX1_allIce : MethodName := ⟨RX1, "allIce", "()I"⟩
abbrev cX1_lay : ByteArray := prog_3_method_5_code
def yX1_lay : MethodName := ⟨RX1, "lay", "(III)V"⟩
abbrev cX1_takeLatest : ByteArray := prog_3_method_6_code
def yX1_takeLatest : MethodName := ⟨RX1, "takeLatest", "(II)V"⟩
abbrev cX1_carryEarliest : ByteArray := prog_3_method_7_code
def yX1_carryEarliest : MethodName := ⟨RX1, "carryEarliest", "(III)V"⟩
abbrev cX1_yearBelow : ByteArray := prog_3_method_8_code
def yX1_yearBelow : MethodName := ⟨RX1, "yearBelow", "(II)I"⟩
def RX2 : String := "IceLand$Forecasts"
def TX2 : u_T := fun k => match k with
  | 0 => ("IceLand$Forecasts", "meantYear", "[I", true)
  | 1 => ("IceLand$Forecasts", "expected", "[I", true)
  | _ => ("IceLand$Forecasts", "count", "I", false)
def tyX2 : Nat → FieldType := fun k => match k with
  | 0 => .array .int
  | 1 => .array .int
  | _ => .int
abbrev wsX20 : List Cond := u_ws RX2 TX2 3
theorem nmX2 : ∀ a, a < 3 → ∀ b, b < 3 → a ≠ b → (TX2 a).2.1 ≠ (TX2 b).2.1 := by decide +kernel
theorem tyX2_ok : ∀ k, k < 3 → parseFieldDescriptor (TX2 k).2.2.1 = some (tyX2 k) := by decide +kernel
abbrev cX2_init : ByteArray := prog_4_method_1_code
def yX2_init : MethodName := ⟨RX2, "<init>", "()V"⟩
abbrev cX2_keep : ByteArray := prog_4_method_2_code
def yX2_keep : MethodName := ⟨RX2, "keep", "(II)V"⟩
def RX3 : String := "IceLand$Land"
def TX3 : u_T := fun k => match k with
  | 0 => ("IceLand$Land", "year", "I", false)
  | 1 => ("IceLand$Land", "level", "I", false)
  | 2 => ("IceLand$Land", "warmth", "I", false)
  | 3 => ("IceLand$Land", "snow", "I", false)
  | 4 => ("IceLand$Land", "factor", "I", false)
  | 5 => ("IceLand$Land", "core", "LIceLand$Core;", true)
  | 6 => ("IceLand$Land", "sums", "LIceLand$Sums;", true)
  | 7 => ("IceLand$Land", "bed", "[I", true)
  | 8 => ("IceLand$Land", "base", "[I", true)
  | 9 => ("IceLand$Land", "water", "[I", true)
  | 10 => ("IceLand$Land", "moraine", "[I", true)
  | 11 => ("IceLand$Land", "snowed", "[I", true)
  | 12 => ("IceLand$Land", "gain", "[I", true)
  | 13 => ("IceLand$Land", "passing", "[I", true)
  | 14 => ("IceLand$Land", "burst", "[I", true)
  | _ => ("IceLand$Land", "frontCell", "I", false)
def tyX3 : Nat → FieldType := fun k => match k with
  | 0 => .int
  | 1 => .int
  | 2 => .int
  | 3 => .int
  | 4 => .int
  | 5 => .object "IceLand$Core"
  | 6 => .object "IceLand$Sums"
  | 7 => .array .int
  | 8 => .array .int
  | 9 => .array .int
  | 10 => .array .int
  | 11 => .array .int
  | 12 => .array .int
  | 13 => .array .int
  | 14 => .array .int
  | _ => .int
abbrev wsX30 : List Cond := u_ws RX3 TX3 16
theorem nmX3 : ∀ a, a < 16 → ∀ b, b < 16 → a ≠ b → (TX3 a).2.1 ≠ (TX3 b).2.1 := by decide +kernel
theorem tyX3_ok : ∀ k, k < 16 → parseFieldDescriptor (TX3 k).2.2.1 = some (tyX3 k) := by decide +kernel
abbrev cX3_init : ByteArray := prog_5_method_1_code
def yX3_init : MethodName := ⟨RX3, "<init>", "()V"⟩
abbrev cX3_becomeLike : ByteArray := prog_5_method_2_code
def yX3_becomeLike : MethodName := ⟨RX3, "becomeLike", "(LIceLand$Land;)V"⟩
abbrev cX3_goThroughYear : ByteArray := prog_5_method_3_code
def yX3_goThroughYear : MethodName := ⟨RX3, "goThroughYear", "()V"⟩
abbrev cX3_tellOf : ByteArray := prog_5_method_4_code
def yX3_tellOf : MethodName := ⟨RX3, "tellOf", "(II)I"⟩
abbrev cX3_allWater : ByteArray := prog_5_method_5_code
def yX3_allWater : MethodName := ⟨RX3, "allWater", "()I"⟩
abbrev cX3_surface : ByteArray := prog_5_method_6_code
def yX3_surface : MethodName := ⟨RX3, "surface", "(I)I"⟩
abbrev cX3_potential : ByteArray := prog_5_method_7_code
def yX3_potential : MethodName := ⟨RX3, "potential", "(I)I"⟩
abbrev cX3_standsInSea : ByteArray := prog_5_method_8_code
def yX3_standsInSea : MethodName := ⟨RX3, "standsInSea", "(I)Z"⟩
abbrev cX3_hasCrevasse : ByteArray := prog_5_method_9_code
def yX3_hasCrevasse : MethodName := ⟨RX3, "hasCrevasse", "(I)Z"⟩
abbrev cX3_snowOrMelt : ByteArray := prog_5_method_10_code
def yX3_snowOrMelt : MethodName := ⟨RX3, "snowOrMelt", "(I)V"⟩
abbrev cX3_flow : ByteArray := prog_5_method_11_code
def yX3_flow : MethodName := ⟨RX3, "flow", "()V"⟩
abbrev cX3_givenToNext : ByteArray := prog_5_method_12_code
def yX3_givenToNext : MethodName := ⟨RX3, "givenToNext", "(I)I"⟩
abbrev cX3_givenBy : ByteArray := prog_5_method_13_code
def yX3_givenBy : MethodName := ⟨RX3, "givenBy", "(II)I"⟩
abbrev cX3_runOff : ByteArray := prog_5_method_14_code
def yX3_runOff : MethodName := ⟨RX3, "runOff", "(I)V"⟩
abbrev cX3_breakOut : ByteArray := prog_5_method_15_code
def yX3_breakOut : MethodName := ⟨RX3, "breakOut", "(I)V"⟩
abbrev cX3_leastIceBeside : ByteArray := prog_5_method_16_code
def yX3_leastIceBeside : MethodName := ⟨RX3, "leastIceBeside", "(I)I"⟩
abbrev cX3_calve : ByteArray := prog_5_method_17_code
def yX3_calve : MethodName := ⟨RX3, "calve", "()V"⟩
abbrev cX3_moveBed : ByteArray := prog_5_method_18_code
def yX3_moveBed : MethodName := ⟨RX3, "moveBed", "(I)V"⟩
abbrev cX3_markFront : ByteArray := prog_5_method_19_code
def yX3_markFront : MethodName := ⟨RX3, "markFront", "()V"⟩
def RX4 : String := "IceLand$Sums"
def TX4 : u_T := fun k => match k with
  | 0 => ("IceLand$Sums", "fallen", "I", false)
  | 1 => ("IceLand$Sums", "told", "I", false)
  | 2 => ("IceLand$Sums", "melted", "I", false)
  | 3 => ("IceLand$Sums", "toSea", "I", false)
  | _ => ("IceLand$Sums", "bergs", "I", false)
def tyX4 : Nat → FieldType := fun k => match k with
  | 0 => .int
  | 1 => .int
  | 2 => .int
  | 3 => .int
  | _ => .int
abbrev wsX40 : List Cond := u_ws RX4 TX4 5
theorem nmX4 : ∀ a, a < 5 → ∀ b, b < 5 → a ≠ b → (TX4 a).2.1 ≠ (TX4 b).2.1 := by decide +kernel
theorem tyX4_ok : ∀ k, k < 5 → parseFieldDescriptor (TX4 k).2.2.1 = some (tyX4 k) := by decide +kernel
abbrev cX4_init : ByteArray := prog_6_method_1_code
def yX4_init : MethodName := ⟨RX4, "<init>", "()V"⟩
def RX5 : String := "IceLand"
def TX5 : u_T := fun k => match k with
  | 0 => ("IceLand", "present", "LIceLand$Land;", true)
  | 1 => ("IceLand", "trial", "LIceLand$Land;", true)
  | 2 => ("IceLand", "annals", "LIceLand$Annals;", true)
  | _ => ("IceLand", "forecasts", "LIceLand$Forecasts;", true)
def tyX5 : Nat → FieldType := fun k => match k with
  | 0 => .object "IceLand$Land"
  | 1 => .object "IceLand$Land"
  | 2 => .object "IceLand$Annals"
  | _ => .object "IceLand$Forecasts"
abbrev wsX50 : List Cond := u_ws RX5 TX5 4
theorem nmX5 : ∀ a, a < 4 → ∀ b, b < 4 → a ≠ b → (TX5 a).2.1 ≠ (TX5 b).2.1 := by decide +kernel
theorem tyX5_ok : ∀ k, k < 4 → parseFieldDescriptor (TX5 k).2.2.1 = some (tyX5 k) := by decide +kernel
abbrev cX5_init : ByteArray := prog_1_method_1_code
def yX5_init : MethodName := ⟨RX5, "<init>", "()V"⟩
abbrev cX5_land : ByteArray := prog_1_method_2_code
def yX5_land : MethodName := ⟨RX5, "land", "(II)I"⟩
abbrev cX5_sea : ByteArray := prog_1_method_3_code
def yX5_sea : MethodName := ⟨RX5, "sea", "(I)I"⟩
abbrev cX5_climate : ByteArray := prog_1_method_4_code
def yX5_climate : MethodName := ⟨RX5, "climate", "(III)V"⟩
abbrev cX5_ice : ByteArray := prog_1_method_5_code
def yX5_ice : MethodName := ⟨RX5, "ice", "(II)I"⟩
abbrev cX5_ash : ByteArray := prog_1_method_6_code
def yX5_ash : MethodName := ⟨RX5, "ash", "()Z"⟩
abbrev cX5_pass : ByteArray := prog_1_method_7_code
def yX5_pass : MethodName := ⟨RX5, "pass", "(I)I"⟩
abbrev cX5_cellIs : ByteArray := prog_1_method_8_code
def yX5_cellIs : MethodName := ⟨RX5, "cellIs", "(II)I"⟩
abbrev cX5_layer : ByteArray := prog_1_method_9_code
def yX5_layer : MethodName := ⟨RX5, "layer", "(II)I"⟩
abbrev cX5_yearAt : ByteArray := prog_1_method_10_code
def yX5_yearAt : MethodName := ⟨RX5, "yearAt", "(II)I"⟩
abbrev cX5_common : ByteArray := prog_1_method_11_code
def yX5_common : MethodName := ⟨RX5, "common", "(II)I"⟩
abbrev cX5_floods : ByteArray := prog_1_method_12_code
def yX5_floods : MethodName := ⟨RX5, "floods", "()I"⟩
abbrev cX5_flood : ByteArray := prog_1_method_13_code
def yX5_flood : MethodName := ⟨RX5, "flood", "(II)I"⟩
abbrev cX5_front : ByteArray := prog_1_method_14_code
def yX5_front : MethodName := ⟨RX5, "front", "(I)I"⟩
abbrev cX5_total : ByteArray := prog_1_method_15_code
def yX5_total : MethodName := ⟨RX5, "total", "(I)I"⟩
abbrev cX5_iceAnew : ByteArray := prog_1_method_16_code
def yX5_iceAnew : MethodName := ⟨RX5, "iceAnew", "()I"⟩
abbrev cX5_would : ByteArray := prog_1_method_17_code
def yX5_would : MethodName := ⟨RX5, "would", "(III)I"⟩
abbrev cX5_forecast : ByteArray := prog_1_method_18_code
def yX5_forecast : MethodName := ⟨RX5, "forecast", "(I)I"⟩
abbrev cX5_miss : ByteArray := prog_1_method_19_code
def yX5_miss : MethodName := ⟨RX5, "miss", "(I)I"⟩
abbrev cX5_tryOut : ByteArray := prog_1_method_20_code
def yX5_tryOut : MethodName := ⟨RX5, "tryOut", "(I)V"⟩
abbrev cX5_needNotTooLate : ByteArray := prog_1_method_21_code
def yX5_needNotTooLate : MethodName := ⟨RX5, "needNotTooLate", "(I)V"⟩
abbrev cX5_needCell : ByteArray := prog_1_method_22_code
def yX5_needCell : MethodName := ⟨RX5, "needCell", "(I)V"⟩
abbrev cX5_needWithin : ByteArray := prog_1_method_23_code
def yX5_needWithin : MethodName := ⟨RX5, "needWithin", "(III)V"⟩
def RX6 : String := "IceLandModel"
def TX6 : u_T := fun k => match k with
  | _ => ("", "", "", false)
def tyX6 : Nat → FieldType := fun k => match k with
  | _ => .int
abbrev wsX60 : List Cond := u_ws RX6 TX6 0
theorem nmX6 : ∀ a, a < 0 → ∀ b, b < 0 → a ≠ b → (TX6 a).2.1 ≠ (TX6 b).2.1 := by decide +kernel
theorem tyX6_ok : ∀ k, k < 0 → parseFieldDescriptor (TX6 k).2.2.1 = some (tyX6 k) := by decide +kernel
def RJ9 : String := "java/lang/Math"
def TJ9 : u_T := fun k => match k with
  | _ => ("", "", "", false)
def tyJ9 : Nat → FieldType := fun k => match k with
  | _ => .int
abbrev wsJ90 : List Cond := u_ws RJ9 TJ9 0
theorem nmJ9 : ∀ a, a < 0 → ∀ b, b < 0 → a ≠ b → (TJ9 a).2.1 ≠ (TJ9 b).2.1 := by decide +kernel
theorem tyJ9_ok : ∀ k, k < 0 → parseFieldDescriptor (TJ9 k).2.2.1 = some (tyJ9 k) := by decide +kernel
abbrev cJ9_floorDiv_7cf53 : ByteArray := prog_13_method_47_code
def yJ9_floorDiv_7cf53 : MethodName := ⟨RJ9, "floorDiv", "(II)I"⟩
abbrev cJ9_floorDiv_f86c9 : ByteArray := prog_13_method_49_code
def yJ9_floorDiv_f86c9 : MethodName := ⟨RJ9, "floorDiv", "(JJ)J"⟩
abbrev cJ9_abs_0f7a4 : ByteArray := prog_13_method_59_code
def yJ9_abs_0f7a4 : MethodName := ⟨RJ9, "abs", "(I)I"⟩
abbrev cJ9_min_7cf53 : ByteArray := prog_13_method_69_code
def yJ9_min_7cf53 : MethodName := ⟨RJ9, "min", "(II)I"⟩
abbrev cJ9_min_f86c9 : ByteArray := prog_13_method_70_code
def yJ9_min_f86c9 : MethodName := ⟨RJ9, "min", "(JJ)J"⟩
def RJ0 : String := "java/lang/String"
def TJ0 : u_T := fun k => match k with
  | _ => ("", "", "", false)
def tyJ0 : Nat → FieldType := fun k => match k with
  | _ => .int
abbrev wsJ00 : List Cond := u_ws RJ0 TJ0 0
theorem nmJ0 : ∀ a, a < 0 → ∀ b, b < 0 → a ≠ b → (TJ0 a).2.1 ≠ (TJ0 b).2.1 := by decide +kernel
theorem tyJ0_ok : ∀ k, k < 0 → parseFieldDescriptor (TJ0 k).2.2.1 = some (tyJ0 k) := by decide +kernel
def RJ10 : String := "java/lang/System"
def TJ10 : u_T := fun k => match k with
  | _ => ("", "", "", false)
def tyJ10 : Nat → FieldType := fun k => match k with
  | _ => .int
abbrev wsJ100 : List Cond := u_ws RJ10 TJ10 0
theorem nmJ10 : ∀ a, a < 0 → ∀ b, b < 0 → a ≠ b → (TJ10 a).2.1 ≠ (TJ10 b).2.1 := by decide +kernel
theorem tyJ10_ok : ∀ k, k < 0 → parseFieldDescriptor (TJ10 k).2.2.1 = some (tyJ10 k) := by decide +kernel
def RL : String := "IceLandLaw"
abbrev cL_drawn : ByteArray := method_2_code
def yL_drawn : MethodName := ⟨RL, "drawn", "([II)I"⟩
abbrev cL_does : ByteArray := method_3_code
def yL_does : MethodName := ⟨RL, "does", "(LIceLand;III)I"⟩
abbrev cL_would : ByteArray := method_4_code
def yL_would : MethodName := ⟨RL, "would", "(LIceLand;III)I"⟩
abbrev cL_climate : ByteArray := method_5_code
def yL_climate : MethodName := ⟨RL, "climate", "(LIceLand;III)Z"⟩
abbrev cL_areAlike : ByteArray := method_6_code
def yL_areAlike : MethodName := ⟨RL, "areAlike", "(LIceLand;LIceLand;II)Z"⟩
abbrev cL_law : ByteArray := code
def yL_law : MethodName := ⟨RL, "law", "([I)Z"⟩
def wsX0_init : List Cond := .code yX0_init cX0_init 1 none :: ([.methodLink RX0 3 objectInit, .instanceMethod objectInit, .code objectInit ⟨#[0xb1]⟩ 1 none, .arrayClass .boolean, .fieldLink RX0 9 "IceLand$Annals" "ashFell" "[Z", .arrayClass .int, .fieldLink RX0 15 "IceLand$Annals" "frontOf" "[I", .fieldLink RX0 19 "IceLand$Annals" "iceBehind" "[I", .fieldLink RX0 22 "IceLand$Annals" "floodYear" "[I", .fieldLink RX0 25 "IceLand$Annals" "floodCell" "[I", .fieldLink RX0 28 "IceLand$Annals" "floodUnits" "[I"] ++ wsX00)
def wsX1_allIce : List Cond := .code yX1_allIce cX1_allIce 3 (some .int) :: ([.fieldLink RX1 9 "IceLand$Core" "ice" "[I"] ++ wsX10)
def wsX0_note : List Cond := .code yX0_note cX0_note 3 none :: ([.fieldLink RX0 15 "IceLand$Annals" "frontOf" "[I", .fieldLink RX0 31 "IceLand$Land" "year" "I", .fieldLink RX0 37 "IceLand$Land" "frontCell" "I", .fieldLink RX0 19 "IceLand$Annals" "iceBehind" "[I", .fieldLink RX0 40 "IceLand$Land" "core" "LIceLand$Core;", .fieldLink RX0 50 "IceLand$Land" "burst" "[I", .fieldLink RX0 53 "IceLand$Annals" "floodCount" "I", .fieldLink RX0 22 "IceLand$Annals" "floodYear" "[I", .fieldLink RX0 25 "IceLand$Annals" "floodCell" "[I", .fieldLink RX0 28 "IceLand$Annals" "floodUnits" "[I", .methodLink RX0 44 yX1_allIce, .instanceMethod yX1_allIce, .selects RX1 yX1_allIce yX1_allIce, .initialized RX1, .code yX1_allIce cX1_allIce 3 (some .int), .fieldLink RX1 9 "IceLand$Core" "ice" "[I"] ++ wsX00 ++ wsX30 ++ wsX10)
def wsX1_init : List Cond := .code yX1_init cX1_init 1 none :: ([.methodLink RX1 3 objectInit, .instanceMethod objectInit, .code objectInit ⟨#[0xb1]⟩ 1 none, .arrayClass .int, .fieldLink RX1 9 "IceLand$Core" "ice" "[I", .fieldLink RX1 15 "IceLand$Core" "units" "[I"] ++ wsX10)
def wsX1_becomeLike : List Cond := .code yX1_becomeLike cX1_becomeLike 2 none :: ([.fieldLink RX1 9 "IceLand$Core" "ice" "[I", .methodLink RX1 18 arraycopyName, .native arraycopyName, .static arraycopyName, .initialized "java/lang/System", .fieldLink RX1 15 "IceLand$Core" "units" "[I"] ++ wsX10)
def wsX1_unitsOf : List Cond := .code yX1_unitsOf cX1_unitsOf 3 (some .int) :: ([.fieldLink RX1 15 "IceLand$Core" "units" "[I"] ++ wsX10)
def wsX1_lay : List Cond := .code yX1_lay cX1_lay 4 none :: ([.fieldLink RX1 15 "IceLand$Core" "units" "[I", .fieldLink RX1 9 "IceLand$Core" "ice" "[I"] ++ wsX10)
def wsX1_takeLatest : List Cond := .code yX1_takeLatest cX1_takeLatest 6 none :: ([.methodLink RX1 28 Lib.Math.min.name, .static Lib.Math.min.name, .initialized "java/lang/Math", .code Lib.Math.min.name Lib.Math.min.code 2 (some .int), .methodLink RX1 24 yX1_unitsOf, .instanceMethod yX1_unitsOf, .selects RX1 yX1_unitsOf yX1_unitsOf, .initialized RX1, .code yX1_unitsOf cX1_unitsOf 3 (some .int), .fieldLink RX1 15 "IceLand$Core" "units" "[I", .methodLink RX1 33 yX1_lay, .instanceMethod yX1_lay, .selects RX1 yX1_lay yX1_lay, .code yX1_lay cX1_lay 4 none, .fieldLink RX1 9 "IceLand$Core" "ice" "[I"] ++ wsX10)
def wsX1_carryEarliest : List Cond := .code yX1_carryEarliest cX1_carryEarliest 7 none :: ([.methodLink RX1 28 Lib.Math.min.name, .static Lib.Math.min.name, .initialized "java/lang/Math", .code Lib.Math.min.name Lib.Math.min.code 2 (some .int), .methodLink RX1 24 yX1_unitsOf, .instanceMethod yX1_unitsOf, .selects RX1 yX1_unitsOf yX1_unitsOf, .initialized RX1, .code yX1_unitsOf cX1_unitsOf 3 (some .int), .fieldLink RX1 15 "IceLand$Core" "units" "[I", .methodLink RX1 33 yX1_lay, .instanceMethod yX1_lay, .selects RX1 yX1_lay yX1_lay, .code yX1_lay cX1_lay 4 none, .fieldLink RX1 9 "IceLand$Core" "ice" "[I"] ++ wsX10)
def wsX1_yearBelow : List Cond := .code yX1_yearBelow cX1_yearBelow 6 (some .int) :: ([.methodLink RX1 24 yX1_unitsOf, .instanceMethod yX1_unitsOf, .selects RX1 yX1_unitsOf yX1_unitsOf, .initialized RX1, .code yX1_unitsOf cX1_unitsOf 3 (some .int), .fieldLink RX1 15 "IceLand$Core" "units" "[I"] ++ wsX10)
def wsX2_init : List Cond := .code yX2_init cX2_init 1 none :: ([.methodLink RX2 3 objectInit, .instanceMethod objectInit, .code objectInit ⟨#[0xb1]⟩ 1 none, .arrayClass .int, .fieldLink RX2 9 "IceLand$Forecasts" "meantYear" "[I", .fieldLink RX2 15 "IceLand$Forecasts" "expected" "[I"] ++ wsX20)
def wsX2_keep : List Cond := .code yX2_keep cX2_keep 3 none :: ([.fieldLink RX2 18 "IceLand$Forecasts" "count" "I", .fieldLink RX2 9 "IceLand$Forecasts" "meantYear" "[I", .fieldLink RX2 15 "IceLand$Forecasts" "expected" "[I"] ++ wsX20)
def wsX4_init : List Cond := .code yX4_init cX4_init 1 none :: ([.methodLink RX4 1 objectInit, .instanceMethod objectInit, .code objectInit ⟨#[0xb1]⟩ 1 none])
def wsX3_init_r1 : List Cond := [Cond.methodLink RX3 3 objectInit, Cond.instanceMethod objectInit, Cond.code objectInit ⟨#[0xb1]⟩ 1 none, Cond.classLink RX3 9 RX1, Cond.instantiable RX1 2, Cond.initialized RX1, Cond.fieldLink RX3 12 "IceLand$Land" "core" "LIceLand$Core;", Cond.classLink RX3 18 RX4, Cond.instantiable RX4 5, Cond.initialized RX4, Cond.fieldLink RX3 21 "IceLand$Land" "sums" "LIceLand$Sums;", Cond.arrayClass .int, Cond.fieldLink RX3 25 "IceLand$Land" "bed" "[I", Cond.fieldLink RX3 29 "IceLand$Land" "base" "[I", Cond.fieldLink RX3 32 "IceLand$Land" "water" "[I", Cond.fieldLink RX3 35 "IceLand$Land" "moraine" "[I", Cond.fieldLink RX3 38 "IceLand$Land" "snowed" "[I", Cond.fieldLink RX3 41 "IceLand$Land" "gain" "[I", Cond.fieldLink RX3 44 "IceLand$Land" "passing" "[I", Cond.fieldLink RX3 47 "IceLand$Land" "burst" "[I", Cond.fieldLink RX3 50 "IceLand$Land" "frontCell" "I", Cond.instanceMethod yX1_init, Cond.code yX1_init cX1_init 1 none, Cond.methodLink RX1 3 objectInit]
def wsX3_init_r2 : List Cond := [Cond.fieldLink RX1 9 "IceLand$Core" "ice" "[I", Cond.fieldLink RX1 15 "IceLand$Core" "units" "[I", Cond.instanceMethod yX4_init, Cond.code yX4_init cX4_init 1 none, Cond.methodLink RX4 1 objectInit]
def wsX3_init : List Cond := .code yX3_init cX3_init 2 none :: ((wsX3_init_r1 ++ wsX3_init_r2) ++ wsX10 ++ wsX30 ++ wsX40)
def wsX3_becomeLike : List Cond := .code yX3_becomeLike cX3_becomeLike 2 none :: ([.fieldLink RX3 54 "IceLand$Land" "year" "I", .fieldLink RX3 57 "IceLand$Land" "level" "I", .fieldLink RX3 60 "IceLand$Land" "warmth" "I", .fieldLink RX3 63 "IceLand$Land" "snow" "I", .fieldLink RX3 66 "IceLand$Land" "factor" "I", .fieldLink RX3 12 "IceLand$Land" "core" "LIceLand$Core;", .fieldLink RX3 25 "IceLand$Land" "bed" "[I", .methodLink RX3 73 arraycopyName, .native arraycopyName, .static arraycopyName, .initialized "java/lang/System", .fieldLink RX3 29 "IceLand$Land" "base" "[I", .fieldLink RX3 32 "IceLand$Land" "water" "[I", .fieldLink RX3 35 "IceLand$Land" "moraine" "[I", .methodLink RX3 69 yX1_becomeLike, .instanceMethod yX1_becomeLike, .selects RX1 yX1_becomeLike yX1_becomeLike, .initialized RX1, .code yX1_becomeLike cX1_becomeLike 2 none, .fieldLink RX1 9 "IceLand$Core" "ice" "[I", .methodLink RX1 18 arraycopyName, .fieldLink RX1 15 "IceLand$Core" "units" "[I"] ++ wsX30 ++ wsX10)
def wsX3_surface : List Cond := .code yX3_surface cX3_surface 2 (some .int) :: ([.fieldLink RX3 25 "IceLand$Land" "bed" "[I", .fieldLink RX3 12 "IceLand$Land" "core" "LIceLand$Core;", .fieldLink RX3 101 "IceLand$Core" "ice" "[I"] ++ wsX30 ++ wsX10)
def wsJ9_floorDiv_7cf53 : List Cond := .code yJ9_floorDiv_7cf53 cJ9_floorDiv_7cf53 3 (some .int) :: ([])
def wsX3_standsInSea : List Cond := .code yX3_standsInSea cX3_standsInSea 2 (some .boolean) :: ([.fieldLink RX3 25 "IceLand$Land" "bed" "[I", .fieldLink RX3 57 "IceLand$Land" "level" "I"] ++ wsX30)
def wsX3_snowOrMelt_r1 : List Cond := [Cond.fieldLink RX3 60 "IceLand$Land" "warmth" "I", Cond.fieldLink RX3 38 "IceLand$Land" "snowed" "[I", Cond.fieldLink RX3 12 "IceLand$Land" "core" "LIceLand$Core;", Cond.fieldLink RX3 101 "IceLand$Core" "ice" "[I", Cond.fieldLink RX3 63 "IceLand$Land" "snow" "I", Cond.fieldLink RX3 54 "IceLand$Land" "year" "I", Cond.fieldLink RX3 21 "IceLand$Land" "sums" "LIceLand$Sums;", Cond.fieldLink RX3 131 "IceLand$Sums" "fallen" "I", Cond.fieldLink RX3 66 "IceLand$Land" "factor" "I", Cond.methodLink RX3 134 Lib.Math.min.name, Cond.static Lib.Math.min.name, Cond.initialized "java/lang/Math", Cond.code Lib.Math.min.name Lib.Math.min.code 2 (some .int), Cond.fieldLink RX3 32 "IceLand$Land" "water" "[I", Cond.fieldLink RX3 141 "IceLand$Sums" "melted" "I", Cond.methodLink RX3 104 yX3_surface, Cond.instanceMethod yX3_surface, Cond.selects RX3 yX3_surface yX3_surface, Cond.initialized RX3, Cond.code yX3_surface cX3_surface 2 (some .int), Cond.fieldLink RX3 25 "IceLand$Land" "bed" "[I", Cond.methodLink RX3 123 yJ9_floorDiv_7cf53, Cond.static yJ9_floorDiv_7cf53, Cond.initialized RJ9]
def wsX3_snowOrMelt_r2 : List Cond := [Cond.code yJ9_floorDiv_7cf53 cJ9_floorDiv_7cf53 3 (some .int), Cond.methodLink RX3 112 yX3_standsInSea, Cond.instanceMethod yX3_standsInSea, Cond.selects RX3 yX3_standsInSea yX3_standsInSea, Cond.code yX3_standsInSea cX3_standsInSea 2 (some .boolean), Cond.fieldLink RX3 57 "IceLand$Land" "level" "I", Cond.methodLink RX3 127 yX1_lay, Cond.instanceMethod yX1_lay, Cond.selects RX1 yX1_lay yX1_lay, Cond.initialized RX1, Cond.code yX1_lay cX1_lay 4 none, Cond.fieldLink RX1 15 "IceLand$Core" "units" "[I", Cond.fieldLink RX1 9 "IceLand$Core" "ice" "[I", Cond.methodLink RX3 137 yX1_takeLatest, Cond.instanceMethod yX1_takeLatest, Cond.selects RX1 yX1_takeLatest yX1_takeLatest, Cond.code yX1_takeLatest cX1_takeLatest 6 none, Cond.methodLink RX1 28 Lib.Math.min.name, Cond.methodLink RX1 24 yX1_unitsOf, Cond.instanceMethod yX1_unitsOf, Cond.selects RX1 yX1_unitsOf yX1_unitsOf, Cond.code yX1_unitsOf cX1_unitsOf 3 (some .int), Cond.methodLink RX1 33 yX1_lay]
def wsX3_snowOrMelt : List Cond := .code yX3_snowOrMelt cX3_snowOrMelt 4 none :: ((wsX3_snowOrMelt_r1 ++ wsX3_snowOrMelt_r2) ++ wsX30 ++ wsX10 ++ wsX40)
def wsJ9_floorDiv_f86c9 : List Cond := .code yJ9_floorDiv_f86c9 cJ9_floorDiv_f86c9 6 (some .long) :: ([])
def wsX3_givenBy : List Cond := .code yX3_givenBy cX3_givenBy 5 (some .int) :: ([.fieldLink RX3 12 "IceLand$Land" "core" "LIceLand$Core;", .fieldLink RX3 101 "IceLand$Core" "ice" "[I", .constantLong RX3 153 (200), .fieldLink RX3 32 "IceLand$Land" "water" "[I", .constantLong RX3 158 (2), .methodLink RX3 160 Lib.MathLoose.min_long.x, .static Lib.MathLoose.min_long.x, .initialized "java/lang/Math", .code Lib.MathLoose.min_long.x Lib.MathLoose.min_long.code 4 (some .long), .methodLink RX3 155 yJ9_floorDiv_f86c9, .static yJ9_floorDiv_f86c9, .initialized RJ9, .code yJ9_floorDiv_f86c9 cJ9_floorDiv_f86c9 6 (some .long), .methodLink RX3 123 yJ9_floorDiv_7cf53, .static yJ9_floorDiv_7cf53, .code yJ9_floorDiv_7cf53 cJ9_floorDiv_7cf53 3 (some .int)] ++ wsX30 ++ wsX10)
def wsX3_givenToNext_r1 : List Cond := [Cond.methodLink RX3 104 yX3_surface, Cond.instanceMethod yX3_surface, Cond.selects RX3 yX3_surface yX3_surface, Cond.initialized RX3, Cond.code yX3_surface cX3_surface 2 (some .int), Cond.fieldLink RX3 25 "IceLand$Land" "bed" "[I", Cond.fieldLink RX3 12 "IceLand$Land" "core" "LIceLand$Core;", Cond.fieldLink RX3 101 "IceLand$Core" "ice" "[I", Cond.methodLink RX3 150 yX3_givenBy, Cond.instanceMethod yX3_givenBy, Cond.selects RX3 yX3_givenBy yX3_givenBy, Cond.code yX3_givenBy cX3_givenBy 5 (some .int), Cond.constantLong RX3 153 (200), Cond.fieldLink RX3 32 "IceLand$Land" "water" "[I", Cond.constantLong RX3 158 (2), Cond.methodLink RX3 160 Lib.MathLoose.min_long.x, Cond.static Lib.MathLoose.min_long.x, Cond.initialized "java/lang/Math", Cond.code Lib.MathLoose.min_long.x Lib.MathLoose.min_long.code 4 (some .long), Cond.methodLink RX3 155 yJ9_floorDiv_f86c9, Cond.static yJ9_floorDiv_f86c9, Cond.initialized RJ9, Cond.code yJ9_floorDiv_f86c9 cJ9_floorDiv_f86c9 6 (some .long), Cond.methodLink RX3 123 yJ9_floorDiv_7cf53]
def wsX3_givenToNext_r2 : List Cond := [Cond.static yJ9_floorDiv_7cf53, Cond.code yJ9_floorDiv_7cf53 cJ9_floorDiv_7cf53 3 (some .int)]
def wsX3_givenToNext : List Cond := .code yX3_givenToNext cX3_givenToNext 3 (some .int) :: ((wsX3_givenToNext_r1 ++ wsX3_givenToNext_r2) ++ wsX30 ++ wsX10)
def wsX3_flow_r1 : List Cond := [Cond.fieldLink RX3 44 "IceLand$Land" "passing" "[I", Cond.fieldLink RX3 41 "IceLand$Land" "gain" "[I", Cond.fieldLink RX3 12 "IceLand$Land" "core" "LIceLand$Core;", Cond.methodLink RX3 144 yX3_givenToNext, Cond.instanceMethod yX3_givenToNext, Cond.selects RX3 yX3_givenToNext yX3_givenToNext, Cond.initialized RX3, Cond.code yX3_givenToNext cX3_givenToNext 3 (some .int), Cond.methodLink RX3 104 yX3_surface, Cond.instanceMethod yX3_surface, Cond.selects RX3 yX3_surface yX3_surface, Cond.code yX3_surface cX3_surface 2 (some .int), Cond.fieldLink RX3 25 "IceLand$Land" "bed" "[I", Cond.fieldLink RX3 101 "IceLand$Core" "ice" "[I", Cond.methodLink RX3 150 yX3_givenBy, Cond.instanceMethod yX3_givenBy, Cond.selects RX3 yX3_givenBy yX3_givenBy, Cond.code yX3_givenBy cX3_givenBy 5 (some .int), Cond.constantLong RX3 153 (200), Cond.fieldLink RX3 32 "IceLand$Land" "water" "[I", Cond.constantLong RX3 158 (2), Cond.methodLink RX3 160 Lib.MathLoose.min_long.x, Cond.static Lib.MathLoose.min_long.x, Cond.initialized "java/lang/Math"]
def wsX3_flow_r2 : List Cond := [Cond.code Lib.MathLoose.min_long.x Lib.MathLoose.min_long.code 4 (some .long), Cond.methodLink RX3 155 yJ9_floorDiv_f86c9, Cond.static yJ9_floorDiv_f86c9, Cond.initialized RJ9, Cond.code yJ9_floorDiv_f86c9 cJ9_floorDiv_f86c9 6 (some .long), Cond.methodLink RX3 123 yJ9_floorDiv_7cf53, Cond.static yJ9_floorDiv_7cf53, Cond.code yJ9_floorDiv_7cf53 cJ9_floorDiv_7cf53 3 (some .int), Cond.methodLink RX3 147 yX1_carryEarliest, Cond.instanceMethod yX1_carryEarliest, Cond.selects RX1 yX1_carryEarliest yX1_carryEarliest, Cond.initialized RX1, Cond.code yX1_carryEarliest cX1_carryEarliest 7 none, Cond.methodLink RX1 28 Lib.Math.min.name, Cond.static Lib.Math.min.name, Cond.code Lib.Math.min.name Lib.Math.min.code 2 (some .int), Cond.methodLink RX1 24 yX1_unitsOf, Cond.instanceMethod yX1_unitsOf, Cond.selects RX1 yX1_unitsOf yX1_unitsOf, Cond.code yX1_unitsOf cX1_unitsOf 3 (some .int), Cond.fieldLink RX1 15 "IceLand$Core" "units" "[I", Cond.methodLink RX1 33 yX1_lay, Cond.instanceMethod yX1_lay, Cond.selects RX1 yX1_lay yX1_lay]
def wsX3_flow_r3 : List Cond := [Cond.code yX1_lay cX1_lay 4 none, Cond.fieldLink RX1 9 "IceLand$Core" "ice" "[I"]
def wsX3_flow : List Cond := .code yX3_flow cX3_flow 3 none :: ((wsX3_flow_r1 ++ (wsX3_flow_r2 ++ wsX3_flow_r3)) ++ wsX30 ++ wsX10)
def wsX3_potential : List Cond := .code yX3_potential cX3_potential 2 (some .int) :: ([.fieldLink RX3 25 "IceLand$Land" "bed" "[I", .fieldLink RX3 12 "IceLand$Land" "core" "LIceLand$Core;", .fieldLink RX3 101 "IceLand$Core" "ice" "[I"] ++ wsX30 ++ wsX10)
def wsX3_runOff : List Cond := .code yX3_runOff cX3_runOff 3 none :: ([.fieldLink RX3 21 "IceLand$Land" "sums" "LIceLand$Sums;", .fieldLink RX3 162 "IceLand$Sums" "toSea" "I", .fieldLink RX3 32 "IceLand$Land" "water" "[I", .methodLink RX3 112 yX3_standsInSea, .instanceMethod yX3_standsInSea, .selects RX3 yX3_standsInSea yX3_standsInSea, .initialized RX3, .code yX3_standsInSea cX3_standsInSea 2 (some .boolean), .fieldLink RX3 25 "IceLand$Land" "bed" "[I", .fieldLink RX3 57 "IceLand$Land" "level" "I", .methodLink RX3 115 yX3_potential, .instanceMethod yX3_potential, .selects RX3 yX3_potential yX3_potential, .code yX3_potential cX3_potential 2 (some .int), .fieldLink RX3 12 "IceLand$Land" "core" "LIceLand$Core;", .fieldLink RX3 101 "IceLand$Core" "ice" "[I"] ++ wsX30 ++ wsX40 ++ wsX10)
def wsX3_leastIceBeside : List Cond := .code yX3_leastIceBeside cX3_leastIceBeside 4 (some .int) :: ([.fieldLink RX3 12 "IceLand$Land" "core" "LIceLand$Core;", .fieldLink RX3 101 "IceLand$Core" "ice" "[I", .methodLink RX3 134 Lib.Math.min.name, .static Lib.Math.min.name, .initialized "java/lang/Math", .code Lib.Math.min.name Lib.Math.min.code 2 (some .int)] ++ wsX30 ++ wsX10)
def wsX3_breakOut : List Cond := .code yX3_breakOut cX3_breakOut 3 none :: ([.fieldLink RX3 47 "IceLand$Land" "burst" "[I", .fieldLink RX3 32 "IceLand$Land" "water" "[I", .fieldLink RX3 21 "IceLand$Land" "sums" "LIceLand$Sums;", .fieldLink RX3 162 "IceLand$Sums" "toSea" "I", .methodLink RX3 165 yX3_leastIceBeside, .instanceMethod yX3_leastIceBeside, .selects RX3 yX3_leastIceBeside yX3_leastIceBeside, .initialized RX3, .code yX3_leastIceBeside cX3_leastIceBeside 4 (some .int), .fieldLink RX3 12 "IceLand$Land" "core" "LIceLand$Core;", .fieldLink RX3 101 "IceLand$Core" "ice" "[I", .methodLink RX3 134 Lib.Math.min.name, .static Lib.Math.min.name, .initialized "java/lang/Math", .code Lib.Math.min.name Lib.Math.min.code 2 (some .int)] ++ wsX30 ++ wsX40 ++ wsX10)
def wsX3_calve_r1 : List Cond := [Cond.fieldLink RX3 12 "IceLand$Land" "core" "LIceLand$Core;", Cond.fieldLink RX3 101 "IceLand$Core" "ice" "[I", Cond.fieldLink RX3 57 "IceLand$Land" "level" "I", Cond.fieldLink RX3 25 "IceLand$Land" "bed" "[I", Cond.fieldLink RX3 21 "IceLand$Land" "sums" "LIceLand$Sums;", Cond.fieldLink RX3 168 "IceLand$Sums" "bergs" "I", Cond.methodLink RX3 112 yX3_standsInSea, Cond.instanceMethod yX3_standsInSea, Cond.selects RX3 yX3_standsInSea yX3_standsInSea, Cond.initialized RX3, Cond.code yX3_standsInSea cX3_standsInSea 2 (some .boolean), Cond.methodLink RX3 137 yX1_takeLatest, Cond.instanceMethod yX1_takeLatest, Cond.selects RX1 yX1_takeLatest yX1_takeLatest, Cond.initialized RX1, Cond.code yX1_takeLatest cX1_takeLatest 6 none, Cond.methodLink RX1 28 Lib.Math.min.name, Cond.static Lib.Math.min.name, Cond.initialized "java/lang/Math", Cond.code Lib.Math.min.name Lib.Math.min.code 2 (some .int), Cond.methodLink RX1 24 yX1_unitsOf, Cond.instanceMethod yX1_unitsOf, Cond.selects RX1 yX1_unitsOf yX1_unitsOf, Cond.code yX1_unitsOf cX1_unitsOf 3 (some .int)]
def wsX3_calve_r2 : List Cond := [Cond.fieldLink RX1 15 "IceLand$Core" "units" "[I", Cond.methodLink RX1 33 yX1_lay, Cond.instanceMethod yX1_lay, Cond.selects RX1 yX1_lay yX1_lay, Cond.code yX1_lay cX1_lay 4 none, Cond.fieldLink RX1 9 "IceLand$Core" "ice" "[I"]
def wsX3_calve : List Cond := .code yX3_calve cX3_calve 4 none :: ((wsX3_calve_r1 ++ wsX3_calve_r2) ++ wsX30 ++ wsX10 ++ wsX40)
def wsX3_moveBed : List Cond := .code yX3_moveBed cX3_moveBed 3 none :: ([.fieldLink RX3 29 "IceLand$Land" "base" "[I", .fieldLink RX3 12 "IceLand$Land" "core" "LIceLand$Core;", .fieldLink RX3 101 "IceLand$Core" "ice" "[I", .fieldLink RX3 25 "IceLand$Land" "bed" "[I", .methodLink RX3 123 yJ9_floorDiv_7cf53, .static yJ9_floorDiv_7cf53, .initialized RJ9, .code yJ9_floorDiv_7cf53 cJ9_floorDiv_7cf53 3 (some .int)] ++ wsX30 ++ wsX10)
def wsX3_markFront : List Cond := .code yX3_markFront cX3_markFront 2 none :: ([.fieldLink RX3 50 "IceLand$Land" "frontCell" "I", .fieldLink RX3 12 "IceLand$Land" "core" "LIceLand$Core;", .fieldLink RX3 101 "IceLand$Core" "ice" "[I", .fieldLink RX3 35 "IceLand$Land" "moraine" "[I"] ++ wsX30 ++ wsX10)
def wsX3_goThroughYear_r1 : List Cond := [Cond.fieldLink RX3 54 "IceLand$Land" "year" "I", Cond.methodLink RX3 79 yX3_snowOrMelt, Cond.instanceMethod yX3_snowOrMelt, Cond.selects RX3 yX3_snowOrMelt yX3_snowOrMelt, Cond.initialized RX3, Cond.code yX3_snowOrMelt cX3_snowOrMelt 4 none, Cond.fieldLink RX3 60 "IceLand$Land" "warmth" "I", Cond.fieldLink RX3 38 "IceLand$Land" "snowed" "[I", Cond.fieldLink RX3 12 "IceLand$Land" "core" "LIceLand$Core;", Cond.fieldLink RX3 101 "IceLand$Core" "ice" "[I", Cond.fieldLink RX3 63 "IceLand$Land" "snow" "I", Cond.fieldLink RX3 21 "IceLand$Land" "sums" "LIceLand$Sums;", Cond.fieldLink RX3 131 "IceLand$Sums" "fallen" "I", Cond.fieldLink RX3 66 "IceLand$Land" "factor" "I", Cond.methodLink RX3 134 Lib.Math.min.name, Cond.static Lib.Math.min.name, Cond.initialized "java/lang/Math", Cond.code Lib.Math.min.name Lib.Math.min.code 2 (some .int), Cond.fieldLink RX3 32 "IceLand$Land" "water" "[I", Cond.fieldLink RX3 141 "IceLand$Sums" "melted" "I", Cond.methodLink RX3 104 yX3_surface, Cond.instanceMethod yX3_surface, Cond.selects RX3 yX3_surface yX3_surface, Cond.code yX3_surface cX3_surface 2 (some .int)]
def wsX3_goThroughYear_r2 : List Cond := [Cond.fieldLink RX3 25 "IceLand$Land" "bed" "[I", Cond.methodLink RX3 123 yJ9_floorDiv_7cf53, Cond.static yJ9_floorDiv_7cf53, Cond.initialized RJ9, Cond.code yJ9_floorDiv_7cf53 cJ9_floorDiv_7cf53 3 (some .int), Cond.methodLink RX3 112 yX3_standsInSea, Cond.instanceMethod yX3_standsInSea, Cond.selects RX3 yX3_standsInSea yX3_standsInSea, Cond.code yX3_standsInSea cX3_standsInSea 2 (some .boolean), Cond.fieldLink RX3 57 "IceLand$Land" "level" "I", Cond.methodLink RX3 127 yX1_lay, Cond.instanceMethod yX1_lay, Cond.selects RX1 yX1_lay yX1_lay, Cond.initialized RX1, Cond.code yX1_lay cX1_lay 4 none, Cond.fieldLink RX1 15 "IceLand$Core" "units" "[I", Cond.fieldLink RX1 9 "IceLand$Core" "ice" "[I", Cond.methodLink RX3 137 yX1_takeLatest, Cond.instanceMethod yX1_takeLatest, Cond.selects RX1 yX1_takeLatest yX1_takeLatest, Cond.code yX1_takeLatest cX1_takeLatest 6 none, Cond.methodLink RX1 28 Lib.Math.min.name, Cond.methodLink RX1 24 yX1_unitsOf, Cond.instanceMethod yX1_unitsOf]
def wsX3_goThroughYear_r3 : List Cond := [Cond.selects RX1 yX1_unitsOf yX1_unitsOf, Cond.code yX1_unitsOf cX1_unitsOf 3 (some .int), Cond.methodLink RX1 33 yX1_lay, Cond.methodLink RX3 83 yX3_flow, Cond.instanceMethod yX3_flow, Cond.selects RX3 yX3_flow yX3_flow, Cond.code yX3_flow cX3_flow 3 none, Cond.fieldLink RX3 44 "IceLand$Land" "passing" "[I", Cond.fieldLink RX3 41 "IceLand$Land" "gain" "[I", Cond.methodLink RX3 144 yX3_givenToNext, Cond.instanceMethod yX3_givenToNext, Cond.selects RX3 yX3_givenToNext yX3_givenToNext, Cond.code yX3_givenToNext cX3_givenToNext 3 (some .int), Cond.methodLink RX3 150 yX3_givenBy, Cond.instanceMethod yX3_givenBy, Cond.selects RX3 yX3_givenBy yX3_givenBy, Cond.code yX3_givenBy cX3_givenBy 5 (some .int), Cond.constantLong RX3 153 (200), Cond.constantLong RX3 158 (2), Cond.methodLink RX3 160 Lib.MathLoose.min_long.x, Cond.static Lib.MathLoose.min_long.x, Cond.code Lib.MathLoose.min_long.x Lib.MathLoose.min_long.code 4 (some .long), Cond.methodLink RX3 155 yJ9_floorDiv_f86c9, Cond.static yJ9_floorDiv_f86c9]
def wsX3_goThroughYear_r4 : List Cond := [Cond.code yJ9_floorDiv_f86c9 cJ9_floorDiv_f86c9 6 (some .long), Cond.methodLink RX3 147 yX1_carryEarliest, Cond.instanceMethod yX1_carryEarliest, Cond.selects RX1 yX1_carryEarliest yX1_carryEarliest, Cond.code yX1_carryEarliest cX1_carryEarliest 7 none, Cond.methodLink RX3 86 yX3_runOff, Cond.instanceMethod yX3_runOff, Cond.selects RX3 yX3_runOff yX3_runOff, Cond.code yX3_runOff cX3_runOff 3 none, Cond.fieldLink RX3 162 "IceLand$Sums" "toSea" "I", Cond.methodLink RX3 115 yX3_potential, Cond.instanceMethod yX3_potential, Cond.selects RX3 yX3_potential yX3_potential, Cond.code yX3_potential cX3_potential 2 (some .int), Cond.methodLink RX3 89 yX3_breakOut, Cond.instanceMethod yX3_breakOut, Cond.selects RX3 yX3_breakOut yX3_breakOut, Cond.code yX3_breakOut cX3_breakOut 3 none, Cond.fieldLink RX3 47 "IceLand$Land" "burst" "[I", Cond.methodLink RX3 165 yX3_leastIceBeside, Cond.instanceMethod yX3_leastIceBeside, Cond.selects RX3 yX3_leastIceBeside yX3_leastIceBeside, Cond.code yX3_leastIceBeside cX3_leastIceBeside 4 (some .int), Cond.methodLink RX3 92 yX3_calve]
def wsX3_goThroughYear_r5 : List Cond := [Cond.instanceMethod yX3_calve, Cond.selects RX3 yX3_calve yX3_calve, Cond.code yX3_calve cX3_calve 4 none, Cond.fieldLink RX3 168 "IceLand$Sums" "bergs" "I", Cond.methodLink RX3 95 yX3_moveBed, Cond.instanceMethod yX3_moveBed, Cond.selects RX3 yX3_moveBed yX3_moveBed, Cond.code yX3_moveBed cX3_moveBed 3 none, Cond.fieldLink RX3 29 "IceLand$Land" "base" "[I", Cond.methodLink RX3 98 yX3_markFront, Cond.instanceMethod yX3_markFront, Cond.selects RX3 yX3_markFront yX3_markFront, Cond.code yX3_markFront cX3_markFront 2 none, Cond.fieldLink RX3 50 "IceLand$Land" "frontCell" "I", Cond.fieldLink RX3 35 "IceLand$Land" "moraine" "[I"]
def wsX3_goThroughYear : List Cond := .code yX3_goThroughYear cX3_goThroughYear 2 none :: ((wsX3_goThroughYear_r1 ++ (wsX3_goThroughYear_r2 ++ (wsX3_goThroughYear_r3 ++ (wsX3_goThroughYear_r4 ++ wsX3_goThroughYear_r5)))) ++ wsX30 ++ wsX10 ++ wsX40)
def wsX3_hasCrevasse : List Cond := .code yX3_hasCrevasse cX3_hasCrevasse 2 (some .boolean) :: ([.fieldLink RX3 41 "IceLand$Land" "gain" "[I", .methodLink RX3 118 Lib.Math.abs.name, .static Lib.Math.abs.name, .initialized "java/lang/Math", .code Lib.Math.abs.name Lib.Math.abs.code 1 (some .int)] ++ wsX30)
def wsX3_tellOf_r1 : List Cond := [Cond.fieldLink RX3 25 "IceLand$Land" "bed" "[I", Cond.fieldLink RX3 12 "IceLand$Land" "core" "LIceLand$Core;", Cond.fieldLink RX3 101 "IceLand$Core" "ice" "[I", Cond.fieldLink RX3 32 "IceLand$Land" "water" "[I", Cond.fieldLink RX3 35 "IceLand$Land" "moraine" "[I", Cond.fieldLink RX3 38 "IceLand$Land" "snowed" "[I", Cond.fieldLink RX3 29 "IceLand$Land" "base" "[I", Cond.methodLink RX3 104 yX3_surface, Cond.instanceMethod yX3_surface, Cond.selects RX3 yX3_surface yX3_surface, Cond.initialized RX3, Cond.code yX3_surface cX3_surface 2 (some .int), Cond.methodLink RX3 108 yX3_hasCrevasse, Cond.instanceMethod yX3_hasCrevasse, Cond.selects RX3 yX3_hasCrevasse yX3_hasCrevasse, Cond.code yX3_hasCrevasse cX3_hasCrevasse 2 (some .boolean), Cond.fieldLink RX3 41 "IceLand$Land" "gain" "[I", Cond.methodLink RX3 118 Lib.Math.abs.name, Cond.static Lib.Math.abs.name, Cond.initialized "java/lang/Math", Cond.code Lib.Math.abs.name Lib.Math.abs.code 1 (some .int), Cond.methodLink RX3 112 yX3_standsInSea, Cond.instanceMethod yX3_standsInSea, Cond.selects RX3 yX3_standsInSea yX3_standsInSea]
def wsX3_tellOf_r2 : List Cond := [Cond.code yX3_standsInSea cX3_standsInSea 2 (some .boolean), Cond.fieldLink RX3 57 "IceLand$Land" "level" "I", Cond.methodLink RX3 115 yX3_potential, Cond.instanceMethod yX3_potential, Cond.selects RX3 yX3_potential yX3_potential, Cond.code yX3_potential cX3_potential 2 (some .int)]
def wsX3_tellOf : List Cond := .code yX3_tellOf cX3_tellOf 3 (some .int) :: ((wsX3_tellOf_r1 ++ wsX3_tellOf_r2) ++ wsX30 ++ wsX10)
def wsX3_allWater : List Cond := .code yX3_allWater cX3_allWater 3 (some .int) :: ([.fieldLink RX3 32 "IceLand$Land" "water" "[I"] ++ wsX30)
def wsX5_init_r1 : List Cond := [Cond.methodLink RX5 1 objectInit, Cond.instanceMethod objectInit, Cond.code objectInit ⟨#[0xb1]⟩ 1 none, Cond.classLink RX5 7 RX3, Cond.instantiable RX3 16, Cond.initialized RX3, Cond.fieldLink RX5 10 "IceLand" "present" "LIceLand$Land;", Cond.fieldLink RX5 16 "IceLand" "trial" "LIceLand$Land;", Cond.classLink RX5 19 RX0, Cond.instantiable RX0 7, Cond.initialized RX0, Cond.fieldLink RX5 22 "IceLand" "annals" "LIceLand$Annals;", Cond.classLink RX5 26 RX2, Cond.instantiable RX2 3, Cond.initialized RX2, Cond.fieldLink RX5 29 "IceLand" "forecasts" "LIceLand$Forecasts;", Cond.methodLink RX5 9 yX3_init, Cond.instanceMethod yX3_init, Cond.code yX3_init cX3_init 2 none, Cond.methodLink RX3 3 objectInit, Cond.classLink RX3 9 RX1, Cond.instantiable RX1 2, Cond.initialized RX1, Cond.fieldLink RX3 12 "IceLand$Land" "core" "LIceLand$Core;"]
def wsX5_init_r2 : List Cond := [Cond.classLink RX3 18 RX4, Cond.instantiable RX4 5, Cond.initialized RX4, Cond.fieldLink RX3 21 "IceLand$Land" "sums" "LIceLand$Sums;", Cond.arrayClass .int, Cond.fieldLink RX3 25 "IceLand$Land" "bed" "[I", Cond.fieldLink RX3 29 "IceLand$Land" "base" "[I", Cond.fieldLink RX3 32 "IceLand$Land" "water" "[I", Cond.fieldLink RX3 35 "IceLand$Land" "moraine" "[I", Cond.fieldLink RX3 38 "IceLand$Land" "snowed" "[I", Cond.fieldLink RX3 41 "IceLand$Land" "gain" "[I", Cond.fieldLink RX3 44 "IceLand$Land" "passing" "[I", Cond.fieldLink RX3 47 "IceLand$Land" "burst" "[I", Cond.fieldLink RX3 50 "IceLand$Land" "frontCell" "I", Cond.instanceMethod yX1_init, Cond.code yX1_init cX1_init 1 none, Cond.methodLink RX1 3 objectInit, Cond.fieldLink RX1 9 "IceLand$Core" "ice" "[I", Cond.fieldLink RX1 15 "IceLand$Core" "units" "[I", Cond.instanceMethod yX4_init, Cond.code yX4_init cX4_init 1 none, Cond.methodLink RX4 1 objectInit, Cond.methodLink RX5 21 yX0_init, Cond.instanceMethod yX0_init]
def wsX5_init_r3 : List Cond := [Cond.code yX0_init cX0_init 1 none, Cond.methodLink RX0 3 objectInit, Cond.arrayClass .boolean, Cond.fieldLink RX0 9 "IceLand$Annals" "ashFell" "[Z", Cond.fieldLink RX0 15 "IceLand$Annals" "frontOf" "[I", Cond.fieldLink RX0 19 "IceLand$Annals" "iceBehind" "[I", Cond.fieldLink RX0 22 "IceLand$Annals" "floodYear" "[I", Cond.fieldLink RX0 25 "IceLand$Annals" "floodCell" "[I", Cond.fieldLink RX0 28 "IceLand$Annals" "floodUnits" "[I", Cond.instanceMethod yX2_init, Cond.code yX2_init cX2_init 1 none, Cond.methodLink RX2 3 objectInit, Cond.fieldLink RX2 9 "IceLand$Forecasts" "meantYear" "[I", Cond.fieldLink RX2 15 "IceLand$Forecasts" "expected" "[I"]
def wsX5_init : List Cond := .code yX5_init cX5_init 1 none :: ((wsX5_init_r1 ++ (wsX5_init_r2 ++ wsX5_init_r3)) ++ wsX30 ++ wsX50 ++ wsX00 ++ wsX20 ++ wsX10 ++ wsX40)
def wsX5_needCell : List Cond := .code yX5_needCell cX5_needCell 1 none :: ([.classLink RX5 129 "java/lang/IndexOutOfBoundsException", .initialized "java/lang/IndexOutOfBoundsException"] ++ (vx_atS RX5 133 "java/lang/IndexOutOfBoundsException" ["java/lang/RuntimeException", "java/lang/Exception"]).filter goodWord)
def wsX5_needWithin : List Cond := .code yX5_needWithin cX5_needWithin 3 none :: ([.classLink RX5 118 "java/lang/IllegalArgumentException", .initialized "java/lang/IllegalArgumentException"] ++ (vx_atS RX5 122 "java/lang/IllegalArgumentException" ["java/lang/RuntimeException", "java/lang/Exception"]).filter goodWord)
def wsX5_land : List Cond := .code yX5_land cX5_land 4 (some .int) :: ([.classLink RX5 54 "java/lang/IllegalStateException", .initialized "java/lang/IllegalStateException", .fieldLink RX5 10 "IceLand" "present" "LIceLand$Land;", .fieldLink RX5 41 "IceLand$Land" "core" "LIceLand$Core;", .fieldLink RX5 45 "IceLand$Core" "ice" "[I", .fieldLink RX5 51 "IceLand$Land" "water" "[I", .fieldLink RX5 61 "IceLand$Land" "bed" "[I", .fieldLink RX5 64 "IceLand$Land" "base" "[I", .methodLink RX5 33 yX5_needCell, .static yX5_needCell, .initialized RX5, .code yX5_needCell cX5_needCell 1 none, .classLink RX5 129 "java/lang/IndexOutOfBoundsException", .initialized "java/lang/IndexOutOfBoundsException", .methodLink RX5 37 yX5_needWithin, .static yX5_needWithin, .code yX5_needWithin cX5_needWithin 3 none, .classLink RX5 118 "java/lang/IllegalArgumentException", .initialized "java/lang/IllegalArgumentException"] ++ wsX50 ++ wsX30 ++ wsX10 ++ (vx_atS RX5 58 "java/lang/IllegalStateException" ["java/lang/RuntimeException", "java/lang/Exception"]).filter goodWord ++ (vx_atS RX5 133 "java/lang/IndexOutOfBoundsException" ["java/lang/RuntimeException", "java/lang/Exception"]).filter goodWord ++ (vx_atS RX5 122 "java/lang/IllegalArgumentException" ["java/lang/RuntimeException", "java/lang/Exception"]).filter goodWord)
def wsX5_sea : List Cond := .code yX5_sea cX5_sea 3 (some .int) :: ([.fieldLink RX5 10 "IceLand" "present" "LIceLand$Land;", .fieldLink RX5 67 "IceLand$Land" "level" "I", .methodLink RX5 37 yX5_needWithin, .static yX5_needWithin, .initialized RX5, .code yX5_needWithin cX5_needWithin 3 none, .classLink RX5 118 "java/lang/IllegalArgumentException", .initialized "java/lang/IllegalArgumentException"] ++ wsX50 ++ wsX30 ++ (vx_atS RX5 122 "java/lang/IllegalArgumentException" ["java/lang/RuntimeException", "java/lang/Exception"]).filter goodWord)
def wsX5_climate : List Cond := .code yX5_climate cX5_climate 4 none :: ([.fieldLink RX5 10 "IceLand" "present" "LIceLand$Land;", .fieldLink RX5 71 "IceLand$Land" "warmth" "I", .fieldLink RX5 74 "IceLand$Land" "snow" "I", .fieldLink RX5 77 "IceLand$Land" "factor" "I", .methodLink RX5 37 yX5_needWithin, .static yX5_needWithin, .initialized RX5, .code yX5_needWithin cX5_needWithin 3 none, .classLink RX5 118 "java/lang/IllegalArgumentException", .initialized "java/lang/IllegalArgumentException"] ++ wsX50 ++ wsX30 ++ (vx_atS RX5 122 "java/lang/IllegalArgumentException" ["java/lang/RuntimeException", "java/lang/Exception"]).filter goodWord)
def wsX5_ice_r1 : List Cond := [Cond.classLink RX5 54 "java/lang/IllegalStateException", Cond.initialized "java/lang/IllegalStateException", Cond.fieldLink RX5 10 "IceLand" "present" "LIceLand$Land;", Cond.fieldLink RX5 41 "IceLand$Land" "core" "LIceLand$Core;", Cond.fieldLink RX5 45 "IceLand$Core" "ice" "[I", Cond.fieldLink RX5 82 "IceLand$Land" "year" "I", Cond.fieldLink RX5 88 "IceLand$Land" "sums" "LIceLand$Sums;", Cond.fieldLink RX5 92 "IceLand$Sums" "told" "I", Cond.methodLink RX5 33 yX5_needCell, Cond.static yX5_needCell, Cond.initialized RX5, Cond.code yX5_needCell cX5_needCell 1 none, Cond.classLink RX5 129 "java/lang/IndexOutOfBoundsException", Cond.initialized "java/lang/IndexOutOfBoundsException", Cond.methodLink RX5 37 yX5_needWithin, Cond.static yX5_needWithin, Cond.code yX5_needWithin cX5_needWithin 3 none, Cond.classLink RX5 118 "java/lang/IllegalArgumentException", Cond.initialized "java/lang/IllegalArgumentException", Cond.methodLink RX5 85 yX1_lay, Cond.instanceMethod yX1_lay, Cond.selects RX1 yX1_lay yX1_lay, Cond.initialized RX1, Cond.code yX1_lay cX1_lay 4 none]
def wsX5_ice_r2 : List Cond := [Cond.fieldLink RX1 15 "IceLand$Core" "units" "[I", Cond.fieldLink RX1 9 "IceLand$Core" "ice" "[I"]
def wsX5_ice : List Cond := .code yX5_ice cX5_ice 3 (some .int) :: ((wsX5_ice_r1 ++ wsX5_ice_r2) ++ wsX50 ++ wsX30 ++ wsX10 ++ wsX40 ++ (vx_atS RX5 58 "java/lang/IllegalStateException" ["java/lang/RuntimeException", "java/lang/Exception"]).filter goodWord ++ (vx_atS RX5 133 "java/lang/IndexOutOfBoundsException" ["java/lang/RuntimeException", "java/lang/Exception"]).filter goodWord ++ (vx_atS RX5 122 "java/lang/IllegalArgumentException" ["java/lang/RuntimeException", "java/lang/Exception"]).filter goodWord)
def wsX5_ash : List Cond := .code yX5_ash cX5_ash 2 (some .boolean) :: ([.fieldLink RX5 22 "IceLand" "annals" "LIceLand$Annals;", .fieldLink RX5 97 "IceLand$Annals" "ashFell" "[Z", .fieldLink RX5 10 "IceLand" "present" "LIceLand$Land;", .fieldLink RX5 82 "IceLand$Land" "year" "I"] ++ wsX50 ++ wsX00 ++ wsX30)
def wsX5_needNotTooLate : List Cond := .code yX5_needNotTooLate cX5_needNotTooLate 2 none :: ([.classLink RX5 54 "java/lang/IllegalStateException", .initialized "java/lang/IllegalStateException", .fieldLink RX5 10 "IceLand" "present" "LIceLand$Land;", .fieldLink RX5 82 "IceLand$Land" "year" "I"] ++ wsX50 ++ wsX30 ++ (vx_atS RX5 58 "java/lang/IllegalStateException" ["java/lang/RuntimeException", "java/lang/Exception"]).filter goodWord)
def wsX5_pass_r1 : List Cond := [Cond.fieldLink RX5 10 "IceLand" "present" "LIceLand$Land;", Cond.fieldLink RX5 22 "IceLand" "annals" "LIceLand$Annals;", Cond.fieldLink RX5 82 "IceLand$Land" "year" "I", Cond.methodLink RX5 37 yX5_needWithin, Cond.static yX5_needWithin, Cond.initialized RX5, Cond.code yX5_needWithin cX5_needWithin 3 none, Cond.classLink RX5 118 "java/lang/IllegalArgumentException", Cond.initialized "java/lang/IllegalArgumentException", Cond.methodLink RX5 101 yX5_needNotTooLate, Cond.instanceMethod yX5_needNotTooLate, Cond.selects RX5 yX5_needNotTooLate yX5_needNotTooLate, Cond.code yX5_needNotTooLate cX5_needNotTooLate 2 none, Cond.classLink RX5 54 "java/lang/IllegalStateException", Cond.initialized "java/lang/IllegalStateException", Cond.methodLink RX5 104 yX3_goThroughYear, Cond.instanceMethod yX3_goThroughYear, Cond.selects RX3 yX3_goThroughYear yX3_goThroughYear, Cond.initialized RX3, Cond.code yX3_goThroughYear cX3_goThroughYear 2 none, Cond.fieldLink RX3 54 "IceLand$Land" "year" "I", Cond.methodLink RX3 79 yX3_snowOrMelt, Cond.instanceMethod yX3_snowOrMelt, Cond.selects RX3 yX3_snowOrMelt yX3_snowOrMelt]
def wsX5_pass_r2 : List Cond := [Cond.code yX3_snowOrMelt cX3_snowOrMelt 4 none, Cond.fieldLink RX3 60 "IceLand$Land" "warmth" "I", Cond.fieldLink RX3 38 "IceLand$Land" "snowed" "[I", Cond.fieldLink RX3 12 "IceLand$Land" "core" "LIceLand$Core;", Cond.fieldLink RX3 101 "IceLand$Core" "ice" "[I", Cond.fieldLink RX3 63 "IceLand$Land" "snow" "I", Cond.fieldLink RX3 21 "IceLand$Land" "sums" "LIceLand$Sums;", Cond.fieldLink RX3 131 "IceLand$Sums" "fallen" "I", Cond.fieldLink RX3 66 "IceLand$Land" "factor" "I", Cond.methodLink RX3 134 Lib.Math.min.name, Cond.static Lib.Math.min.name, Cond.initialized "java/lang/Math", Cond.code Lib.Math.min.name Lib.Math.min.code 2 (some .int), Cond.fieldLink RX3 32 "IceLand$Land" "water" "[I", Cond.fieldLink RX3 141 "IceLand$Sums" "melted" "I", Cond.methodLink RX3 104 yX3_surface, Cond.instanceMethod yX3_surface, Cond.selects RX3 yX3_surface yX3_surface, Cond.code yX3_surface cX3_surface 2 (some .int), Cond.fieldLink RX3 25 "IceLand$Land" "bed" "[I", Cond.methodLink RX3 123 yJ9_floorDiv_7cf53, Cond.static yJ9_floorDiv_7cf53, Cond.initialized RJ9, Cond.code yJ9_floorDiv_7cf53 cJ9_floorDiv_7cf53 3 (some .int)]
def wsX5_pass_r3 : List Cond := [Cond.methodLink RX3 112 yX3_standsInSea, Cond.instanceMethod yX3_standsInSea, Cond.selects RX3 yX3_standsInSea yX3_standsInSea, Cond.code yX3_standsInSea cX3_standsInSea 2 (some .boolean), Cond.fieldLink RX3 57 "IceLand$Land" "level" "I", Cond.methodLink RX3 127 yX1_lay, Cond.instanceMethod yX1_lay, Cond.selects RX1 yX1_lay yX1_lay, Cond.initialized RX1, Cond.code yX1_lay cX1_lay 4 none, Cond.fieldLink RX1 15 "IceLand$Core" "units" "[I", Cond.fieldLink RX1 9 "IceLand$Core" "ice" "[I", Cond.methodLink RX3 137 yX1_takeLatest, Cond.instanceMethod yX1_takeLatest, Cond.selects RX1 yX1_takeLatest yX1_takeLatest, Cond.code yX1_takeLatest cX1_takeLatest 6 none, Cond.methodLink RX1 28 Lib.Math.min.name, Cond.methodLink RX1 24 yX1_unitsOf, Cond.instanceMethod yX1_unitsOf, Cond.selects RX1 yX1_unitsOf yX1_unitsOf, Cond.code yX1_unitsOf cX1_unitsOf 3 (some .int), Cond.methodLink RX1 33 yX1_lay, Cond.methodLink RX3 83 yX3_flow, Cond.instanceMethod yX3_flow]
def wsX5_pass_r4 : List Cond := [Cond.selects RX3 yX3_flow yX3_flow, Cond.code yX3_flow cX3_flow 3 none, Cond.fieldLink RX3 44 "IceLand$Land" "passing" "[I", Cond.fieldLink RX3 41 "IceLand$Land" "gain" "[I", Cond.methodLink RX3 144 yX3_givenToNext, Cond.instanceMethod yX3_givenToNext, Cond.selects RX3 yX3_givenToNext yX3_givenToNext, Cond.code yX3_givenToNext cX3_givenToNext 3 (some .int), Cond.methodLink RX3 150 yX3_givenBy, Cond.instanceMethod yX3_givenBy, Cond.selects RX3 yX3_givenBy yX3_givenBy, Cond.code yX3_givenBy cX3_givenBy 5 (some .int), Cond.constantLong RX3 153 (200), Cond.constantLong RX3 158 (2), Cond.methodLink RX3 160 Lib.MathLoose.min_long.x, Cond.static Lib.MathLoose.min_long.x, Cond.code Lib.MathLoose.min_long.x Lib.MathLoose.min_long.code 4 (some .long), Cond.methodLink RX3 155 yJ9_floorDiv_f86c9, Cond.static yJ9_floorDiv_f86c9, Cond.code yJ9_floorDiv_f86c9 cJ9_floorDiv_f86c9 6 (some .long), Cond.methodLink RX3 147 yX1_carryEarliest, Cond.instanceMethod yX1_carryEarliest, Cond.selects RX1 yX1_carryEarliest yX1_carryEarliest, Cond.code yX1_carryEarliest cX1_carryEarliest 7 none]
def wsX5_pass_r5 : List Cond := [Cond.methodLink RX3 86 yX3_runOff, Cond.instanceMethod yX3_runOff, Cond.selects RX3 yX3_runOff yX3_runOff, Cond.code yX3_runOff cX3_runOff 3 none, Cond.fieldLink RX3 162 "IceLand$Sums" "toSea" "I", Cond.methodLink RX3 115 yX3_potential, Cond.instanceMethod yX3_potential, Cond.selects RX3 yX3_potential yX3_potential, Cond.code yX3_potential cX3_potential 2 (some .int), Cond.methodLink RX3 89 yX3_breakOut, Cond.instanceMethod yX3_breakOut, Cond.selects RX3 yX3_breakOut yX3_breakOut, Cond.code yX3_breakOut cX3_breakOut 3 none, Cond.fieldLink RX3 47 "IceLand$Land" "burst" "[I", Cond.methodLink RX3 165 yX3_leastIceBeside, Cond.instanceMethod yX3_leastIceBeside, Cond.selects RX3 yX3_leastIceBeside yX3_leastIceBeside, Cond.code yX3_leastIceBeside cX3_leastIceBeside 4 (some .int), Cond.methodLink RX3 92 yX3_calve, Cond.instanceMethod yX3_calve, Cond.selects RX3 yX3_calve yX3_calve, Cond.code yX3_calve cX3_calve 4 none, Cond.fieldLink RX3 168 "IceLand$Sums" "bergs" "I", Cond.methodLink RX3 95 yX3_moveBed]
def wsX5_pass_r6 : List Cond := [Cond.instanceMethod yX3_moveBed, Cond.selects RX3 yX3_moveBed yX3_moveBed, Cond.code yX3_moveBed cX3_moveBed 3 none, Cond.fieldLink RX3 29 "IceLand$Land" "base" "[I", Cond.methodLink RX3 98 yX3_markFront, Cond.instanceMethod yX3_markFront, Cond.selects RX3 yX3_markFront yX3_markFront, Cond.code yX3_markFront cX3_markFront 2 none, Cond.fieldLink RX3 50 "IceLand$Land" "frontCell" "I", Cond.fieldLink RX3 35 "IceLand$Land" "moraine" "[I", Cond.methodLink RX5 107 yX0_note, Cond.instanceMethod yX0_note, Cond.selects RX0 yX0_note yX0_note, Cond.initialized RX0, Cond.code yX0_note cX0_note 3 none, Cond.fieldLink RX0 15 "IceLand$Annals" "frontOf" "[I", Cond.fieldLink RX0 31 "IceLand$Land" "year" "I", Cond.fieldLink RX0 37 "IceLand$Land" "frontCell" "I", Cond.fieldLink RX0 19 "IceLand$Annals" "iceBehind" "[I", Cond.fieldLink RX0 40 "IceLand$Land" "core" "LIceLand$Core;", Cond.fieldLink RX0 50 "IceLand$Land" "burst" "[I", Cond.fieldLink RX0 53 "IceLand$Annals" "floodCount" "I", Cond.fieldLink RX0 22 "IceLand$Annals" "floodYear" "[I", Cond.fieldLink RX0 25 "IceLand$Annals" "floodCell" "[I"]
def wsX5_pass_r7 : List Cond := [Cond.fieldLink RX0 28 "IceLand$Annals" "floodUnits" "[I", Cond.methodLink RX0 44 yX1_allIce, Cond.instanceMethod yX1_allIce, Cond.selects RX1 yX1_allIce yX1_allIce, Cond.code yX1_allIce cX1_allIce 3 (some .int)]
def wsX5_pass : List Cond := .code yX5_pass cX5_pass 3 (some .int) :: ((wsX5_pass_r1 ++ (wsX5_pass_r2 ++ (wsX5_pass_r3 ++ (wsX5_pass_r4 ++ (wsX5_pass_r5 ++ (wsX5_pass_r6 ++ wsX5_pass_r7)))))) ++ wsX50 ++ wsX30 ++ wsX10 ++ wsX40 ++ wsX00 ++ (vx_atS RX5 122 "java/lang/IllegalArgumentException" ["java/lang/RuntimeException", "java/lang/Exception"]).filter goodWord ++ (vx_atS RX5 58 "java/lang/IllegalStateException" ["java/lang/RuntimeException", "java/lang/Exception"]).filter goodWord)
def wsX5_cellIs_r1 : List Cond := [Cond.fieldLink RX5 10 "IceLand" "present" "LIceLand$Land;", Cond.methodLink RX5 33 yX5_needCell, Cond.static yX5_needCell, Cond.initialized RX5, Cond.code yX5_needCell cX5_needCell 1 none, Cond.classLink RX5 129 "java/lang/IndexOutOfBoundsException", Cond.initialized "java/lang/IndexOutOfBoundsException", Cond.methodLink RX5 37 yX5_needWithin, Cond.static yX5_needWithin, Cond.code yX5_needWithin cX5_needWithin 3 none, Cond.classLink RX5 118 "java/lang/IllegalArgumentException", Cond.initialized "java/lang/IllegalArgumentException", Cond.methodLink RX5 111 yX3_tellOf, Cond.instanceMethod yX3_tellOf, Cond.selects RX3 yX3_tellOf yX3_tellOf, Cond.initialized RX3, Cond.code yX3_tellOf cX3_tellOf 3 (some .int), Cond.fieldLink RX3 25 "IceLand$Land" "bed" "[I", Cond.fieldLink RX3 12 "IceLand$Land" "core" "LIceLand$Core;", Cond.fieldLink RX3 101 "IceLand$Core" "ice" "[I", Cond.fieldLink RX3 32 "IceLand$Land" "water" "[I", Cond.fieldLink RX3 35 "IceLand$Land" "moraine" "[I", Cond.fieldLink RX3 38 "IceLand$Land" "snowed" "[I", Cond.fieldLink RX3 29 "IceLand$Land" "base" "[I"]
def wsX5_cellIs_r2 : List Cond := [Cond.methodLink RX3 104 yX3_surface, Cond.instanceMethod yX3_surface, Cond.selects RX3 yX3_surface yX3_surface, Cond.code yX3_surface cX3_surface 2 (some .int), Cond.methodLink RX3 108 yX3_hasCrevasse, Cond.instanceMethod yX3_hasCrevasse, Cond.selects RX3 yX3_hasCrevasse yX3_hasCrevasse, Cond.code yX3_hasCrevasse cX3_hasCrevasse 2 (some .boolean), Cond.fieldLink RX3 41 "IceLand$Land" "gain" "[I", Cond.methodLink RX3 118 Lib.Math.abs.name, Cond.static Lib.Math.abs.name, Cond.initialized "java/lang/Math", Cond.code Lib.Math.abs.name Lib.Math.abs.code 1 (some .int), Cond.methodLink RX3 112 yX3_standsInSea, Cond.instanceMethod yX3_standsInSea, Cond.selects RX3 yX3_standsInSea yX3_standsInSea, Cond.code yX3_standsInSea cX3_standsInSea 2 (some .boolean), Cond.fieldLink RX3 57 "IceLand$Land" "level" "I", Cond.methodLink RX3 115 yX3_potential, Cond.instanceMethod yX3_potential, Cond.selects RX3 yX3_potential yX3_potential, Cond.code yX3_potential cX3_potential 2 (some .int)]
def wsX5_cellIs : List Cond := .code yX5_cellIs cX5_cellIs 3 (some .int) :: ((wsX5_cellIs_r1 ++ wsX5_cellIs_r2) ++ wsX50 ++ wsX30 ++ wsX10 ++ (vx_atS RX5 133 "java/lang/IndexOutOfBoundsException" ["java/lang/RuntimeException", "java/lang/Exception"]).filter goodWord ++ (vx_atS RX5 122 "java/lang/IllegalArgumentException" ["java/lang/RuntimeException", "java/lang/Exception"]).filter goodWord)
def wsX5_layer : List Cond := .code yX5_layer cX5_layer 3 (some .int) :: ([.fieldLink RX5 10 "IceLand" "present" "LIceLand$Land;", .fieldLink RX5 41 "IceLand$Land" "core" "LIceLand$Core;", .methodLink RX5 33 yX5_needCell, .static yX5_needCell, .initialized RX5, .code yX5_needCell cX5_needCell 1 none, .classLink RX5 129 "java/lang/IndexOutOfBoundsException", .initialized "java/lang/IndexOutOfBoundsException", .methodLink RX5 37 yX5_needWithin, .static yX5_needWithin, .code yX5_needWithin cX5_needWithin 3 none, .classLink RX5 118 "java/lang/IllegalArgumentException", .initialized "java/lang/IllegalArgumentException", .methodLink RX5 115 yX1_unitsOf, .instanceMethod yX1_unitsOf, .selects RX1 yX1_unitsOf yX1_unitsOf, .initialized RX1, .code yX1_unitsOf cX1_unitsOf 3 (some .int), .fieldLink RX1 15 "IceLand$Core" "units" "[I"] ++ wsX50 ++ wsX30 ++ wsX10 ++ (vx_atS RX5 133 "java/lang/IndexOutOfBoundsException" ["java/lang/RuntimeException", "java/lang/Exception"]).filter goodWord ++ (vx_atS RX5 122 "java/lang/IllegalArgumentException" ["java/lang/RuntimeException", "java/lang/Exception"]).filter goodWord)
def wsX5_yearAt : List Cond := .code yX5_yearAt cX5_yearAt 3 (some .int) :: ([.classLink RX5 118 "java/lang/IllegalArgumentException", .initialized "java/lang/IllegalArgumentException", .fieldLink RX5 10 "IceLand" "present" "LIceLand$Land;", .fieldLink RX5 41 "IceLand$Land" "core" "LIceLand$Core;", .methodLink RX5 33 yX5_needCell, .static yX5_needCell, .initialized RX5, .code yX5_needCell cX5_needCell 1 none, .classLink RX5 129 "java/lang/IndexOutOfBoundsException", .initialized "java/lang/IndexOutOfBoundsException", .methodLink RX5 123 yX1_yearBelow, .instanceMethod yX1_yearBelow, .selects RX1 yX1_yearBelow yX1_yearBelow, .initialized RX1, .code yX1_yearBelow cX1_yearBelow 6 (some .int), .methodLink RX1 24 yX1_unitsOf, .instanceMethod yX1_unitsOf, .selects RX1 yX1_unitsOf yX1_unitsOf, .code yX1_unitsOf cX1_unitsOf 3 (some .int), .fieldLink RX1 15 "IceLand$Core" "units" "[I"] ++ wsX50 ++ wsX30 ++ wsX10 ++ (vx_atS RX5 122 "java/lang/IllegalArgumentException" ["java/lang/RuntimeException", "java/lang/Exception"]).filter goodWord ++ (vx_atS RX5 133 "java/lang/IndexOutOfBoundsException" ["java/lang/RuntimeException", "java/lang/Exception"]).filter goodWord)
def wsX5_common : List Cond := .code yX5_common cX5_common 5 (some .int) :: ([.fieldLink RX5 22 "IceLand" "annals" "LIceLand$Annals;", .fieldLink RX5 97 "IceLand$Annals" "ashFell" "[Z", .fieldLink RX5 10 "IceLand" "present" "LIceLand$Land;", .fieldLink RX5 41 "IceLand$Land" "core" "LIceLand$Core;", .methodLink RX5 33 yX5_needCell, .static yX5_needCell, .initialized RX5, .code yX5_needCell cX5_needCell 1 none, .classLink RX5 129 "java/lang/IndexOutOfBoundsException", .initialized "java/lang/IndexOutOfBoundsException", .methodLink RX5 115 yX1_unitsOf, .instanceMethod yX1_unitsOf, .selects RX1 yX1_unitsOf yX1_unitsOf, .initialized RX1, .code yX1_unitsOf cX1_unitsOf 3 (some .int), .fieldLink RX1 15 "IceLand$Core" "units" "[I"] ++ wsX50 ++ wsX00 ++ wsX30 ++ wsX10 ++ (vx_atS RX5 133 "java/lang/IndexOutOfBoundsException" ["java/lang/RuntimeException", "java/lang/Exception"]).filter goodWord)
def wsX5_floods : List Cond := .code yX5_floods cX5_floods 1 (some .int) :: ([.fieldLink RX5 22 "IceLand" "annals" "LIceLand$Annals;", .fieldLink RX5 126 "IceLand$Annals" "floodCount" "I"] ++ wsX50 ++ wsX00)
def wsX5_flood : List Cond := .code yX5_flood cX5_flood 3 (some .int) :: ([.classLink RX5 129 "java/lang/IndexOutOfBoundsException", .initialized "java/lang/IndexOutOfBoundsException", .fieldLink RX5 22 "IceLand" "annals" "LIceLand$Annals;", .fieldLink RX5 126 "IceLand$Annals" "floodCount" "I", .fieldLink RX5 134 "IceLand$Annals" "floodYear" "[I", .fieldLink RX5 137 "IceLand$Annals" "floodCell" "[I", .fieldLink RX5 140 "IceLand$Annals" "floodUnits" "[I", .methodLink RX5 37 yX5_needWithin, .static yX5_needWithin, .initialized RX5, .code yX5_needWithin cX5_needWithin 3 none, .classLink RX5 118 "java/lang/IllegalArgumentException", .initialized "java/lang/IllegalArgumentException"] ++ wsX50 ++ wsX00 ++ (vx_atS RX5 133 "java/lang/IndexOutOfBoundsException" ["java/lang/RuntimeException", "java/lang/Exception"]).filter goodWord ++ (vx_atS RX5 122 "java/lang/IllegalArgumentException" ["java/lang/RuntimeException", "java/lang/Exception"]).filter goodWord)
def wsX5_front : List Cond := .code yX5_front cX5_front 2 (some .int) :: ([.fieldLink RX5 10 "IceLand" "present" "LIceLand$Land;", .fieldLink RX5 82 "IceLand$Land" "year" "I", .fieldLink RX5 22 "IceLand" "annals" "LIceLand$Annals;", .fieldLink RX5 143 "IceLand$Annals" "frontOf" "[I", .methodLink RX5 37 yX5_needWithin, .static yX5_needWithin, .initialized RX5, .code yX5_needWithin cX5_needWithin 3 none, .classLink RX5 118 "java/lang/IllegalArgumentException", .initialized "java/lang/IllegalArgumentException"] ++ wsX50 ++ wsX30 ++ wsX00 ++ (vx_atS RX5 122 "java/lang/IllegalArgumentException" ["java/lang/RuntimeException", "java/lang/Exception"]).filter goodWord)
def wsX5_total_r1 : List Cond := [Cond.fieldLink RX5 10 "IceLand" "present" "LIceLand$Land;", Cond.fieldLink RX5 41 "IceLand$Land" "core" "LIceLand$Core;", Cond.fieldLink RX5 88 "IceLand$Land" "sums" "LIceLand$Sums;", Cond.fieldLink RX5 153 "IceLand$Sums" "toSea" "I", Cond.fieldLink RX5 156 "IceLand$Sums" "bergs" "I", Cond.fieldLink RX5 159 "IceLand$Sums" "fallen" "I", Cond.fieldLink RX5 92 "IceLand$Sums" "told" "I", Cond.methodLink RX5 37 yX5_needWithin, Cond.static yX5_needWithin, Cond.initialized RX5, Cond.code yX5_needWithin cX5_needWithin 3 none, Cond.classLink RX5 118 "java/lang/IllegalArgumentException", Cond.initialized "java/lang/IllegalArgumentException", Cond.methodLink RX5 146 yX1_allIce, Cond.instanceMethod yX1_allIce, Cond.selects RX1 yX1_allIce yX1_allIce, Cond.initialized RX1, Cond.code yX1_allIce cX1_allIce 3 (some .int), Cond.fieldLink RX1 9 "IceLand$Core" "ice" "[I", Cond.methodLink RX5 150 yX3_allWater, Cond.instanceMethod yX3_allWater, Cond.selects RX3 yX3_allWater yX3_allWater, Cond.initialized RX3, Cond.code yX3_allWater cX3_allWater 3 (some .int)]
def wsX5_total_r2 : List Cond := [Cond.fieldLink RX3 32 "IceLand$Land" "water" "[I"]
def wsX5_total : List Cond := .code yX5_total cX5_total 2 (some .int) :: ((wsX5_total_r1 ++ wsX5_total_r2) ++ wsX50 ++ wsX30 ++ wsX40 ++ wsX10 ++ (vx_atS RX5 122 "java/lang/IllegalArgumentException" ["java/lang/RuntimeException", "java/lang/Exception"]).filter goodWord)
def wsX5_iceAnew : List Cond := .code yX5_iceAnew cX5_iceAnew 2 (some .int) :: ([.fieldLink RX5 10 "IceLand" "present" "LIceLand$Land;", .fieldLink RX5 88 "IceLand$Land" "sums" "LIceLand$Sums;", .fieldLink RX5 159 "IceLand$Sums" "fallen" "I", .fieldLink RX5 92 "IceLand$Sums" "told" "I", .fieldLink RX5 162 "IceLand$Sums" "melted" "I", .fieldLink RX5 156 "IceLand$Sums" "bergs" "I"] ++ wsX50 ++ wsX30 ++ wsX40)
def wsX5_tryOut_r1 : List Cond := [Cond.fieldLink RX5 16 "IceLand" "trial" "LIceLand$Land;", Cond.fieldLink RX5 10 "IceLand" "present" "LIceLand$Land;", Cond.methodLink RX5 194 yX3_becomeLike, Cond.instanceMethod yX3_becomeLike, Cond.selects RX3 yX3_becomeLike yX3_becomeLike, Cond.initialized RX3, Cond.code yX3_becomeLike cX3_becomeLike 2 none, Cond.fieldLink RX3 54 "IceLand$Land" "year" "I", Cond.fieldLink RX3 57 "IceLand$Land" "level" "I", Cond.fieldLink RX3 60 "IceLand$Land" "warmth" "I", Cond.fieldLink RX3 63 "IceLand$Land" "snow" "I", Cond.fieldLink RX3 66 "IceLand$Land" "factor" "I", Cond.fieldLink RX3 12 "IceLand$Land" "core" "LIceLand$Core;", Cond.fieldLink RX3 25 "IceLand$Land" "bed" "[I", Cond.methodLink RX3 73 arraycopyName, Cond.native arraycopyName, Cond.static arraycopyName, Cond.initialized "java/lang/System", Cond.fieldLink RX3 29 "IceLand$Land" "base" "[I", Cond.fieldLink RX3 32 "IceLand$Land" "water" "[I", Cond.fieldLink RX3 35 "IceLand$Land" "moraine" "[I", Cond.methodLink RX3 69 yX1_becomeLike, Cond.instanceMethod yX1_becomeLike, Cond.selects RX1 yX1_becomeLike yX1_becomeLike]
def wsX5_tryOut_r2 : List Cond := [Cond.initialized RX1, Cond.code yX1_becomeLike cX1_becomeLike 2 none, Cond.fieldLink RX1 9 "IceLand$Core" "ice" "[I", Cond.methodLink RX1 18 arraycopyName, Cond.fieldLink RX1 15 "IceLand$Core" "units" "[I", Cond.methodLink RX5 104 yX3_goThroughYear, Cond.instanceMethod yX3_goThroughYear, Cond.selects RX3 yX3_goThroughYear yX3_goThroughYear, Cond.code yX3_goThroughYear cX3_goThroughYear 2 none, Cond.methodLink RX3 79 yX3_snowOrMelt, Cond.instanceMethod yX3_snowOrMelt, Cond.selects RX3 yX3_snowOrMelt yX3_snowOrMelt, Cond.code yX3_snowOrMelt cX3_snowOrMelt 4 none, Cond.fieldLink RX3 38 "IceLand$Land" "snowed" "[I", Cond.fieldLink RX3 101 "IceLand$Core" "ice" "[I", Cond.fieldLink RX3 21 "IceLand$Land" "sums" "LIceLand$Sums;", Cond.fieldLink RX3 131 "IceLand$Sums" "fallen" "I", Cond.methodLink RX3 134 Lib.Math.min.name, Cond.static Lib.Math.min.name, Cond.initialized "java/lang/Math", Cond.code Lib.Math.min.name Lib.Math.min.code 2 (some .int), Cond.fieldLink RX3 141 "IceLand$Sums" "melted" "I", Cond.methodLink RX3 104 yX3_surface, Cond.instanceMethod yX3_surface]
def wsX5_tryOut_r3 : List Cond := [Cond.selects RX3 yX3_surface yX3_surface, Cond.code yX3_surface cX3_surface 2 (some .int), Cond.methodLink RX3 123 yJ9_floorDiv_7cf53, Cond.static yJ9_floorDiv_7cf53, Cond.initialized RJ9, Cond.code yJ9_floorDiv_7cf53 cJ9_floorDiv_7cf53 3 (some .int), Cond.methodLink RX3 112 yX3_standsInSea, Cond.instanceMethod yX3_standsInSea, Cond.selects RX3 yX3_standsInSea yX3_standsInSea, Cond.code yX3_standsInSea cX3_standsInSea 2 (some .boolean), Cond.methodLink RX3 127 yX1_lay, Cond.instanceMethod yX1_lay, Cond.selects RX1 yX1_lay yX1_lay, Cond.code yX1_lay cX1_lay 4 none, Cond.methodLink RX3 137 yX1_takeLatest, Cond.instanceMethod yX1_takeLatest, Cond.selects RX1 yX1_takeLatest yX1_takeLatest, Cond.code yX1_takeLatest cX1_takeLatest 6 none, Cond.methodLink RX1 28 Lib.Math.min.name, Cond.methodLink RX1 24 yX1_unitsOf, Cond.instanceMethod yX1_unitsOf, Cond.selects RX1 yX1_unitsOf yX1_unitsOf, Cond.code yX1_unitsOf cX1_unitsOf 3 (some .int), Cond.methodLink RX1 33 yX1_lay]
def wsX5_tryOut_r4 : List Cond := [Cond.methodLink RX3 83 yX3_flow, Cond.instanceMethod yX3_flow, Cond.selects RX3 yX3_flow yX3_flow, Cond.code yX3_flow cX3_flow 3 none, Cond.fieldLink RX3 44 "IceLand$Land" "passing" "[I", Cond.fieldLink RX3 41 "IceLand$Land" "gain" "[I", Cond.methodLink RX3 144 yX3_givenToNext, Cond.instanceMethod yX3_givenToNext, Cond.selects RX3 yX3_givenToNext yX3_givenToNext, Cond.code yX3_givenToNext cX3_givenToNext 3 (some .int), Cond.methodLink RX3 150 yX3_givenBy, Cond.instanceMethod yX3_givenBy, Cond.selects RX3 yX3_givenBy yX3_givenBy, Cond.code yX3_givenBy cX3_givenBy 5 (some .int), Cond.constantLong RX3 153 (200), Cond.constantLong RX3 158 (2), Cond.methodLink RX3 160 Lib.MathLoose.min_long.x, Cond.static Lib.MathLoose.min_long.x, Cond.code Lib.MathLoose.min_long.x Lib.MathLoose.min_long.code 4 (some .long), Cond.methodLink RX3 155 yJ9_floorDiv_f86c9, Cond.static yJ9_floorDiv_f86c9, Cond.code yJ9_floorDiv_f86c9 cJ9_floorDiv_f86c9 6 (some .long), Cond.methodLink RX3 147 yX1_carryEarliest, Cond.instanceMethod yX1_carryEarliest]
def wsX5_tryOut_r5 : List Cond := [Cond.selects RX1 yX1_carryEarliest yX1_carryEarliest, Cond.code yX1_carryEarliest cX1_carryEarliest 7 none, Cond.methodLink RX3 86 yX3_runOff, Cond.instanceMethod yX3_runOff, Cond.selects RX3 yX3_runOff yX3_runOff, Cond.code yX3_runOff cX3_runOff 3 none, Cond.fieldLink RX3 162 "IceLand$Sums" "toSea" "I", Cond.methodLink RX3 115 yX3_potential, Cond.instanceMethod yX3_potential, Cond.selects RX3 yX3_potential yX3_potential, Cond.code yX3_potential cX3_potential 2 (some .int), Cond.methodLink RX3 89 yX3_breakOut, Cond.instanceMethod yX3_breakOut, Cond.selects RX3 yX3_breakOut yX3_breakOut, Cond.code yX3_breakOut cX3_breakOut 3 none, Cond.fieldLink RX3 47 "IceLand$Land" "burst" "[I", Cond.methodLink RX3 165 yX3_leastIceBeside, Cond.instanceMethod yX3_leastIceBeside, Cond.selects RX3 yX3_leastIceBeside yX3_leastIceBeside, Cond.code yX3_leastIceBeside cX3_leastIceBeside 4 (some .int), Cond.methodLink RX3 92 yX3_calve, Cond.instanceMethod yX3_calve, Cond.selects RX3 yX3_calve yX3_calve, Cond.code yX3_calve cX3_calve 4 none]
def wsX5_tryOut_r6 : List Cond := [Cond.fieldLink RX3 168 "IceLand$Sums" "bergs" "I", Cond.methodLink RX3 95 yX3_moveBed, Cond.instanceMethod yX3_moveBed, Cond.selects RX3 yX3_moveBed yX3_moveBed, Cond.code yX3_moveBed cX3_moveBed 3 none, Cond.methodLink RX3 98 yX3_markFront, Cond.instanceMethod yX3_markFront, Cond.selects RX3 yX3_markFront yX3_markFront, Cond.code yX3_markFront cX3_markFront 2 none, Cond.fieldLink RX3 50 "IceLand$Land" "frontCell" "I"]
def wsX5_tryOut : List Cond := .code yX5_tryOut cX5_tryOut 3 none :: ((wsX5_tryOut_r1 ++ (wsX5_tryOut_r2 ++ (wsX5_tryOut_r3 ++ (wsX5_tryOut_r4 ++ (wsX5_tryOut_r5 ++ wsX5_tryOut_r6))))) ++ wsX50 ++ wsX30 ++ wsX10 ++ wsX40)
def wsX5_would_r1 : List Cond := [Cond.fieldLink RX5 16 "IceLand" "trial" "LIceLand$Land;", Cond.methodLink RX5 33 yX5_needCell, Cond.static yX5_needCell, Cond.initialized RX5, Cond.code yX5_needCell cX5_needCell 1 none, Cond.classLink RX5 129 "java/lang/IndexOutOfBoundsException", Cond.initialized "java/lang/IndexOutOfBoundsException", Cond.methodLink RX5 37 yX5_needWithin, Cond.static yX5_needWithin, Cond.code yX5_needWithin cX5_needWithin 3 none, Cond.classLink RX5 118 "java/lang/IllegalArgumentException", Cond.initialized "java/lang/IllegalArgumentException", Cond.methodLink RX5 101 yX5_needNotTooLate, Cond.instanceMethod yX5_needNotTooLate, Cond.selects RX5 yX5_needNotTooLate yX5_needNotTooLate, Cond.code yX5_needNotTooLate cX5_needNotTooLate 2 none, Cond.classLink RX5 54 "java/lang/IllegalStateException", Cond.initialized "java/lang/IllegalStateException", Cond.fieldLink RX5 10 "IceLand" "present" "LIceLand$Land;", Cond.fieldLink RX5 82 "IceLand$Land" "year" "I", Cond.methodLink RX5 165 yX5_tryOut, Cond.instanceMethod yX5_tryOut, Cond.selects RX5 yX5_tryOut yX5_tryOut, Cond.code yX5_tryOut cX5_tryOut 3 none]
def wsX5_would_r2 : List Cond := [Cond.methodLink RX5 194 yX3_becomeLike, Cond.instanceMethod yX3_becomeLike, Cond.selects RX3 yX3_becomeLike yX3_becomeLike, Cond.initialized RX3, Cond.code yX3_becomeLike cX3_becomeLike 2 none, Cond.fieldLink RX3 54 "IceLand$Land" "year" "I", Cond.fieldLink RX3 57 "IceLand$Land" "level" "I", Cond.fieldLink RX3 60 "IceLand$Land" "warmth" "I", Cond.fieldLink RX3 63 "IceLand$Land" "snow" "I", Cond.fieldLink RX3 66 "IceLand$Land" "factor" "I", Cond.fieldLink RX3 12 "IceLand$Land" "core" "LIceLand$Core;", Cond.fieldLink RX3 25 "IceLand$Land" "bed" "[I", Cond.methodLink RX3 73 arraycopyName, Cond.native arraycopyName, Cond.static arraycopyName, Cond.initialized "java/lang/System", Cond.fieldLink RX3 29 "IceLand$Land" "base" "[I", Cond.fieldLink RX3 32 "IceLand$Land" "water" "[I", Cond.fieldLink RX3 35 "IceLand$Land" "moraine" "[I", Cond.methodLink RX3 69 yX1_becomeLike, Cond.instanceMethod yX1_becomeLike, Cond.selects RX1 yX1_becomeLike yX1_becomeLike, Cond.initialized RX1, Cond.code yX1_becomeLike cX1_becomeLike 2 none]
def wsX5_would_r3 : List Cond := [Cond.fieldLink RX1 9 "IceLand$Core" "ice" "[I", Cond.methodLink RX1 18 arraycopyName, Cond.fieldLink RX1 15 "IceLand$Core" "units" "[I", Cond.methodLink RX5 104 yX3_goThroughYear, Cond.instanceMethod yX3_goThroughYear, Cond.selects RX3 yX3_goThroughYear yX3_goThroughYear, Cond.code yX3_goThroughYear cX3_goThroughYear 2 none, Cond.methodLink RX3 79 yX3_snowOrMelt, Cond.instanceMethod yX3_snowOrMelt, Cond.selects RX3 yX3_snowOrMelt yX3_snowOrMelt, Cond.code yX3_snowOrMelt cX3_snowOrMelt 4 none, Cond.fieldLink RX3 38 "IceLand$Land" "snowed" "[I", Cond.fieldLink RX3 101 "IceLand$Core" "ice" "[I", Cond.fieldLink RX3 21 "IceLand$Land" "sums" "LIceLand$Sums;", Cond.fieldLink RX3 131 "IceLand$Sums" "fallen" "I", Cond.methodLink RX3 134 Lib.Math.min.name, Cond.static Lib.Math.min.name, Cond.initialized "java/lang/Math", Cond.code Lib.Math.min.name Lib.Math.min.code 2 (some .int), Cond.fieldLink RX3 141 "IceLand$Sums" "melted" "I", Cond.methodLink RX3 104 yX3_surface, Cond.instanceMethod yX3_surface, Cond.selects RX3 yX3_surface yX3_surface, Cond.code yX3_surface cX3_surface 2 (some .int)]
def wsX5_would_r4 : List Cond := [Cond.methodLink RX3 123 yJ9_floorDiv_7cf53, Cond.static yJ9_floorDiv_7cf53, Cond.initialized RJ9, Cond.code yJ9_floorDiv_7cf53 cJ9_floorDiv_7cf53 3 (some .int), Cond.methodLink RX3 112 yX3_standsInSea, Cond.instanceMethod yX3_standsInSea, Cond.selects RX3 yX3_standsInSea yX3_standsInSea, Cond.code yX3_standsInSea cX3_standsInSea 2 (some .boolean), Cond.methodLink RX3 127 yX1_lay, Cond.instanceMethod yX1_lay, Cond.selects RX1 yX1_lay yX1_lay, Cond.code yX1_lay cX1_lay 4 none, Cond.methodLink RX3 137 yX1_takeLatest, Cond.instanceMethod yX1_takeLatest, Cond.selects RX1 yX1_takeLatest yX1_takeLatest, Cond.code yX1_takeLatest cX1_takeLatest 6 none, Cond.methodLink RX1 28 Lib.Math.min.name, Cond.methodLink RX1 24 yX1_unitsOf, Cond.instanceMethod yX1_unitsOf, Cond.selects RX1 yX1_unitsOf yX1_unitsOf, Cond.code yX1_unitsOf cX1_unitsOf 3 (some .int), Cond.methodLink RX1 33 yX1_lay, Cond.methodLink RX3 83 yX3_flow, Cond.instanceMethod yX3_flow]
def wsX5_would_r5 : List Cond := [Cond.selects RX3 yX3_flow yX3_flow, Cond.code yX3_flow cX3_flow 3 none, Cond.fieldLink RX3 44 "IceLand$Land" "passing" "[I", Cond.fieldLink RX3 41 "IceLand$Land" "gain" "[I", Cond.methodLink RX3 144 yX3_givenToNext, Cond.instanceMethod yX3_givenToNext, Cond.selects RX3 yX3_givenToNext yX3_givenToNext, Cond.code yX3_givenToNext cX3_givenToNext 3 (some .int), Cond.methodLink RX3 150 yX3_givenBy, Cond.instanceMethod yX3_givenBy, Cond.selects RX3 yX3_givenBy yX3_givenBy, Cond.code yX3_givenBy cX3_givenBy 5 (some .int), Cond.constantLong RX3 153 (200), Cond.constantLong RX3 158 (2), Cond.methodLink RX3 160 Lib.MathLoose.min_long.x, Cond.static Lib.MathLoose.min_long.x, Cond.code Lib.MathLoose.min_long.x Lib.MathLoose.min_long.code 4 (some .long), Cond.methodLink RX3 155 yJ9_floorDiv_f86c9, Cond.static yJ9_floorDiv_f86c9, Cond.code yJ9_floorDiv_f86c9 cJ9_floorDiv_f86c9 6 (some .long), Cond.methodLink RX3 147 yX1_carryEarliest, Cond.instanceMethod yX1_carryEarliest, Cond.selects RX1 yX1_carryEarliest yX1_carryEarliest, Cond.code yX1_carryEarliest cX1_carryEarliest 7 none]
def wsX5_would_r6 : List Cond := [Cond.methodLink RX3 86 yX3_runOff, Cond.instanceMethod yX3_runOff, Cond.selects RX3 yX3_runOff yX3_runOff, Cond.code yX3_runOff cX3_runOff 3 none, Cond.fieldLink RX3 162 "IceLand$Sums" "toSea" "I", Cond.methodLink RX3 115 yX3_potential, Cond.instanceMethod yX3_potential, Cond.selects RX3 yX3_potential yX3_potential, Cond.code yX3_potential cX3_potential 2 (some .int), Cond.methodLink RX3 89 yX3_breakOut, Cond.instanceMethod yX3_breakOut, Cond.selects RX3 yX3_breakOut yX3_breakOut, Cond.code yX3_breakOut cX3_breakOut 3 none, Cond.fieldLink RX3 47 "IceLand$Land" "burst" "[I", Cond.methodLink RX3 165 yX3_leastIceBeside, Cond.instanceMethod yX3_leastIceBeside, Cond.selects RX3 yX3_leastIceBeside yX3_leastIceBeside, Cond.code yX3_leastIceBeside cX3_leastIceBeside 4 (some .int), Cond.methodLink RX3 92 yX3_calve, Cond.instanceMethod yX3_calve, Cond.selects RX3 yX3_calve yX3_calve, Cond.code yX3_calve cX3_calve 4 none, Cond.fieldLink RX3 168 "IceLand$Sums" "bergs" "I", Cond.methodLink RX3 95 yX3_moveBed]
def wsX5_would_r7 : List Cond := [Cond.instanceMethod yX3_moveBed, Cond.selects RX3 yX3_moveBed yX3_moveBed, Cond.code yX3_moveBed cX3_moveBed 3 none, Cond.methodLink RX3 98 yX3_markFront, Cond.instanceMethod yX3_markFront, Cond.selects RX3 yX3_markFront yX3_markFront, Cond.code yX3_markFront cX3_markFront 2 none, Cond.fieldLink RX3 50 "IceLand$Land" "frontCell" "I", Cond.methodLink RX5 111 yX3_tellOf, Cond.instanceMethod yX3_tellOf, Cond.selects RX3 yX3_tellOf yX3_tellOf, Cond.code yX3_tellOf cX3_tellOf 3 (some .int), Cond.methodLink RX3 108 yX3_hasCrevasse, Cond.instanceMethod yX3_hasCrevasse, Cond.selects RX3 yX3_hasCrevasse yX3_hasCrevasse, Cond.code yX3_hasCrevasse cX3_hasCrevasse 2 (some .boolean), Cond.methodLink RX3 118 Lib.Math.abs.name, Cond.static Lib.Math.abs.name, Cond.code Lib.Math.abs.name Lib.Math.abs.code 1 (some .int)]
def wsX5_would : List Cond := .code yX5_would cX5_would 4 (some .int) :: ((wsX5_would_r1 ++ (wsX5_would_r2 ++ (wsX5_would_r3 ++ (wsX5_would_r4 ++ (wsX5_would_r5 ++ (wsX5_would_r6 ++ wsX5_would_r7)))))) ++ wsX50 ++ wsX30 ++ wsX10 ++ wsX40 ++ (vx_atS RX5 133 "java/lang/IndexOutOfBoundsException" ["java/lang/RuntimeException", "java/lang/Exception"]).filter goodWord ++ (vx_atS RX5 122 "java/lang/IllegalArgumentException" ["java/lang/RuntimeException", "java/lang/Exception"]).filter goodWord ++ (vx_atS RX5 58 "java/lang/IllegalStateException" ["java/lang/RuntimeException", "java/lang/Exception"]).filter goodWord)
def wsX5_forecast_r1 : List Cond := [Cond.classLink RX5 54 "java/lang/IllegalStateException", Cond.initialized "java/lang/IllegalStateException", Cond.fieldLink RX5 29 "IceLand" "forecasts" "LIceLand$Forecasts;", Cond.fieldLink RX5 168 "IceLand$Forecasts" "count" "I", Cond.fieldLink RX5 16 "IceLand" "trial" "LIceLand$Land;", Cond.fieldLink RX5 41 "IceLand$Land" "core" "LIceLand$Core;", Cond.fieldLink RX5 82 "IceLand$Land" "year" "I", Cond.methodLink RX5 37 yX5_needWithin, Cond.static yX5_needWithin, Cond.initialized RX5, Cond.code yX5_needWithin cX5_needWithin 3 none, Cond.classLink RX5 118 "java/lang/IllegalArgumentException", Cond.initialized "java/lang/IllegalArgumentException", Cond.methodLink RX5 101 yX5_needNotTooLate, Cond.instanceMethod yX5_needNotTooLate, Cond.selects RX5 yX5_needNotTooLate yX5_needNotTooLate, Cond.code yX5_needNotTooLate cX5_needNotTooLate 2 none, Cond.fieldLink RX5 10 "IceLand" "present" "LIceLand$Land;", Cond.methodLink RX5 165 yX5_tryOut, Cond.instanceMethod yX5_tryOut, Cond.selects RX5 yX5_tryOut yX5_tryOut, Cond.code yX5_tryOut cX5_tryOut 3 none, Cond.methodLink RX5 194 yX3_becomeLike, Cond.instanceMethod yX3_becomeLike]
def wsX5_forecast_r2 : List Cond := [Cond.selects RX3 yX3_becomeLike yX3_becomeLike, Cond.initialized RX3, Cond.code yX3_becomeLike cX3_becomeLike 2 none, Cond.fieldLink RX3 54 "IceLand$Land" "year" "I", Cond.fieldLink RX3 57 "IceLand$Land" "level" "I", Cond.fieldLink RX3 60 "IceLand$Land" "warmth" "I", Cond.fieldLink RX3 63 "IceLand$Land" "snow" "I", Cond.fieldLink RX3 66 "IceLand$Land" "factor" "I", Cond.fieldLink RX3 12 "IceLand$Land" "core" "LIceLand$Core;", Cond.fieldLink RX3 25 "IceLand$Land" "bed" "[I", Cond.methodLink RX3 73 arraycopyName, Cond.native arraycopyName, Cond.static arraycopyName, Cond.initialized "java/lang/System", Cond.fieldLink RX3 29 "IceLand$Land" "base" "[I", Cond.fieldLink RX3 32 "IceLand$Land" "water" "[I", Cond.fieldLink RX3 35 "IceLand$Land" "moraine" "[I", Cond.methodLink RX3 69 yX1_becomeLike, Cond.instanceMethod yX1_becomeLike, Cond.selects RX1 yX1_becomeLike yX1_becomeLike, Cond.initialized RX1, Cond.code yX1_becomeLike cX1_becomeLike 2 none, Cond.fieldLink RX1 9 "IceLand$Core" "ice" "[I", Cond.methodLink RX1 18 arraycopyName]
def wsX5_forecast_r3 : List Cond := [Cond.fieldLink RX1 15 "IceLand$Core" "units" "[I", Cond.methodLink RX5 104 yX3_goThroughYear, Cond.instanceMethod yX3_goThroughYear, Cond.selects RX3 yX3_goThroughYear yX3_goThroughYear, Cond.code yX3_goThroughYear cX3_goThroughYear 2 none, Cond.methodLink RX3 79 yX3_snowOrMelt, Cond.instanceMethod yX3_snowOrMelt, Cond.selects RX3 yX3_snowOrMelt yX3_snowOrMelt, Cond.code yX3_snowOrMelt cX3_snowOrMelt 4 none, Cond.fieldLink RX3 38 "IceLand$Land" "snowed" "[I", Cond.fieldLink RX3 101 "IceLand$Core" "ice" "[I", Cond.fieldLink RX3 21 "IceLand$Land" "sums" "LIceLand$Sums;", Cond.fieldLink RX3 131 "IceLand$Sums" "fallen" "I", Cond.methodLink RX3 134 Lib.Math.min.name, Cond.static Lib.Math.min.name, Cond.initialized "java/lang/Math", Cond.code Lib.Math.min.name Lib.Math.min.code 2 (some .int), Cond.fieldLink RX3 141 "IceLand$Sums" "melted" "I", Cond.methodLink RX3 104 yX3_surface, Cond.instanceMethod yX3_surface, Cond.selects RX3 yX3_surface yX3_surface, Cond.code yX3_surface cX3_surface 2 (some .int), Cond.methodLink RX3 123 yJ9_floorDiv_7cf53, Cond.static yJ9_floorDiv_7cf53]
def wsX5_forecast_r4 : List Cond := [Cond.initialized RJ9, Cond.code yJ9_floorDiv_7cf53 cJ9_floorDiv_7cf53 3 (some .int), Cond.methodLink RX3 112 yX3_standsInSea, Cond.instanceMethod yX3_standsInSea, Cond.selects RX3 yX3_standsInSea yX3_standsInSea, Cond.code yX3_standsInSea cX3_standsInSea 2 (some .boolean), Cond.methodLink RX3 127 yX1_lay, Cond.instanceMethod yX1_lay, Cond.selects RX1 yX1_lay yX1_lay, Cond.code yX1_lay cX1_lay 4 none, Cond.methodLink RX3 137 yX1_takeLatest, Cond.instanceMethod yX1_takeLatest, Cond.selects RX1 yX1_takeLatest yX1_takeLatest, Cond.code yX1_takeLatest cX1_takeLatest 6 none, Cond.methodLink RX1 28 Lib.Math.min.name, Cond.methodLink RX1 24 yX1_unitsOf, Cond.instanceMethod yX1_unitsOf, Cond.selects RX1 yX1_unitsOf yX1_unitsOf, Cond.code yX1_unitsOf cX1_unitsOf 3 (some .int), Cond.methodLink RX1 33 yX1_lay, Cond.methodLink RX3 83 yX3_flow, Cond.instanceMethod yX3_flow, Cond.selects RX3 yX3_flow yX3_flow, Cond.code yX3_flow cX3_flow 3 none]
def wsX5_forecast_r5 : List Cond := [Cond.fieldLink RX3 44 "IceLand$Land" "passing" "[I", Cond.fieldLink RX3 41 "IceLand$Land" "gain" "[I", Cond.methodLink RX3 144 yX3_givenToNext, Cond.instanceMethod yX3_givenToNext, Cond.selects RX3 yX3_givenToNext yX3_givenToNext, Cond.code yX3_givenToNext cX3_givenToNext 3 (some .int), Cond.methodLink RX3 150 yX3_givenBy, Cond.instanceMethod yX3_givenBy, Cond.selects RX3 yX3_givenBy yX3_givenBy, Cond.code yX3_givenBy cX3_givenBy 5 (some .int), Cond.constantLong RX3 153 (200), Cond.constantLong RX3 158 (2), Cond.methodLink RX3 160 Lib.MathLoose.min_long.x, Cond.static Lib.MathLoose.min_long.x, Cond.code Lib.MathLoose.min_long.x Lib.MathLoose.min_long.code 4 (some .long), Cond.methodLink RX3 155 yJ9_floorDiv_f86c9, Cond.static yJ9_floorDiv_f86c9, Cond.code yJ9_floorDiv_f86c9 cJ9_floorDiv_f86c9 6 (some .long), Cond.methodLink RX3 147 yX1_carryEarliest, Cond.instanceMethod yX1_carryEarliest, Cond.selects RX1 yX1_carryEarliest yX1_carryEarliest, Cond.code yX1_carryEarliest cX1_carryEarliest 7 none, Cond.methodLink RX3 86 yX3_runOff, Cond.instanceMethod yX3_runOff]
def wsX5_forecast_r6 : List Cond := [Cond.selects RX3 yX3_runOff yX3_runOff, Cond.code yX3_runOff cX3_runOff 3 none, Cond.fieldLink RX3 162 "IceLand$Sums" "toSea" "I", Cond.methodLink RX3 115 yX3_potential, Cond.instanceMethod yX3_potential, Cond.selects RX3 yX3_potential yX3_potential, Cond.code yX3_potential cX3_potential 2 (some .int), Cond.methodLink RX3 89 yX3_breakOut, Cond.instanceMethod yX3_breakOut, Cond.selects RX3 yX3_breakOut yX3_breakOut, Cond.code yX3_breakOut cX3_breakOut 3 none, Cond.fieldLink RX3 47 "IceLand$Land" "burst" "[I", Cond.methodLink RX3 165 yX3_leastIceBeside, Cond.instanceMethod yX3_leastIceBeside, Cond.selects RX3 yX3_leastIceBeside yX3_leastIceBeside, Cond.code yX3_leastIceBeside cX3_leastIceBeside 4 (some .int), Cond.methodLink RX3 92 yX3_calve, Cond.instanceMethod yX3_calve, Cond.selects RX3 yX3_calve yX3_calve, Cond.code yX3_calve cX3_calve 4 none, Cond.fieldLink RX3 168 "IceLand$Sums" "bergs" "I", Cond.methodLink RX3 95 yX3_moveBed, Cond.instanceMethod yX3_moveBed, Cond.selects RX3 yX3_moveBed yX3_moveBed]
def wsX5_forecast_r7 : List Cond := [Cond.code yX3_moveBed cX3_moveBed 3 none, Cond.methodLink RX3 98 yX3_markFront, Cond.instanceMethod yX3_markFront, Cond.selects RX3 yX3_markFront yX3_markFront, Cond.code yX3_markFront cX3_markFront 2 none, Cond.fieldLink RX3 50 "IceLand$Land" "frontCell" "I", Cond.methodLink RX5 146 yX1_allIce, Cond.instanceMethod yX1_allIce, Cond.selects RX1 yX1_allIce yX1_allIce, Cond.code yX1_allIce cX1_allIce 3 (some .int), Cond.methodLink RX5 173 yX2_keep, Cond.instanceMethod yX2_keep, Cond.selects RX2 yX2_keep yX2_keep, Cond.initialized RX2, Cond.code yX2_keep cX2_keep 3 none, Cond.fieldLink RX2 18 "IceLand$Forecasts" "count" "I", Cond.fieldLink RX2 9 "IceLand$Forecasts" "meantYear" "[I", Cond.fieldLink RX2 15 "IceLand$Forecasts" "expected" "[I"]
def wsX5_forecast : List Cond := .code yX5_forecast cX5_forecast 3 (some .int) :: ((wsX5_forecast_r1 ++ (wsX5_forecast_r2 ++ (wsX5_forecast_r3 ++ (wsX5_forecast_r4 ++ (wsX5_forecast_r5 ++ (wsX5_forecast_r6 ++ wsX5_forecast_r7)))))) ++ wsX50 ++ wsX20 ++ wsX30 ++ wsX10 ++ wsX40 ++ (vx_atS RX5 58 "java/lang/IllegalStateException" ["java/lang/RuntimeException", "java/lang/Exception"]).filter goodWord ++ (vx_atS RX5 122 "java/lang/IllegalArgumentException" ["java/lang/RuntimeException", "java/lang/Exception"]).filter goodWord)
def wsX5_miss : List Cond := .code yX5_miss cX5_miss 3 (some .int) :: ([.classLink RX5 129 "java/lang/IndexOutOfBoundsException", .initialized "java/lang/IndexOutOfBoundsException", .fieldLink RX5 29 "IceLand" "forecasts" "LIceLand$Forecasts;", .fieldLink RX5 168 "IceLand$Forecasts" "count" "I", .fieldLink RX5 179 "IceLand$Forecasts" "meantYear" "[I", .fieldLink RX5 10 "IceLand" "present" "LIceLand$Land;", .fieldLink RX5 82 "IceLand$Land" "year" "I", .fieldLink RX5 182 "IceLand$Forecasts" "expected" "[I", .fieldLink RX5 22 "IceLand" "annals" "LIceLand$Annals;", .fieldLink RX5 185 "IceLand$Annals" "iceBehind" "[I", .methodLink RX5 188 Lib.Math.abs.name, .static Lib.Math.abs.name, .initialized "java/lang/Math", .code Lib.Math.abs.name Lib.Math.abs.code 1 (some .int)] ++ wsX50 ++ wsX20 ++ wsX30 ++ wsX00 ++ (vx_atS RX5 133 "java/lang/IndexOutOfBoundsException" ["java/lang/RuntimeException", "java/lang/Exception"]).filter goodWord)
def wsJ9_abs_0f7a4 : List Cond := .code yJ9_abs_0f7a4 cJ9_abs_0f7a4 1 (some .int) :: ([])
def wsJ9_min_7cf53 : List Cond := .code yJ9_min_7cf53 cJ9_min_7cf53 2 (some .int) :: ([])
def wsJ9_min_f86c9 : List Cond := .code yJ9_min_f86c9 cJ9_min_f86c9 4 (some .long) :: ([])
def wsL_drawn : List Cond := .code yL_drawn cL_drawn 3 (some .int) :: ([.constant RL 7 (1073741823)])
def wsL_does_r1 : List Cond := [Cond.classLink RL 51 "java/lang/IndexOutOfBoundsException", Cond.classLink RL 54 "java/lang/IllegalArgumentException", Cond.classLink RL 57 "java/lang/IllegalStateException", Cond.constant RL 53 (-9000001), Cond.constant RL 56 (-9000002), Cond.constant RL 59 (-9000003), Cond.methodLink RL 8 yX5_land, Cond.instanceMethod yX5_land, Cond.selects RX5 yX5_land yX5_land, Cond.initialized RX5, Cond.code yX5_land cX5_land 4 (some .int), Cond.classLink RX5 54 "java/lang/IllegalStateException", Cond.initialized "java/lang/IllegalStateException", Cond.fieldLink RX5 10 "IceLand" "present" "LIceLand$Land;", Cond.fieldLink RX5 41 "IceLand$Land" "core" "LIceLand$Core;", Cond.fieldLink RX5 45 "IceLand$Core" "ice" "[I", Cond.fieldLink RX5 51 "IceLand$Land" "water" "[I", Cond.fieldLink RX5 61 "IceLand$Land" "bed" "[I", Cond.fieldLink RX5 64 "IceLand$Land" "base" "[I", Cond.methodLink RX5 33 yX5_needCell, Cond.static yX5_needCell, Cond.code yX5_needCell cX5_needCell 1 none, Cond.classLink RX5 129 "java/lang/IndexOutOfBoundsException", Cond.initialized "java/lang/IndexOutOfBoundsException"]
def wsL_does_r2 : List Cond := [Cond.methodLink RX5 37 yX5_needWithin, Cond.static yX5_needWithin, Cond.code yX5_needWithin cX5_needWithin 3 none, Cond.classLink RX5 118 "java/lang/IllegalArgumentException", Cond.initialized "java/lang/IllegalArgumentException", Cond.methodLink RL 14 yX5_sea, Cond.instanceMethod yX5_sea, Cond.selects RX5 yX5_sea yX5_sea, Cond.code yX5_sea cX5_sea 3 (some .int), Cond.fieldLink RX5 67 "IceLand$Land" "level" "I", Cond.methodLink RL 18 yX5_ice, Cond.instanceMethod yX5_ice, Cond.selects RX5 yX5_ice yX5_ice, Cond.code yX5_ice cX5_ice 3 (some .int), Cond.fieldLink RX5 82 "IceLand$Land" "year" "I", Cond.fieldLink RX5 88 "IceLand$Land" "sums" "LIceLand$Sums;", Cond.fieldLink RX5 92 "IceLand$Sums" "told" "I", Cond.methodLink RX5 85 yX1_lay, Cond.instanceMethod yX1_lay, Cond.selects RX1 yX1_lay yX1_lay, Cond.initialized RX1, Cond.code yX1_lay cX1_lay 4 none, Cond.fieldLink RX1 15 "IceLand$Core" "units" "[I", Cond.fieldLink RX1 9 "IceLand$Core" "ice" "[I"]
def wsL_does_r3 : List Cond := [Cond.methodLink RL 21 yX5_pass, Cond.instanceMethod yX5_pass, Cond.selects RX5 yX5_pass yX5_pass, Cond.code yX5_pass cX5_pass 3 (some .int), Cond.fieldLink RX5 22 "IceLand" "annals" "LIceLand$Annals;", Cond.methodLink RX5 101 yX5_needNotTooLate, Cond.instanceMethod yX5_needNotTooLate, Cond.selects RX5 yX5_needNotTooLate yX5_needNotTooLate, Cond.code yX5_needNotTooLate cX5_needNotTooLate 2 none, Cond.methodLink RX5 104 yX3_goThroughYear, Cond.instanceMethod yX3_goThroughYear, Cond.selects RX3 yX3_goThroughYear yX3_goThroughYear, Cond.initialized RX3, Cond.code yX3_goThroughYear cX3_goThroughYear 2 none, Cond.fieldLink RX3 54 "IceLand$Land" "year" "I", Cond.methodLink RX3 79 yX3_snowOrMelt, Cond.instanceMethod yX3_snowOrMelt, Cond.selects RX3 yX3_snowOrMelt yX3_snowOrMelt, Cond.code yX3_snowOrMelt cX3_snowOrMelt 4 none, Cond.fieldLink RX3 60 "IceLand$Land" "warmth" "I", Cond.fieldLink RX3 38 "IceLand$Land" "snowed" "[I", Cond.fieldLink RX3 12 "IceLand$Land" "core" "LIceLand$Core;", Cond.fieldLink RX3 101 "IceLand$Core" "ice" "[I", Cond.fieldLink RX3 63 "IceLand$Land" "snow" "I"]
def wsL_does_r4 : List Cond := [Cond.fieldLink RX3 21 "IceLand$Land" "sums" "LIceLand$Sums;", Cond.fieldLink RX3 131 "IceLand$Sums" "fallen" "I", Cond.fieldLink RX3 66 "IceLand$Land" "factor" "I", Cond.methodLink RX3 134 Lib.Math.min.name, Cond.static Lib.Math.min.name, Cond.initialized "java/lang/Math", Cond.code Lib.Math.min.name Lib.Math.min.code 2 (some .int), Cond.fieldLink RX3 32 "IceLand$Land" "water" "[I", Cond.fieldLink RX3 141 "IceLand$Sums" "melted" "I", Cond.methodLink RX3 104 yX3_surface, Cond.instanceMethod yX3_surface, Cond.selects RX3 yX3_surface yX3_surface, Cond.code yX3_surface cX3_surface 2 (some .int), Cond.fieldLink RX3 25 "IceLand$Land" "bed" "[I", Cond.methodLink RX3 123 yJ9_floorDiv_7cf53, Cond.static yJ9_floorDiv_7cf53, Cond.initialized RJ9, Cond.code yJ9_floorDiv_7cf53 cJ9_floorDiv_7cf53 3 (some .int), Cond.methodLink RX3 112 yX3_standsInSea, Cond.instanceMethod yX3_standsInSea, Cond.selects RX3 yX3_standsInSea yX3_standsInSea, Cond.code yX3_standsInSea cX3_standsInSea 2 (some .boolean), Cond.fieldLink RX3 57 "IceLand$Land" "level" "I", Cond.methodLink RX3 127 yX1_lay]
def wsL_does_r5 : List Cond := [Cond.methodLink RX3 137 yX1_takeLatest, Cond.instanceMethod yX1_takeLatest, Cond.selects RX1 yX1_takeLatest yX1_takeLatest, Cond.code yX1_takeLatest cX1_takeLatest 6 none, Cond.methodLink RX1 28 Lib.Math.min.name, Cond.methodLink RX1 24 yX1_unitsOf, Cond.instanceMethod yX1_unitsOf, Cond.selects RX1 yX1_unitsOf yX1_unitsOf, Cond.code yX1_unitsOf cX1_unitsOf 3 (some .int), Cond.methodLink RX1 33 yX1_lay, Cond.methodLink RX3 83 yX3_flow, Cond.instanceMethod yX3_flow, Cond.selects RX3 yX3_flow yX3_flow, Cond.code yX3_flow cX3_flow 3 none, Cond.fieldLink RX3 44 "IceLand$Land" "passing" "[I", Cond.fieldLink RX3 41 "IceLand$Land" "gain" "[I", Cond.methodLink RX3 144 yX3_givenToNext, Cond.instanceMethod yX3_givenToNext, Cond.selects RX3 yX3_givenToNext yX3_givenToNext, Cond.code yX3_givenToNext cX3_givenToNext 3 (some .int), Cond.methodLink RX3 150 yX3_givenBy, Cond.instanceMethod yX3_givenBy, Cond.selects RX3 yX3_givenBy yX3_givenBy, Cond.code yX3_givenBy cX3_givenBy 5 (some .int)]
def wsL_does_r6 : List Cond := [Cond.constantLong RX3 153 (200), Cond.constantLong RX3 158 (2), Cond.methodLink RX3 160 Lib.MathLoose.min_long.x, Cond.static Lib.MathLoose.min_long.x, Cond.code Lib.MathLoose.min_long.x Lib.MathLoose.min_long.code 4 (some .long), Cond.methodLink RX3 155 yJ9_floorDiv_f86c9, Cond.static yJ9_floorDiv_f86c9, Cond.code yJ9_floorDiv_f86c9 cJ9_floorDiv_f86c9 6 (some .long), Cond.methodLink RX3 147 yX1_carryEarliest, Cond.instanceMethod yX1_carryEarliest, Cond.selects RX1 yX1_carryEarliest yX1_carryEarliest, Cond.code yX1_carryEarliest cX1_carryEarliest 7 none, Cond.methodLink RX3 86 yX3_runOff, Cond.instanceMethod yX3_runOff, Cond.selects RX3 yX3_runOff yX3_runOff, Cond.code yX3_runOff cX3_runOff 3 none, Cond.fieldLink RX3 162 "IceLand$Sums" "toSea" "I", Cond.methodLink RX3 115 yX3_potential, Cond.instanceMethod yX3_potential, Cond.selects RX3 yX3_potential yX3_potential, Cond.code yX3_potential cX3_potential 2 (some .int), Cond.methodLink RX3 89 yX3_breakOut, Cond.instanceMethod yX3_breakOut, Cond.selects RX3 yX3_breakOut yX3_breakOut]
def wsL_does_r7 : List Cond := [Cond.code yX3_breakOut cX3_breakOut 3 none, Cond.fieldLink RX3 47 "IceLand$Land" "burst" "[I", Cond.methodLink RX3 165 yX3_leastIceBeside, Cond.instanceMethod yX3_leastIceBeside, Cond.selects RX3 yX3_leastIceBeside yX3_leastIceBeside, Cond.code yX3_leastIceBeside cX3_leastIceBeside 4 (some .int), Cond.methodLink RX3 92 yX3_calve, Cond.instanceMethod yX3_calve, Cond.selects RX3 yX3_calve yX3_calve, Cond.code yX3_calve cX3_calve 4 none, Cond.fieldLink RX3 168 "IceLand$Sums" "bergs" "I", Cond.methodLink RX3 95 yX3_moveBed, Cond.instanceMethod yX3_moveBed, Cond.selects RX3 yX3_moveBed yX3_moveBed, Cond.code yX3_moveBed cX3_moveBed 3 none, Cond.fieldLink RX3 29 "IceLand$Land" "base" "[I", Cond.methodLink RX3 98 yX3_markFront, Cond.instanceMethod yX3_markFront, Cond.selects RX3 yX3_markFront yX3_markFront, Cond.code yX3_markFront cX3_markFront 2 none, Cond.fieldLink RX3 50 "IceLand$Land" "frontCell" "I", Cond.fieldLink RX3 35 "IceLand$Land" "moraine" "[I", Cond.methodLink RX5 107 yX0_note, Cond.instanceMethod yX0_note]
def wsL_does_r8 : List Cond := [Cond.selects RX0 yX0_note yX0_note, Cond.initialized RX0, Cond.code yX0_note cX0_note 3 none, Cond.fieldLink RX0 15 "IceLand$Annals" "frontOf" "[I", Cond.fieldLink RX0 31 "IceLand$Land" "year" "I", Cond.fieldLink RX0 37 "IceLand$Land" "frontCell" "I", Cond.fieldLink RX0 19 "IceLand$Annals" "iceBehind" "[I", Cond.fieldLink RX0 40 "IceLand$Land" "core" "LIceLand$Core;", Cond.fieldLink RX0 50 "IceLand$Land" "burst" "[I", Cond.fieldLink RX0 53 "IceLand$Annals" "floodCount" "I", Cond.fieldLink RX0 22 "IceLand$Annals" "floodYear" "[I", Cond.fieldLink RX0 25 "IceLand$Annals" "floodCell" "[I", Cond.fieldLink RX0 28 "IceLand$Annals" "floodUnits" "[I", Cond.methodLink RX0 44 yX1_allIce, Cond.instanceMethod yX1_allIce, Cond.selects RX1 yX1_allIce yX1_allIce, Cond.code yX1_allIce cX1_allIce 3 (some .int), Cond.methodLink RL 24 yX5_cellIs, Cond.instanceMethod yX5_cellIs, Cond.selects RX5 yX5_cellIs yX5_cellIs, Cond.code yX5_cellIs cX5_cellIs 3 (some .int), Cond.methodLink RX5 111 yX3_tellOf, Cond.instanceMethod yX3_tellOf, Cond.selects RX3 yX3_tellOf yX3_tellOf]
def wsL_does_r9 : List Cond := [Cond.code yX3_tellOf cX3_tellOf 3 (some .int), Cond.methodLink RX3 108 yX3_hasCrevasse, Cond.instanceMethod yX3_hasCrevasse, Cond.selects RX3 yX3_hasCrevasse yX3_hasCrevasse, Cond.code yX3_hasCrevasse cX3_hasCrevasse 2 (some .boolean), Cond.methodLink RX3 118 Lib.Math.abs.name, Cond.static Lib.Math.abs.name, Cond.code Lib.Math.abs.name Lib.Math.abs.code 1 (some .int), Cond.methodLink RL 27 yX5_layer, Cond.instanceMethod yX5_layer, Cond.selects RX5 yX5_layer yX5_layer, Cond.code yX5_layer cX5_layer 3 (some .int), Cond.methodLink RX5 115 yX1_unitsOf, Cond.methodLink RL 30 yX5_yearAt, Cond.instanceMethod yX5_yearAt, Cond.selects RX5 yX5_yearAt yX5_yearAt, Cond.code yX5_yearAt cX5_yearAt 3 (some .int), Cond.methodLink RX5 123 yX1_yearBelow, Cond.instanceMethod yX1_yearBelow, Cond.selects RX1 yX1_yearBelow yX1_yearBelow, Cond.code yX1_yearBelow cX1_yearBelow 6 (some .int), Cond.methodLink RL 33 yX5_common, Cond.instanceMethod yX5_common, Cond.selects RX5 yX5_common yX5_common]
def wsL_does_r10 : List Cond := [Cond.code yX5_common cX5_common 5 (some .int), Cond.fieldLink RX5 97 "IceLand$Annals" "ashFell" "[Z", Cond.methodLink RL 36 yX5_flood, Cond.instanceMethod yX5_flood, Cond.selects RX5 yX5_flood yX5_flood, Cond.code yX5_flood cX5_flood 3 (some .int), Cond.fieldLink RX5 126 "IceLand$Annals" "floodCount" "I", Cond.fieldLink RX5 134 "IceLand$Annals" "floodYear" "[I", Cond.fieldLink RX5 137 "IceLand$Annals" "floodCell" "[I", Cond.fieldLink RX5 140 "IceLand$Annals" "floodUnits" "[I", Cond.methodLink RL 39 yX5_front, Cond.instanceMethod yX5_front, Cond.selects RX5 yX5_front yX5_front, Cond.code yX5_front cX5_front 2 (some .int), Cond.fieldLink RX5 143 "IceLand$Annals" "frontOf" "[I", Cond.methodLink RL 42 yX5_total, Cond.instanceMethod yX5_total, Cond.selects RX5 yX5_total yX5_total, Cond.code yX5_total cX5_total 2 (some .int), Cond.fieldLink RX5 153 "IceLand$Sums" "toSea" "I", Cond.fieldLink RX5 156 "IceLand$Sums" "bergs" "I", Cond.fieldLink RX5 159 "IceLand$Sums" "fallen" "I", Cond.methodLink RX5 146 yX1_allIce, Cond.methodLink RX5 150 yX3_allWater]
def wsL_does_r11 : List Cond := [Cond.instanceMethod yX3_allWater, Cond.selects RX3 yX3_allWater yX3_allWater, Cond.code yX3_allWater cX3_allWater 3 (some .int), Cond.methodLink RL 45 yX5_forecast, Cond.instanceMethod yX5_forecast, Cond.selects RX5 yX5_forecast yX5_forecast, Cond.code yX5_forecast cX5_forecast 3 (some .int), Cond.fieldLink RX5 29 "IceLand" "forecasts" "LIceLand$Forecasts;", Cond.fieldLink RX5 168 "IceLand$Forecasts" "count" "I", Cond.fieldLink RX5 16 "IceLand" "trial" "LIceLand$Land;", Cond.methodLink RX5 165 yX5_tryOut, Cond.instanceMethod yX5_tryOut, Cond.selects RX5 yX5_tryOut yX5_tryOut, Cond.code yX5_tryOut cX5_tryOut 3 none, Cond.methodLink RX5 194 yX3_becomeLike, Cond.instanceMethod yX3_becomeLike, Cond.selects RX3 yX3_becomeLike yX3_becomeLike, Cond.code yX3_becomeLike cX3_becomeLike 2 none, Cond.methodLink RX3 73 arraycopyName, Cond.native arraycopyName, Cond.static arraycopyName, Cond.initialized "java/lang/System", Cond.methodLink RX3 69 yX1_becomeLike, Cond.instanceMethod yX1_becomeLike]
def wsL_does_r12 : List Cond := [Cond.selects RX1 yX1_becomeLike yX1_becomeLike, Cond.code yX1_becomeLike cX1_becomeLike 2 none, Cond.methodLink RX1 18 arraycopyName, Cond.methodLink RX5 173 yX2_keep, Cond.instanceMethod yX2_keep, Cond.selects RX2 yX2_keep yX2_keep, Cond.initialized RX2, Cond.code yX2_keep cX2_keep 3 none, Cond.fieldLink RX2 18 "IceLand$Forecasts" "count" "I", Cond.fieldLink RX2 9 "IceLand$Forecasts" "meantYear" "[I", Cond.fieldLink RX2 15 "IceLand$Forecasts" "expected" "[I", Cond.methodLink RL 48 yX5_miss, Cond.instanceMethod yX5_miss, Cond.selects RX5 yX5_miss yX5_miss, Cond.code yX5_miss cX5_miss 3 (some .int), Cond.fieldLink RX5 179 "IceLand$Forecasts" "meantYear" "[I", Cond.fieldLink RX5 182 "IceLand$Forecasts" "expected" "[I", Cond.fieldLink RX5 185 "IceLand$Annals" "iceBehind" "[I", Cond.methodLink RX5 188 Lib.Math.abs.name]
def wsL_does : List Cond := .codeWith yL_does cL_does 5 (some .int) [(0, 173, 174, 51), (0, 173, 179, 54), (0, 173, 184, 57)] :: ((wsL_does_r1 ++ (wsL_does_r2 ++ (wsL_does_r3 ++ (wsL_does_r4 ++ (wsL_does_r5 ++ (wsL_does_r6 ++ (wsL_does_r7 ++ (wsL_does_r8 ++ (wsL_does_r9 ++ (wsL_does_r10 ++ (wsL_does_r11 ++ wsL_does_r12))))))))))) ++ wsX50 ++ wsX30 ++ wsX10 ++ wsX40 ++ wsX00 ++ wsX20 ++ (vx_atS RX5 58 "java/lang/IllegalStateException" ["java/lang/RuntimeException", "java/lang/Exception"]).filter goodWord ++ (vx_atS RX5 133 "java/lang/IndexOutOfBoundsException" ["java/lang/RuntimeException", "java/lang/Exception"]).filter goodWord ++ (vx_atS RX5 122 "java/lang/IllegalArgumentException" ["java/lang/RuntimeException", "java/lang/Exception"]).filter goodWord)
def wsL_would_r1 : List Cond := [Cond.classLink RL 51 "java/lang/IndexOutOfBoundsException", Cond.classLink RL 54 "java/lang/IllegalArgumentException", Cond.classLink RL 57 "java/lang/IllegalStateException", Cond.constant RL 53 (-9000001), Cond.constant RL 56 (-9000002), Cond.constant RL 59 (-9000003), Cond.methodLink RL 60 yX5_would, Cond.instanceMethod yX5_would, Cond.selects RX5 yX5_would yX5_would, Cond.initialized RX5, Cond.code yX5_would cX5_would 4 (some .int), Cond.fieldLink RX5 16 "IceLand" "trial" "LIceLand$Land;", Cond.methodLink RX5 33 yX5_needCell, Cond.static yX5_needCell, Cond.code yX5_needCell cX5_needCell 1 none, Cond.classLink RX5 129 "java/lang/IndexOutOfBoundsException", Cond.initialized "java/lang/IndexOutOfBoundsException", Cond.methodLink RX5 37 yX5_needWithin, Cond.static yX5_needWithin, Cond.code yX5_needWithin cX5_needWithin 3 none, Cond.classLink RX5 118 "java/lang/IllegalArgumentException", Cond.initialized "java/lang/IllegalArgumentException", Cond.methodLink RX5 101 yX5_needNotTooLate, Cond.instanceMethod yX5_needNotTooLate]
def wsL_would_r2 : List Cond := [Cond.selects RX5 yX5_needNotTooLate yX5_needNotTooLate, Cond.code yX5_needNotTooLate cX5_needNotTooLate 2 none, Cond.classLink RX5 54 "java/lang/IllegalStateException", Cond.initialized "java/lang/IllegalStateException", Cond.fieldLink RX5 10 "IceLand" "present" "LIceLand$Land;", Cond.fieldLink RX5 82 "IceLand$Land" "year" "I", Cond.methodLink RX5 165 yX5_tryOut, Cond.instanceMethod yX5_tryOut, Cond.selects RX5 yX5_tryOut yX5_tryOut, Cond.code yX5_tryOut cX5_tryOut 3 none, Cond.methodLink RX5 194 yX3_becomeLike, Cond.instanceMethod yX3_becomeLike, Cond.selects RX3 yX3_becomeLike yX3_becomeLike, Cond.initialized RX3, Cond.code yX3_becomeLike cX3_becomeLike 2 none, Cond.fieldLink RX3 54 "IceLand$Land" "year" "I", Cond.fieldLink RX3 57 "IceLand$Land" "level" "I", Cond.fieldLink RX3 60 "IceLand$Land" "warmth" "I", Cond.fieldLink RX3 63 "IceLand$Land" "snow" "I", Cond.fieldLink RX3 66 "IceLand$Land" "factor" "I", Cond.fieldLink RX3 12 "IceLand$Land" "core" "LIceLand$Core;", Cond.fieldLink RX3 25 "IceLand$Land" "bed" "[I", Cond.methodLink RX3 73 arraycopyName, Cond.native arraycopyName]
def wsL_would_r3 : List Cond := [Cond.static arraycopyName, Cond.initialized "java/lang/System", Cond.fieldLink RX3 29 "IceLand$Land" "base" "[I", Cond.fieldLink RX3 32 "IceLand$Land" "water" "[I", Cond.fieldLink RX3 35 "IceLand$Land" "moraine" "[I", Cond.methodLink RX3 69 yX1_becomeLike, Cond.instanceMethod yX1_becomeLike, Cond.selects RX1 yX1_becomeLike yX1_becomeLike, Cond.initialized RX1, Cond.code yX1_becomeLike cX1_becomeLike 2 none, Cond.fieldLink RX1 9 "IceLand$Core" "ice" "[I", Cond.methodLink RX1 18 arraycopyName, Cond.fieldLink RX1 15 "IceLand$Core" "units" "[I", Cond.methodLink RX5 104 yX3_goThroughYear, Cond.instanceMethod yX3_goThroughYear, Cond.selects RX3 yX3_goThroughYear yX3_goThroughYear, Cond.code yX3_goThroughYear cX3_goThroughYear 2 none, Cond.methodLink RX3 79 yX3_snowOrMelt, Cond.instanceMethod yX3_snowOrMelt, Cond.selects RX3 yX3_snowOrMelt yX3_snowOrMelt, Cond.code yX3_snowOrMelt cX3_snowOrMelt 4 none, Cond.fieldLink RX3 38 "IceLand$Land" "snowed" "[I", Cond.fieldLink RX3 101 "IceLand$Core" "ice" "[I", Cond.fieldLink RX3 21 "IceLand$Land" "sums" "LIceLand$Sums;"]
def wsL_would_r4 : List Cond := [Cond.fieldLink RX3 131 "IceLand$Sums" "fallen" "I", Cond.methodLink RX3 134 Lib.Math.min.name, Cond.static Lib.Math.min.name, Cond.initialized "java/lang/Math", Cond.code Lib.Math.min.name Lib.Math.min.code 2 (some .int), Cond.fieldLink RX3 141 "IceLand$Sums" "melted" "I", Cond.methodLink RX3 104 yX3_surface, Cond.instanceMethod yX3_surface, Cond.selects RX3 yX3_surface yX3_surface, Cond.code yX3_surface cX3_surface 2 (some .int), Cond.methodLink RX3 123 yJ9_floorDiv_7cf53, Cond.static yJ9_floorDiv_7cf53, Cond.initialized RJ9, Cond.code yJ9_floorDiv_7cf53 cJ9_floorDiv_7cf53 3 (some .int), Cond.methodLink RX3 112 yX3_standsInSea, Cond.instanceMethod yX3_standsInSea, Cond.selects RX3 yX3_standsInSea yX3_standsInSea, Cond.code yX3_standsInSea cX3_standsInSea 2 (some .boolean), Cond.methodLink RX3 127 yX1_lay, Cond.instanceMethod yX1_lay, Cond.selects RX1 yX1_lay yX1_lay, Cond.code yX1_lay cX1_lay 4 none, Cond.methodLink RX3 137 yX1_takeLatest, Cond.instanceMethod yX1_takeLatest]
def wsL_would_r5 : List Cond := [Cond.selects RX1 yX1_takeLatest yX1_takeLatest, Cond.code yX1_takeLatest cX1_takeLatest 6 none, Cond.methodLink RX1 28 Lib.Math.min.name, Cond.methodLink RX1 24 yX1_unitsOf, Cond.instanceMethod yX1_unitsOf, Cond.selects RX1 yX1_unitsOf yX1_unitsOf, Cond.code yX1_unitsOf cX1_unitsOf 3 (some .int), Cond.methodLink RX1 33 yX1_lay, Cond.methodLink RX3 83 yX3_flow, Cond.instanceMethod yX3_flow, Cond.selects RX3 yX3_flow yX3_flow, Cond.code yX3_flow cX3_flow 3 none, Cond.fieldLink RX3 44 "IceLand$Land" "passing" "[I", Cond.fieldLink RX3 41 "IceLand$Land" "gain" "[I", Cond.methodLink RX3 144 yX3_givenToNext, Cond.instanceMethod yX3_givenToNext, Cond.selects RX3 yX3_givenToNext yX3_givenToNext, Cond.code yX3_givenToNext cX3_givenToNext 3 (some .int), Cond.methodLink RX3 150 yX3_givenBy, Cond.instanceMethod yX3_givenBy, Cond.selects RX3 yX3_givenBy yX3_givenBy, Cond.code yX3_givenBy cX3_givenBy 5 (some .int), Cond.constantLong RX3 153 (200), Cond.constantLong RX3 158 (2)]
def wsL_would_r6 : List Cond := [Cond.methodLink RX3 160 Lib.MathLoose.min_long.x, Cond.static Lib.MathLoose.min_long.x, Cond.code Lib.MathLoose.min_long.x Lib.MathLoose.min_long.code 4 (some .long), Cond.methodLink RX3 155 yJ9_floorDiv_f86c9, Cond.static yJ9_floorDiv_f86c9, Cond.code yJ9_floorDiv_f86c9 cJ9_floorDiv_f86c9 6 (some .long), Cond.methodLink RX3 147 yX1_carryEarliest, Cond.instanceMethod yX1_carryEarliest, Cond.selects RX1 yX1_carryEarliest yX1_carryEarliest, Cond.code yX1_carryEarliest cX1_carryEarliest 7 none, Cond.methodLink RX3 86 yX3_runOff, Cond.instanceMethod yX3_runOff, Cond.selects RX3 yX3_runOff yX3_runOff, Cond.code yX3_runOff cX3_runOff 3 none, Cond.fieldLink RX3 162 "IceLand$Sums" "toSea" "I", Cond.methodLink RX3 115 yX3_potential, Cond.instanceMethod yX3_potential, Cond.selects RX3 yX3_potential yX3_potential, Cond.code yX3_potential cX3_potential 2 (some .int), Cond.methodLink RX3 89 yX3_breakOut, Cond.instanceMethod yX3_breakOut, Cond.selects RX3 yX3_breakOut yX3_breakOut, Cond.code yX3_breakOut cX3_breakOut 3 none, Cond.fieldLink RX3 47 "IceLand$Land" "burst" "[I"]
def wsL_would_r7 : List Cond := [Cond.methodLink RX3 165 yX3_leastIceBeside, Cond.instanceMethod yX3_leastIceBeside, Cond.selects RX3 yX3_leastIceBeside yX3_leastIceBeside, Cond.code yX3_leastIceBeside cX3_leastIceBeside 4 (some .int), Cond.methodLink RX3 92 yX3_calve, Cond.instanceMethod yX3_calve, Cond.selects RX3 yX3_calve yX3_calve, Cond.code yX3_calve cX3_calve 4 none, Cond.fieldLink RX3 168 "IceLand$Sums" "bergs" "I", Cond.methodLink RX3 95 yX3_moveBed, Cond.instanceMethod yX3_moveBed, Cond.selects RX3 yX3_moveBed yX3_moveBed, Cond.code yX3_moveBed cX3_moveBed 3 none, Cond.methodLink RX3 98 yX3_markFront, Cond.instanceMethod yX3_markFront, Cond.selects RX3 yX3_markFront yX3_markFront, Cond.code yX3_markFront cX3_markFront 2 none, Cond.fieldLink RX3 50 "IceLand$Land" "frontCell" "I", Cond.methodLink RX5 111 yX3_tellOf, Cond.instanceMethod yX3_tellOf, Cond.selects RX3 yX3_tellOf yX3_tellOf, Cond.code yX3_tellOf cX3_tellOf 3 (some .int), Cond.methodLink RX3 108 yX3_hasCrevasse, Cond.instanceMethod yX3_hasCrevasse]
def wsL_would_r8 : List Cond := [Cond.selects RX3 yX3_hasCrevasse yX3_hasCrevasse, Cond.code yX3_hasCrevasse cX3_hasCrevasse 2 (some .boolean), Cond.methodLink RX3 118 Lib.Math.abs.name, Cond.static Lib.Math.abs.name, Cond.code Lib.Math.abs.name Lib.Math.abs.code 1 (some .int)]
def wsL_would : List Cond := .codeWith yL_would cL_would 5 (some .int) [(0, 7, 8, 51), (0, 7, 13, 54), (0, 7, 18, 57)] :: ((wsL_would_r1 ++ (wsL_would_r2 ++ (wsL_would_r3 ++ (wsL_would_r4 ++ (wsL_would_r5 ++ (wsL_would_r6 ++ (wsL_would_r7 ++ wsL_would_r8))))))) ++ wsX50 ++ wsX30 ++ wsX10 ++ wsX40 ++ (vx_atS RX5 133 "java/lang/IndexOutOfBoundsException" ["java/lang/RuntimeException", "java/lang/Exception"]).filter goodWord ++ (vx_atS RX5 122 "java/lang/IllegalArgumentException" ["java/lang/RuntimeException", "java/lang/Exception"]).filter goodWord ++ (vx_atS RX5 58 "java/lang/IllegalStateException" ["java/lang/RuntimeException", "java/lang/Exception"]).filter goodWord)
def wsL_climate : List Cond := .codeWith yL_climate cL_climate 5 (some .boolean) [(0, 7, 10, 54)] :: ([.classLink RL 54 "java/lang/IllegalArgumentException", .methodLink RL 64 yX5_climate, .instanceMethod yX5_climate, .selects RX5 yX5_climate yX5_climate, .initialized RX5, .code yX5_climate cX5_climate 4 none, .fieldLink RX5 10 "IceLand" "present" "LIceLand$Land;", .fieldLink RX5 71 "IceLand$Land" "warmth" "I", .fieldLink RX5 74 "IceLand$Land" "snow" "I", .fieldLink RX5 77 "IceLand$Land" "factor" "I", .methodLink RX5 37 yX5_needWithin, .static yX5_needWithin, .code yX5_needWithin cX5_needWithin 3 none, .classLink RX5 118 "java/lang/IllegalArgumentException", .initialized "java/lang/IllegalArgumentException"] ++ wsX50 ++ wsX30 ++ (vx_atS RX5 122 "java/lang/IllegalArgumentException" ["java/lang/RuntimeException", "java/lang/Exception"]).filter goodWord)
def wsL_areAlike_r1 : List Cond := [Cond.methodLink RL 68 yX5_floods, Cond.instanceMethod yX5_floods, Cond.selects RX5 yX5_floods yX5_floods, Cond.initialized RX5, Cond.code yX5_floods cX5_floods 1 (some .int), Cond.fieldLink RX5 22 "IceLand" "annals" "LIceLand$Annals;", Cond.fieldLink RX5 126 "IceLand$Annals" "floodCount" "I", Cond.methodLink RL 72 yX5_iceAnew, Cond.instanceMethod yX5_iceAnew, Cond.selects RX5 yX5_iceAnew yX5_iceAnew, Cond.code yX5_iceAnew cX5_iceAnew 2 (some .int), Cond.fieldLink RX5 10 "IceLand" "present" "LIceLand$Land;", Cond.fieldLink RX5 88 "IceLand$Land" "sums" "LIceLand$Sums;", Cond.fieldLink RX5 159 "IceLand$Sums" "fallen" "I", Cond.fieldLink RX5 92 "IceLand$Sums" "told" "I", Cond.fieldLink RX5 162 "IceLand$Sums" "melted" "I", Cond.fieldLink RX5 156 "IceLand$Sums" "bergs" "I", Cond.methodLink RL 75 yL_does, Cond.static yL_does, Cond.initialized RL, Cond.codeWith yL_does cL_does 5 (some .int) [(0, 173, 174, 51), (0, 173, 179, 54), (0, 173, 184, 57)], Cond.classLink RL 51 "java/lang/IndexOutOfBoundsException", Cond.classLink RL 54 "java/lang/IllegalArgumentException", Cond.classLink RL 57 "java/lang/IllegalStateException"]
def wsL_areAlike_r2 : List Cond := [Cond.constant RL 53 (-9000001), Cond.constant RL 56 (-9000002), Cond.constant RL 59 (-9000003), Cond.methodLink RL 8 yX5_land, Cond.instanceMethod yX5_land, Cond.selects RX5 yX5_land yX5_land, Cond.code yX5_land cX5_land 4 (some .int), Cond.classLink RX5 54 "java/lang/IllegalStateException", Cond.initialized "java/lang/IllegalStateException", Cond.fieldLink RX5 41 "IceLand$Land" "core" "LIceLand$Core;", Cond.fieldLink RX5 45 "IceLand$Core" "ice" "[I", Cond.fieldLink RX5 51 "IceLand$Land" "water" "[I", Cond.fieldLink RX5 61 "IceLand$Land" "bed" "[I", Cond.fieldLink RX5 64 "IceLand$Land" "base" "[I", Cond.methodLink RX5 33 yX5_needCell, Cond.static yX5_needCell, Cond.code yX5_needCell cX5_needCell 1 none, Cond.classLink RX5 129 "java/lang/IndexOutOfBoundsException", Cond.initialized "java/lang/IndexOutOfBoundsException", Cond.methodLink RX5 37 yX5_needWithin, Cond.static yX5_needWithin, Cond.code yX5_needWithin cX5_needWithin 3 none, Cond.classLink RX5 118 "java/lang/IllegalArgumentException", Cond.initialized "java/lang/IllegalArgumentException"]
def wsL_areAlike_r3 : List Cond := [Cond.methodLink RL 14 yX5_sea, Cond.instanceMethod yX5_sea, Cond.selects RX5 yX5_sea yX5_sea, Cond.code yX5_sea cX5_sea 3 (some .int), Cond.fieldLink RX5 67 "IceLand$Land" "level" "I", Cond.methodLink RL 18 yX5_ice, Cond.instanceMethod yX5_ice, Cond.selects RX5 yX5_ice yX5_ice, Cond.code yX5_ice cX5_ice 3 (some .int), Cond.fieldLink RX5 82 "IceLand$Land" "year" "I", Cond.methodLink RX5 85 yX1_lay, Cond.instanceMethod yX1_lay, Cond.selects RX1 yX1_lay yX1_lay, Cond.initialized RX1, Cond.code yX1_lay cX1_lay 4 none, Cond.fieldLink RX1 15 "IceLand$Core" "units" "[I", Cond.fieldLink RX1 9 "IceLand$Core" "ice" "[I", Cond.methodLink RL 21 yX5_pass, Cond.instanceMethod yX5_pass, Cond.selects RX5 yX5_pass yX5_pass, Cond.code yX5_pass cX5_pass 3 (some .int), Cond.methodLink RX5 101 yX5_needNotTooLate, Cond.instanceMethod yX5_needNotTooLate, Cond.selects RX5 yX5_needNotTooLate yX5_needNotTooLate]
def wsL_areAlike_r4 : List Cond := [Cond.code yX5_needNotTooLate cX5_needNotTooLate 2 none, Cond.methodLink RX5 104 yX3_goThroughYear, Cond.instanceMethod yX3_goThroughYear, Cond.selects RX3 yX3_goThroughYear yX3_goThroughYear, Cond.initialized RX3, Cond.code yX3_goThroughYear cX3_goThroughYear 2 none, Cond.fieldLink RX3 54 "IceLand$Land" "year" "I", Cond.methodLink RX3 79 yX3_snowOrMelt, Cond.instanceMethod yX3_snowOrMelt, Cond.selects RX3 yX3_snowOrMelt yX3_snowOrMelt, Cond.code yX3_snowOrMelt cX3_snowOrMelt 4 none, Cond.fieldLink RX3 60 "IceLand$Land" "warmth" "I", Cond.fieldLink RX3 38 "IceLand$Land" "snowed" "[I", Cond.fieldLink RX3 12 "IceLand$Land" "core" "LIceLand$Core;", Cond.fieldLink RX3 101 "IceLand$Core" "ice" "[I", Cond.fieldLink RX3 63 "IceLand$Land" "snow" "I", Cond.fieldLink RX3 21 "IceLand$Land" "sums" "LIceLand$Sums;", Cond.fieldLink RX3 131 "IceLand$Sums" "fallen" "I", Cond.fieldLink RX3 66 "IceLand$Land" "factor" "I", Cond.methodLink RX3 134 Lib.Math.min.name, Cond.static Lib.Math.min.name, Cond.initialized "java/lang/Math", Cond.code Lib.Math.min.name Lib.Math.min.code 2 (some .int), Cond.fieldLink RX3 32 "IceLand$Land" "water" "[I"]
def wsL_areAlike_r5 : List Cond := [Cond.fieldLink RX3 141 "IceLand$Sums" "melted" "I", Cond.methodLink RX3 104 yX3_surface, Cond.instanceMethod yX3_surface, Cond.selects RX3 yX3_surface yX3_surface, Cond.code yX3_surface cX3_surface 2 (some .int), Cond.fieldLink RX3 25 "IceLand$Land" "bed" "[I", Cond.methodLink RX3 123 yJ9_floorDiv_7cf53, Cond.static yJ9_floorDiv_7cf53, Cond.initialized RJ9, Cond.code yJ9_floorDiv_7cf53 cJ9_floorDiv_7cf53 3 (some .int), Cond.methodLink RX3 112 yX3_standsInSea, Cond.instanceMethod yX3_standsInSea, Cond.selects RX3 yX3_standsInSea yX3_standsInSea, Cond.code yX3_standsInSea cX3_standsInSea 2 (some .boolean), Cond.fieldLink RX3 57 "IceLand$Land" "level" "I", Cond.methodLink RX3 127 yX1_lay, Cond.methodLink RX3 137 yX1_takeLatest, Cond.instanceMethod yX1_takeLatest, Cond.selects RX1 yX1_takeLatest yX1_takeLatest, Cond.code yX1_takeLatest cX1_takeLatest 6 none, Cond.methodLink RX1 28 Lib.Math.min.name, Cond.methodLink RX1 24 yX1_unitsOf, Cond.instanceMethod yX1_unitsOf, Cond.selects RX1 yX1_unitsOf yX1_unitsOf]
def wsL_areAlike_r6 : List Cond := [Cond.code yX1_unitsOf cX1_unitsOf 3 (some .int), Cond.methodLink RX1 33 yX1_lay, Cond.methodLink RX3 83 yX3_flow, Cond.instanceMethod yX3_flow, Cond.selects RX3 yX3_flow yX3_flow, Cond.code yX3_flow cX3_flow 3 none, Cond.fieldLink RX3 44 "IceLand$Land" "passing" "[I", Cond.fieldLink RX3 41 "IceLand$Land" "gain" "[I", Cond.methodLink RX3 144 yX3_givenToNext, Cond.instanceMethod yX3_givenToNext, Cond.selects RX3 yX3_givenToNext yX3_givenToNext, Cond.code yX3_givenToNext cX3_givenToNext 3 (some .int), Cond.methodLink RX3 150 yX3_givenBy, Cond.instanceMethod yX3_givenBy, Cond.selects RX3 yX3_givenBy yX3_givenBy, Cond.code yX3_givenBy cX3_givenBy 5 (some .int), Cond.constantLong RX3 153 (200), Cond.constantLong RX3 158 (2), Cond.methodLink RX3 160 Lib.MathLoose.min_long.x, Cond.static Lib.MathLoose.min_long.x, Cond.code Lib.MathLoose.min_long.x Lib.MathLoose.min_long.code 4 (some .long), Cond.methodLink RX3 155 yJ9_floorDiv_f86c9, Cond.static yJ9_floorDiv_f86c9, Cond.code yJ9_floorDiv_f86c9 cJ9_floorDiv_f86c9 6 (some .long)]
def wsL_areAlike_r7 : List Cond := [Cond.methodLink RX3 147 yX1_carryEarliest, Cond.instanceMethod yX1_carryEarliest, Cond.selects RX1 yX1_carryEarliest yX1_carryEarliest, Cond.code yX1_carryEarliest cX1_carryEarliest 7 none, Cond.methodLink RX3 86 yX3_runOff, Cond.instanceMethod yX3_runOff, Cond.selects RX3 yX3_runOff yX3_runOff, Cond.code yX3_runOff cX3_runOff 3 none, Cond.fieldLink RX3 162 "IceLand$Sums" "toSea" "I", Cond.methodLink RX3 115 yX3_potential, Cond.instanceMethod yX3_potential, Cond.selects RX3 yX3_potential yX3_potential, Cond.code yX3_potential cX3_potential 2 (some .int), Cond.methodLink RX3 89 yX3_breakOut, Cond.instanceMethod yX3_breakOut, Cond.selects RX3 yX3_breakOut yX3_breakOut, Cond.code yX3_breakOut cX3_breakOut 3 none, Cond.fieldLink RX3 47 "IceLand$Land" "burst" "[I", Cond.methodLink RX3 165 yX3_leastIceBeside, Cond.instanceMethod yX3_leastIceBeside, Cond.selects RX3 yX3_leastIceBeside yX3_leastIceBeside, Cond.code yX3_leastIceBeside cX3_leastIceBeside 4 (some .int), Cond.methodLink RX3 92 yX3_calve, Cond.instanceMethod yX3_calve]
def wsL_areAlike_r8 : List Cond := [Cond.selects RX3 yX3_calve yX3_calve, Cond.code yX3_calve cX3_calve 4 none, Cond.fieldLink RX3 168 "IceLand$Sums" "bergs" "I", Cond.methodLink RX3 95 yX3_moveBed, Cond.instanceMethod yX3_moveBed, Cond.selects RX3 yX3_moveBed yX3_moveBed, Cond.code yX3_moveBed cX3_moveBed 3 none, Cond.fieldLink RX3 29 "IceLand$Land" "base" "[I", Cond.methodLink RX3 98 yX3_markFront, Cond.instanceMethod yX3_markFront, Cond.selects RX3 yX3_markFront yX3_markFront, Cond.code yX3_markFront cX3_markFront 2 none, Cond.fieldLink RX3 50 "IceLand$Land" "frontCell" "I", Cond.fieldLink RX3 35 "IceLand$Land" "moraine" "[I", Cond.methodLink RX5 107 yX0_note, Cond.instanceMethod yX0_note, Cond.selects RX0 yX0_note yX0_note, Cond.initialized RX0, Cond.code yX0_note cX0_note 3 none, Cond.fieldLink RX0 15 "IceLand$Annals" "frontOf" "[I", Cond.fieldLink RX0 31 "IceLand$Land" "year" "I", Cond.fieldLink RX0 37 "IceLand$Land" "frontCell" "I", Cond.fieldLink RX0 19 "IceLand$Annals" "iceBehind" "[I", Cond.fieldLink RX0 40 "IceLand$Land" "core" "LIceLand$Core;"]
def wsL_areAlike_r9 : List Cond := [Cond.fieldLink RX0 50 "IceLand$Land" "burst" "[I", Cond.fieldLink RX0 53 "IceLand$Annals" "floodCount" "I", Cond.fieldLink RX0 22 "IceLand$Annals" "floodYear" "[I", Cond.fieldLink RX0 25 "IceLand$Annals" "floodCell" "[I", Cond.fieldLink RX0 28 "IceLand$Annals" "floodUnits" "[I", Cond.methodLink RX0 44 yX1_allIce, Cond.instanceMethod yX1_allIce, Cond.selects RX1 yX1_allIce yX1_allIce, Cond.code yX1_allIce cX1_allIce 3 (some .int), Cond.methodLink RL 24 yX5_cellIs, Cond.instanceMethod yX5_cellIs, Cond.selects RX5 yX5_cellIs yX5_cellIs, Cond.code yX5_cellIs cX5_cellIs 3 (some .int), Cond.methodLink RX5 111 yX3_tellOf, Cond.instanceMethod yX3_tellOf, Cond.selects RX3 yX3_tellOf yX3_tellOf, Cond.code yX3_tellOf cX3_tellOf 3 (some .int), Cond.methodLink RX3 108 yX3_hasCrevasse, Cond.instanceMethod yX3_hasCrevasse, Cond.selects RX3 yX3_hasCrevasse yX3_hasCrevasse, Cond.code yX3_hasCrevasse cX3_hasCrevasse 2 (some .boolean), Cond.methodLink RX3 118 Lib.Math.abs.name, Cond.static Lib.Math.abs.name, Cond.code Lib.Math.abs.name Lib.Math.abs.code 1 (some .int)]
def wsL_areAlike_r10 : List Cond := [Cond.methodLink RL 27 yX5_layer, Cond.instanceMethod yX5_layer, Cond.selects RX5 yX5_layer yX5_layer, Cond.code yX5_layer cX5_layer 3 (some .int), Cond.methodLink RX5 115 yX1_unitsOf, Cond.methodLink RL 30 yX5_yearAt, Cond.instanceMethod yX5_yearAt, Cond.selects RX5 yX5_yearAt yX5_yearAt, Cond.code yX5_yearAt cX5_yearAt 3 (some .int), Cond.methodLink RX5 123 yX1_yearBelow, Cond.instanceMethod yX1_yearBelow, Cond.selects RX1 yX1_yearBelow yX1_yearBelow, Cond.code yX1_yearBelow cX1_yearBelow 6 (some .int), Cond.methodLink RL 33 yX5_common, Cond.instanceMethod yX5_common, Cond.selects RX5 yX5_common yX5_common, Cond.code yX5_common cX5_common 5 (some .int), Cond.fieldLink RX5 97 "IceLand$Annals" "ashFell" "[Z", Cond.methodLink RL 36 yX5_flood, Cond.instanceMethod yX5_flood, Cond.selects RX5 yX5_flood yX5_flood, Cond.code yX5_flood cX5_flood 3 (some .int), Cond.fieldLink RX5 134 "IceLand$Annals" "floodYear" "[I", Cond.fieldLink RX5 137 "IceLand$Annals" "floodCell" "[I"]
def wsL_areAlike_r11 : List Cond := [Cond.fieldLink RX5 140 "IceLand$Annals" "floodUnits" "[I", Cond.methodLink RL 39 yX5_front, Cond.instanceMethod yX5_front, Cond.selects RX5 yX5_front yX5_front, Cond.code yX5_front cX5_front 2 (some .int), Cond.fieldLink RX5 143 "IceLand$Annals" "frontOf" "[I", Cond.methodLink RL 42 yX5_total, Cond.instanceMethod yX5_total, Cond.selects RX5 yX5_total yX5_total, Cond.code yX5_total cX5_total 2 (some .int), Cond.fieldLink RX5 153 "IceLand$Sums" "toSea" "I", Cond.methodLink RX5 146 yX1_allIce, Cond.methodLink RX5 150 yX3_allWater, Cond.instanceMethod yX3_allWater, Cond.selects RX3 yX3_allWater yX3_allWater, Cond.code yX3_allWater cX3_allWater 3 (some .int), Cond.methodLink RL 45 yX5_forecast, Cond.instanceMethod yX5_forecast, Cond.selects RX5 yX5_forecast yX5_forecast, Cond.code yX5_forecast cX5_forecast 3 (some .int), Cond.fieldLink RX5 29 "IceLand" "forecasts" "LIceLand$Forecasts;", Cond.fieldLink RX5 168 "IceLand$Forecasts" "count" "I", Cond.fieldLink RX5 16 "IceLand" "trial" "LIceLand$Land;", Cond.methodLink RX5 165 yX5_tryOut]
def wsL_areAlike_r12 : List Cond := [Cond.instanceMethod yX5_tryOut, Cond.selects RX5 yX5_tryOut yX5_tryOut, Cond.code yX5_tryOut cX5_tryOut 3 none, Cond.methodLink RX5 194 yX3_becomeLike, Cond.instanceMethod yX3_becomeLike, Cond.selects RX3 yX3_becomeLike yX3_becomeLike, Cond.code yX3_becomeLike cX3_becomeLike 2 none, Cond.methodLink RX3 73 arraycopyName, Cond.native arraycopyName, Cond.static arraycopyName, Cond.initialized "java/lang/System", Cond.methodLink RX3 69 yX1_becomeLike, Cond.instanceMethod yX1_becomeLike, Cond.selects RX1 yX1_becomeLike yX1_becomeLike, Cond.code yX1_becomeLike cX1_becomeLike 2 none, Cond.methodLink RX1 18 arraycopyName, Cond.methodLink RX5 173 yX2_keep, Cond.instanceMethod yX2_keep, Cond.selects RX2 yX2_keep yX2_keep, Cond.initialized RX2, Cond.code yX2_keep cX2_keep 3 none, Cond.fieldLink RX2 18 "IceLand$Forecasts" "count" "I", Cond.fieldLink RX2 9 "IceLand$Forecasts" "meantYear" "[I", Cond.fieldLink RX2 15 "IceLand$Forecasts" "expected" "[I"]
def wsL_areAlike_r13 : List Cond := [Cond.methodLink RL 48 yX5_miss, Cond.instanceMethod yX5_miss, Cond.selects RX5 yX5_miss yX5_miss, Cond.code yX5_miss cX5_miss 3 (some .int), Cond.fieldLink RX5 179 "IceLand$Forecasts" "meantYear" "[I", Cond.fieldLink RX5 182 "IceLand$Forecasts" "expected" "[I", Cond.fieldLink RX5 185 "IceLand$Annals" "iceBehind" "[I", Cond.methodLink RX5 188 Lib.Math.abs.name]
def wsL_areAlike : List Cond := .code yL_areAlike cL_areAlike 7 (some .boolean) :: ((wsL_areAlike_r1 ++ (wsL_areAlike_r2 ++ (wsL_areAlike_r3 ++ (wsL_areAlike_r4 ++ (wsL_areAlike_r5 ++ (wsL_areAlike_r6 ++ (wsL_areAlike_r7 ++ (wsL_areAlike_r8 ++ (wsL_areAlike_r9 ++ (wsL_areAlike_r10 ++ (wsL_areAlike_r11 ++ (wsL_areAlike_r12 ++ wsL_areAlike_r13)))))))))))) ++ wsX50 ++ wsX00 ++ wsX30 ++ wsX40 ++ wsX10 ++ wsX20 ++ (vx_atS RX5 58 "java/lang/IllegalStateException" ["java/lang/RuntimeException", "java/lang/Exception"]).filter goodWord ++ (vx_atS RX5 133 "java/lang/IndexOutOfBoundsException" ["java/lang/RuntimeException", "java/lang/Exception"]).filter goodWord ++ (vx_atS RX5 122 "java/lang/IllegalArgumentException" ["java/lang/RuntimeException", "java/lang/Exception"]).filter goodWord)
def wsL_law0_r1 : List Cond := [Cond.classLink RL 9 RX5, Cond.instantiable RX5 4, Cond.initialized RX5, Cond.arrayClass .int, Cond.methodLink RL 81 yX5_init, Cond.instanceMethod yX5_init, Cond.code yX5_init cX5_init 1 none, Cond.methodLink RX5 1 objectInit, Cond.instanceMethod objectInit, Cond.code objectInit ⟨#[0xb1]⟩ 1 none, Cond.classLink RX5 7 RX3, Cond.instantiable RX3 16, Cond.initialized RX3, Cond.fieldLink RX5 10 "IceLand" "present" "LIceLand$Land;", Cond.fieldLink RX5 16 "IceLand" "trial" "LIceLand$Land;", Cond.classLink RX5 19 RX0, Cond.instantiable RX0 7, Cond.initialized RX0, Cond.fieldLink RX5 22 "IceLand" "annals" "LIceLand$Annals;", Cond.classLink RX5 26 RX2, Cond.instantiable RX2 3, Cond.initialized RX2, Cond.fieldLink RX5 29 "IceLand" "forecasts" "LIceLand$Forecasts;", Cond.methodLink RX5 9 yX3_init]
def wsL_law0_r2 : List Cond := [Cond.instanceMethod yX3_init, Cond.code yX3_init cX3_init 2 none, Cond.methodLink RX3 3 objectInit, Cond.classLink RX3 9 RX1, Cond.instantiable RX1 2, Cond.initialized RX1, Cond.fieldLink RX3 12 "IceLand$Land" "core" "LIceLand$Core;", Cond.classLink RX3 18 RX4, Cond.instantiable RX4 5, Cond.initialized RX4, Cond.fieldLink RX3 21 "IceLand$Land" "sums" "LIceLand$Sums;", Cond.fieldLink RX3 25 "IceLand$Land" "bed" "[I", Cond.fieldLink RX3 29 "IceLand$Land" "base" "[I", Cond.fieldLink RX3 32 "IceLand$Land" "water" "[I", Cond.fieldLink RX3 35 "IceLand$Land" "moraine" "[I", Cond.fieldLink RX3 38 "IceLand$Land" "snowed" "[I", Cond.fieldLink RX3 41 "IceLand$Land" "gain" "[I", Cond.fieldLink RX3 44 "IceLand$Land" "passing" "[I", Cond.fieldLink RX3 47 "IceLand$Land" "burst" "[I", Cond.fieldLink RX3 50 "IceLand$Land" "frontCell" "I", Cond.instanceMethod yX1_init, Cond.code yX1_init cX1_init 1 none, Cond.methodLink RX1 3 objectInit, Cond.fieldLink RX1 9 "IceLand$Core" "ice" "[I"]
def wsL_law0_r3 : List Cond := [Cond.fieldLink RX1 15 "IceLand$Core" "units" "[I", Cond.instanceMethod yX4_init, Cond.code yX4_init cX4_init 1 none, Cond.methodLink RX4 1 objectInit, Cond.methodLink RX5 21 yX0_init, Cond.instanceMethod yX0_init, Cond.code yX0_init cX0_init 1 none, Cond.methodLink RX0 3 objectInit, Cond.arrayClass .boolean, Cond.fieldLink RX0 9 "IceLand$Annals" "ashFell" "[Z", Cond.fieldLink RX0 15 "IceLand$Annals" "frontOf" "[I", Cond.fieldLink RX0 19 "IceLand$Annals" "iceBehind" "[I", Cond.fieldLink RX0 22 "IceLand$Annals" "floodYear" "[I", Cond.fieldLink RX0 25 "IceLand$Annals" "floodCell" "[I", Cond.fieldLink RX0 28 "IceLand$Annals" "floodUnits" "[I", Cond.instanceMethod yX2_init, Cond.code yX2_init cX2_init 1 none, Cond.methodLink RX2 3 objectInit, Cond.fieldLink RX2 9 "IceLand$Forecasts" "meantYear" "[I", Cond.fieldLink RX2 15 "IceLand$Forecasts" "expected" "[I", Cond.methodLink RL 82 yL_drawn, Cond.static yL_drawn, Cond.initialized RL, Cond.code yL_drawn cL_drawn 3 (some .int)]
def wsL_law0_r4 : List Cond := [Cond.constant RL 7 (1073741823), Cond.methodLink RL 75 yL_does, Cond.static yL_does, Cond.codeWith yL_does cL_does 5 (some .int) [(0, 173, 174, 51), (0, 173, 179, 54), (0, 173, 184, 57)], Cond.classLink RL 51 "java/lang/IndexOutOfBoundsException", Cond.classLink RL 54 "java/lang/IllegalArgumentException", Cond.classLink RL 57 "java/lang/IllegalStateException", Cond.constant RL 53 (-9000001), Cond.constant RL 56 (-9000002), Cond.constant RL 59 (-9000003), Cond.methodLink RL 8 yX5_land, Cond.instanceMethod yX5_land, Cond.selects RX5 yX5_land yX5_land, Cond.code yX5_land cX5_land 4 (some .int), Cond.classLink RX5 54 "java/lang/IllegalStateException", Cond.initialized "java/lang/IllegalStateException", Cond.fieldLink RX5 41 "IceLand$Land" "core" "LIceLand$Core;", Cond.fieldLink RX5 45 "IceLand$Core" "ice" "[I", Cond.fieldLink RX5 51 "IceLand$Land" "water" "[I", Cond.fieldLink RX5 61 "IceLand$Land" "bed" "[I", Cond.fieldLink RX5 64 "IceLand$Land" "base" "[I", Cond.methodLink RX5 33 yX5_needCell, Cond.static yX5_needCell, Cond.code yX5_needCell cX5_needCell 1 none]
def wsL_law0_r5 : List Cond := [Cond.classLink RX5 129 "java/lang/IndexOutOfBoundsException", Cond.initialized "java/lang/IndexOutOfBoundsException", Cond.methodLink RX5 37 yX5_needWithin, Cond.static yX5_needWithin, Cond.code yX5_needWithin cX5_needWithin 3 none, Cond.classLink RX5 118 "java/lang/IllegalArgumentException", Cond.initialized "java/lang/IllegalArgumentException", Cond.methodLink RL 14 yX5_sea, Cond.instanceMethod yX5_sea, Cond.selects RX5 yX5_sea yX5_sea, Cond.code yX5_sea cX5_sea 3 (some .int), Cond.fieldLink RX5 67 "IceLand$Land" "level" "I", Cond.methodLink RL 18 yX5_ice, Cond.instanceMethod yX5_ice, Cond.selects RX5 yX5_ice yX5_ice, Cond.code yX5_ice cX5_ice 3 (some .int), Cond.fieldLink RX5 82 "IceLand$Land" "year" "I", Cond.fieldLink RX5 88 "IceLand$Land" "sums" "LIceLand$Sums;", Cond.fieldLink RX5 92 "IceLand$Sums" "told" "I", Cond.methodLink RX5 85 yX1_lay, Cond.instanceMethod yX1_lay, Cond.selects RX1 yX1_lay yX1_lay, Cond.code yX1_lay cX1_lay 4 none, Cond.methodLink RL 21 yX5_pass]
def wsL_law0_r6 : List Cond := [Cond.instanceMethod yX5_pass, Cond.selects RX5 yX5_pass yX5_pass, Cond.code yX5_pass cX5_pass 3 (some .int), Cond.methodLink RX5 101 yX5_needNotTooLate, Cond.instanceMethod yX5_needNotTooLate, Cond.selects RX5 yX5_needNotTooLate yX5_needNotTooLate, Cond.code yX5_needNotTooLate cX5_needNotTooLate 2 none, Cond.methodLink RX5 104 yX3_goThroughYear, Cond.instanceMethod yX3_goThroughYear, Cond.selects RX3 yX3_goThroughYear yX3_goThroughYear, Cond.code yX3_goThroughYear cX3_goThroughYear 2 none, Cond.fieldLink RX3 54 "IceLand$Land" "year" "I", Cond.methodLink RX3 79 yX3_snowOrMelt, Cond.instanceMethod yX3_snowOrMelt, Cond.selects RX3 yX3_snowOrMelt yX3_snowOrMelt, Cond.code yX3_snowOrMelt cX3_snowOrMelt 4 none, Cond.fieldLink RX3 60 "IceLand$Land" "warmth" "I", Cond.fieldLink RX3 101 "IceLand$Core" "ice" "[I", Cond.fieldLink RX3 63 "IceLand$Land" "snow" "I", Cond.fieldLink RX3 131 "IceLand$Sums" "fallen" "I", Cond.fieldLink RX3 66 "IceLand$Land" "factor" "I", Cond.methodLink RX3 134 Lib.Math.min.name, Cond.static Lib.Math.min.name, Cond.initialized "java/lang/Math"]
def wsL_law0_r7 : List Cond := [Cond.code Lib.Math.min.name Lib.Math.min.code 2 (some .int), Cond.fieldLink RX3 141 "IceLand$Sums" "melted" "I", Cond.methodLink RX3 104 yX3_surface, Cond.instanceMethod yX3_surface, Cond.selects RX3 yX3_surface yX3_surface, Cond.code yX3_surface cX3_surface 2 (some .int), Cond.methodLink RX3 123 yJ9_floorDiv_7cf53, Cond.static yJ9_floorDiv_7cf53, Cond.initialized RJ9, Cond.code yJ9_floorDiv_7cf53 cJ9_floorDiv_7cf53 3 (some .int), Cond.methodLink RX3 112 yX3_standsInSea, Cond.instanceMethod yX3_standsInSea, Cond.selects RX3 yX3_standsInSea yX3_standsInSea, Cond.code yX3_standsInSea cX3_standsInSea 2 (some .boolean), Cond.fieldLink RX3 57 "IceLand$Land" "level" "I", Cond.methodLink RX3 127 yX1_lay, Cond.methodLink RX3 137 yX1_takeLatest, Cond.instanceMethod yX1_takeLatest, Cond.selects RX1 yX1_takeLatest yX1_takeLatest, Cond.code yX1_takeLatest cX1_takeLatest 6 none, Cond.methodLink RX1 28 Lib.Math.min.name, Cond.methodLink RX1 24 yX1_unitsOf, Cond.instanceMethod yX1_unitsOf, Cond.selects RX1 yX1_unitsOf yX1_unitsOf]
def wsL_law0_r8 : List Cond := [Cond.code yX1_unitsOf cX1_unitsOf 3 (some .int), Cond.methodLink RX1 33 yX1_lay, Cond.methodLink RX3 83 yX3_flow, Cond.instanceMethod yX3_flow, Cond.selects RX3 yX3_flow yX3_flow, Cond.code yX3_flow cX3_flow 3 none, Cond.methodLink RX3 144 yX3_givenToNext, Cond.instanceMethod yX3_givenToNext, Cond.selects RX3 yX3_givenToNext yX3_givenToNext, Cond.code yX3_givenToNext cX3_givenToNext 3 (some .int), Cond.methodLink RX3 150 yX3_givenBy, Cond.instanceMethod yX3_givenBy, Cond.selects RX3 yX3_givenBy yX3_givenBy, Cond.code yX3_givenBy cX3_givenBy 5 (some .int), Cond.constantLong RX3 153 (200), Cond.constantLong RX3 158 (2), Cond.methodLink RX3 160 Lib.MathLoose.min_long.x, Cond.static Lib.MathLoose.min_long.x, Cond.code Lib.MathLoose.min_long.x Lib.MathLoose.min_long.code 4 (some .long), Cond.methodLink RX3 155 yJ9_floorDiv_f86c9, Cond.static yJ9_floorDiv_f86c9, Cond.code yJ9_floorDiv_f86c9 cJ9_floorDiv_f86c9 6 (some .long), Cond.methodLink RX3 147 yX1_carryEarliest, Cond.instanceMethod yX1_carryEarliest]
def wsL_law0_r9 : List Cond := [Cond.selects RX1 yX1_carryEarliest yX1_carryEarliest, Cond.code yX1_carryEarliest cX1_carryEarliest 7 none, Cond.methodLink RX3 86 yX3_runOff, Cond.instanceMethod yX3_runOff, Cond.selects RX3 yX3_runOff yX3_runOff, Cond.code yX3_runOff cX3_runOff 3 none, Cond.fieldLink RX3 162 "IceLand$Sums" "toSea" "I", Cond.methodLink RX3 115 yX3_potential, Cond.instanceMethod yX3_potential, Cond.selects RX3 yX3_potential yX3_potential, Cond.code yX3_potential cX3_potential 2 (some .int), Cond.methodLink RX3 89 yX3_breakOut, Cond.instanceMethod yX3_breakOut, Cond.selects RX3 yX3_breakOut yX3_breakOut, Cond.code yX3_breakOut cX3_breakOut 3 none, Cond.methodLink RX3 165 yX3_leastIceBeside, Cond.instanceMethod yX3_leastIceBeside, Cond.selects RX3 yX3_leastIceBeside yX3_leastIceBeside, Cond.code yX3_leastIceBeside cX3_leastIceBeside 4 (some .int), Cond.methodLink RX3 92 yX3_calve, Cond.instanceMethod yX3_calve, Cond.selects RX3 yX3_calve yX3_calve, Cond.code yX3_calve cX3_calve 4 none, Cond.fieldLink RX3 168 "IceLand$Sums" "bergs" "I"]
def wsL_law0_r10 : List Cond := [Cond.methodLink RX3 95 yX3_moveBed, Cond.instanceMethod yX3_moveBed, Cond.selects RX3 yX3_moveBed yX3_moveBed, Cond.code yX3_moveBed cX3_moveBed 3 none, Cond.methodLink RX3 98 yX3_markFront, Cond.instanceMethod yX3_markFront, Cond.selects RX3 yX3_markFront yX3_markFront, Cond.code yX3_markFront cX3_markFront 2 none, Cond.methodLink RX5 107 yX0_note, Cond.instanceMethod yX0_note, Cond.selects RX0 yX0_note yX0_note, Cond.code yX0_note cX0_note 3 none, Cond.fieldLink RX0 31 "IceLand$Land" "year" "I", Cond.fieldLink RX0 37 "IceLand$Land" "frontCell" "I", Cond.fieldLink RX0 40 "IceLand$Land" "core" "LIceLand$Core;", Cond.fieldLink RX0 50 "IceLand$Land" "burst" "[I", Cond.fieldLink RX0 53 "IceLand$Annals" "floodCount" "I", Cond.methodLink RX0 44 yX1_allIce, Cond.instanceMethod yX1_allIce, Cond.selects RX1 yX1_allIce yX1_allIce, Cond.code yX1_allIce cX1_allIce 3 (some .int), Cond.methodLink RL 24 yX5_cellIs, Cond.instanceMethod yX5_cellIs, Cond.selects RX5 yX5_cellIs yX5_cellIs]
def wsL_law0_r11 : List Cond := [Cond.code yX5_cellIs cX5_cellIs 3 (some .int), Cond.methodLink RX5 111 yX3_tellOf, Cond.instanceMethod yX3_tellOf, Cond.selects RX3 yX3_tellOf yX3_tellOf, Cond.code yX3_tellOf cX3_tellOf 3 (some .int), Cond.methodLink RX3 108 yX3_hasCrevasse, Cond.instanceMethod yX3_hasCrevasse, Cond.selects RX3 yX3_hasCrevasse yX3_hasCrevasse, Cond.code yX3_hasCrevasse cX3_hasCrevasse 2 (some .boolean), Cond.methodLink RX3 118 Lib.Math.abs.name, Cond.static Lib.Math.abs.name, Cond.code Lib.Math.abs.name Lib.Math.abs.code 1 (some .int), Cond.methodLink RL 27 yX5_layer, Cond.instanceMethod yX5_layer, Cond.selects RX5 yX5_layer yX5_layer, Cond.code yX5_layer cX5_layer 3 (some .int), Cond.methodLink RX5 115 yX1_unitsOf, Cond.methodLink RL 30 yX5_yearAt, Cond.instanceMethod yX5_yearAt, Cond.selects RX5 yX5_yearAt yX5_yearAt, Cond.code yX5_yearAt cX5_yearAt 3 (some .int), Cond.methodLink RX5 123 yX1_yearBelow, Cond.instanceMethod yX1_yearBelow, Cond.selects RX1 yX1_yearBelow yX1_yearBelow]
def wsL_law0_r12 : List Cond := [Cond.code yX1_yearBelow cX1_yearBelow 6 (some .int), Cond.methodLink RL 33 yX5_common, Cond.instanceMethod yX5_common, Cond.selects RX5 yX5_common yX5_common, Cond.code yX5_common cX5_common 5 (some .int), Cond.fieldLink RX5 97 "IceLand$Annals" "ashFell" "[Z", Cond.methodLink RL 36 yX5_flood, Cond.instanceMethod yX5_flood, Cond.selects RX5 yX5_flood yX5_flood, Cond.code yX5_flood cX5_flood 3 (some .int), Cond.fieldLink RX5 126 "IceLand$Annals" "floodCount" "I", Cond.fieldLink RX5 134 "IceLand$Annals" "floodYear" "[I", Cond.fieldLink RX5 137 "IceLand$Annals" "floodCell" "[I", Cond.fieldLink RX5 140 "IceLand$Annals" "floodUnits" "[I", Cond.methodLink RL 39 yX5_front, Cond.instanceMethod yX5_front, Cond.selects RX5 yX5_front yX5_front, Cond.code yX5_front cX5_front 2 (some .int), Cond.fieldLink RX5 143 "IceLand$Annals" "frontOf" "[I", Cond.methodLink RL 42 yX5_total, Cond.instanceMethod yX5_total, Cond.selects RX5 yX5_total yX5_total, Cond.code yX5_total cX5_total 2 (some .int), Cond.fieldLink RX5 153 "IceLand$Sums" "toSea" "I"]
def wsL_law0_r13 : List Cond := [Cond.fieldLink RX5 156 "IceLand$Sums" "bergs" "I", Cond.fieldLink RX5 159 "IceLand$Sums" "fallen" "I", Cond.methodLink RX5 146 yX1_allIce, Cond.methodLink RX5 150 yX3_allWater, Cond.instanceMethod yX3_allWater, Cond.selects RX3 yX3_allWater yX3_allWater, Cond.code yX3_allWater cX3_allWater 3 (some .int), Cond.methodLink RL 45 yX5_forecast, Cond.instanceMethod yX5_forecast, Cond.selects RX5 yX5_forecast yX5_forecast, Cond.code yX5_forecast cX5_forecast 3 (some .int), Cond.fieldLink RX5 168 "IceLand$Forecasts" "count" "I", Cond.methodLink RX5 165 yX5_tryOut, Cond.instanceMethod yX5_tryOut, Cond.selects RX5 yX5_tryOut yX5_tryOut, Cond.code yX5_tryOut cX5_tryOut 3 none, Cond.methodLink RX5 194 yX3_becomeLike, Cond.instanceMethod yX3_becomeLike, Cond.selects RX3 yX3_becomeLike yX3_becomeLike, Cond.code yX3_becomeLike cX3_becomeLike 2 none, Cond.methodLink RX3 73 arraycopyName, Cond.native arraycopyName, Cond.static arraycopyName, Cond.initialized "java/lang/System"]
def wsL_law0_r14 : List Cond := [Cond.methodLink RX3 69 yX1_becomeLike, Cond.instanceMethod yX1_becomeLike, Cond.selects RX1 yX1_becomeLike yX1_becomeLike, Cond.code yX1_becomeLike cX1_becomeLike 2 none, Cond.methodLink RX1 18 arraycopyName, Cond.methodLink RX5 173 yX2_keep, Cond.instanceMethod yX2_keep, Cond.selects RX2 yX2_keep yX2_keep, Cond.code yX2_keep cX2_keep 3 none, Cond.fieldLink RX2 18 "IceLand$Forecasts" "count" "I", Cond.methodLink RL 48 yX5_miss, Cond.instanceMethod yX5_miss, Cond.selects RX5 yX5_miss yX5_miss, Cond.code yX5_miss cX5_miss 3 (some .int), Cond.fieldLink RX5 179 "IceLand$Forecasts" "meantYear" "[I", Cond.fieldLink RX5 182 "IceLand$Forecasts" "expected" "[I", Cond.fieldLink RX5 185 "IceLand$Annals" "iceBehind" "[I", Cond.methodLink RX5 188 Lib.Math.abs.name, Cond.methodLink RL 86 yL_would, Cond.static yL_would, Cond.codeWith yL_would cL_would 5 (some .int) [(0, 7, 8, 51), (0, 7, 13, 54), (0, 7, 18, 57)], Cond.methodLink RL 60 yX5_would, Cond.instanceMethod yX5_would, Cond.selects RX5 yX5_would yX5_would]
def wsL_law0_r15 : List Cond := [Cond.code yX5_would cX5_would 4 (some .int), Cond.methodLink RL 88 yL_climate, Cond.static yL_climate, Cond.codeWith yL_climate cL_climate 5 (some .boolean) [(0, 7, 10, 54)], Cond.methodLink RL 64 yX5_climate, Cond.instanceMethod yX5_climate, Cond.selects RX5 yX5_climate yX5_climate, Cond.code yX5_climate cX5_climate 4 none, Cond.fieldLink RX5 71 "IceLand$Land" "warmth" "I", Cond.fieldLink RX5 74 "IceLand$Land" "snow" "I", Cond.fieldLink RX5 77 "IceLand$Land" "factor" "I", Cond.methodLink RL 91 yX5_ash, Cond.instanceMethod yX5_ash, Cond.selects RX5 yX5_ash yX5_ash, Cond.code yX5_ash cX5_ash 2 (some .boolean), Cond.methodLink RL 95 yL_areAlike, Cond.static yL_areAlike, Cond.code yL_areAlike cL_areAlike 7 (some .boolean), Cond.methodLink RL 68 yX5_floods, Cond.instanceMethod yX5_floods, Cond.selects RX5 yX5_floods yX5_floods, Cond.code yX5_floods cX5_floods 1 (some .int), Cond.methodLink RL 72 yX5_iceAnew, Cond.instanceMethod yX5_iceAnew]
def wsL_law0_r16 : List Cond := [Cond.selects RX5 yX5_iceAnew yX5_iceAnew, Cond.code yX5_iceAnew cX5_iceAnew 2 (some .int), Cond.fieldLink RX5 162 "IceLand$Sums" "melted" "I"]
def wsL_law0 : List Cond := (wsL_law0_r1 ++ (wsL_law0_r2 ++ (wsL_law0_r3 ++ (wsL_law0_r4 ++ (wsL_law0_r5 ++ (wsL_law0_r6 ++ (wsL_law0_r7 ++ (wsL_law0_r8 ++ (wsL_law0_r9 ++ (wsL_law0_r10 ++ (wsL_law0_r11 ++ (wsL_law0_r12 ++ (wsL_law0_r13 ++ (wsL_law0_r14 ++ (wsL_law0_r15 ++ wsL_law0_r16))))))))))))))) ++ wsX50 ++ wsX30 ++ wsX00 ++ wsX20 ++ wsX10 ++ wsX40 ++ ([] : List Cond)
def wsL_law : List Cond := wsL_law0 ++ (vx_atS RX5 58 "java/lang/IllegalStateException" ["java/lang/RuntimeException", "java/lang/Exception"]).filter goodWord ++ (vx_atS RX5 133 "java/lang/IndexOutOfBoundsException" ["java/lang/RuntimeException", "java/lang/Exception"]).filter goodWord ++ (vx_atS RX5 122 "java/lang/IllegalArgumentException" ["java/lang/RuntimeException", "java/lang/Exception"]).filter goodWord
theorem inAt {big ws : List Cond} (ps : List Nat) (hp : ws = ps.filterMap (fun i => big[i]?)) : ∀ w ∈ ws, w ∈ big := by
  intro w hw
  rw [hp] at hw
  obtain ⟨i, -, hi⟩ := List.mem_filterMap.mp hw
  exact List.mem_of_getElem? hi
set_option maxRecDepth 20000 in
theorem wsL_law0_r1_in : ∀ w ∈ wsL_law0_r1, w ∈ lw_tbl := by decide +kernel
set_option maxRecDepth 20000 in
theorem wsL_law0_r2_in : ∀ w ∈ wsL_law0_r2, w ∈ lw_tbl := inAt [43, 44, 45, 46, 47, 20, 99, 62, 63, 21, 102, 104, 106, 108, 110, 111, 112, 113, 114, 116, 49, 50, 51, 52] (by decide +kernel)
set_option maxRecDepth 20000 in
theorem wsL_law0_r3_in : ∀ w ∈ wsL_law0_r3, w ∈ lw_tbl := inAt [55, 65, 66, 67, 153, 154, 155, 156, 186, 157, 159, 161, 163, 165, 167, 190, 191, 192, 193, 195, 223, 224, 17, 225] (by decide +kernel)
set_option maxRecDepth 20000 in
theorem wsL_law0_r4_in : ∀ w ∈ wsL_law0_r4, w ∈ lw_tbl := inAt [226, 227, 228, 229, 230, 231, 232, 540, 541, 542, 233, 234, 235, 236, 327, 29, 100, 53, 109, 105, 107, 237, 238, 239] (by decide +kernel)
set_option maxRecDepth 20000 in
theorem wsL_law0_r5_in : ∀ w ∈ wsL_law0_r5, w ∈ lw_tbl := inAt [240, 27, 308, 309, 310, 311, 28, 343, 344, 345, 346, 92, 347, 348, 349, 350, 90, 103, 70, 352, 353, 354, 355, 356] (by decide +kernel)
set_option maxRecDepth 20000 in
theorem wsL_law0_r6_in : ∀ w ∈ wsL_law0_r6, w ∈ lw_tbl := inAt [357, 358, 359, 360, 362, 1, 363, 365, 366, 367, 368, 88, 369, 371, 2, 372, 93, 54, 95, 68, 97, 385, 386, 30] (by decide +kernel)
set_option maxRecDepth 20000 in
theorem wsL_law0_r7_in : ∀ w ∈ wsL_law0_r7, w ∈ lw_tbl := inAt [387, 71, 373, 375, 3, 376, 377, 378, 30, 379, 380, 382, 4, 383, 91, 384, 388, 389, 390, 391, 396, 392, 393, 394] (by decide +kernel)
set_option maxRecDepth 20000 in
theorem wsL_law0_r8_in : ∀ w ∈ wsL_law0_r8, w ∈ lw_tbl := inAt [395, 397, 398, 400, 5, 401, 402, 404, 6, 405, 406, 408, 7, 409, 410, 414, 415, 416, 417, 411, 412, 413, 418, 419] (by decide +kernel)
set_option maxRecDepth 20000 in
theorem wsL_law0_r9_in : ∀ w ∈ wsL_law0_r9, w ∈ lw_tbl := inAt [420, 421, 422, 424, 8, 425, 73, 426, 428, 9, 429, 430, 432, 10, 433, 434, 436, 11, 437, 438, 440, 12, 441, 76] (by decide +kernel)
set_option maxRecDepth 20000 in
theorem wsL_law0_r10_in : ∀ w ∈ wsL_law0_r10, w ∈ lw_tbl := inAt [442, 444, 13, 445, 446, 448, 14, 449, 450, 451, 452, 453, 89, 117, 101, 115, 169, 454, 455, 456, 457, 458, 459, 460] (by decide +kernel)
set_option maxRecDepth 20000 in
theorem wsL_law0_r11_in : ∀ w ∈ wsL_law0_r11, w ∈ lw_tbl := inAt [461, 462, 463, 464, 465, 466, 468, 15, 469, 470, 471, 472, 473, 474, 475, 476, 477, 478, 479, 480, 481, 483, 484, 485] (by decide +kernel)
set_option maxRecDepth 20000 in
theorem wsL_law0_r12_in : ∀ w ∈ wsL_law0_r12, w ∈ lw_tbl := inAt [486, 487, 488, 489, 490, 158, 491, 492, 493, 494, 170, 164, 166, 168, 496, 497, 498, 499, 160, 500, 501, 502, 503, 74] (by decide +kernel)
set_option maxRecDepth 20000 in
theorem wsL_law0_r13_in : ∀ w ∈ wsL_law0_r13, w ∈ lw_tbl := inAt [75, 69, 504, 505, 506, 507, 508, 509, 510, 511, 512, 198, 514, 516, 16, 517, 518, 519, 520, 521, 529, 528, 527, 31] (by decide +kernel)
set_option maxRecDepth 20000 in
theorem wsL_law0_r14_in : ∀ w ∈ wsL_law0_r14, w ∈ lw_tbl := inAt [522, 523, 524, 525, 526, 530, 531, 532, 533, 197, 534, 535, 536, 537, 194, 196, 162, 539, 543, 544, 545, 546, 547, 548] (by decide +kernel)
set_option maxRecDepth 20000 in
theorem wsL_law0_r15_in : ∀ w ∈ wsL_law0_r15, w ∈ lw_tbl := inAt [549, 550, 551, 552, 553, 554, 555, 556, 94, 96, 98, 219, 220, 221, 222, 557, 558, 559, 560, 561, 562, 563, 564, 565] (by decide +kernel)
set_option maxRecDepth 20000 in
theorem wsL_law0_r16_in : ∀ w ∈ wsL_law0_r16, w ∈ lw_tbl := inAt [566, 567, 72] (by decide +kernel)
theorem in0_wsX50 : ∀ w ∈ wsX50, w ∈ lw_tbl := by decide +kernel
theorem in0_wsX30 : ∀ w ∈ wsX30, w ∈ lw_tbl := by decide +kernel
theorem in0_wsX00 : ∀ w ∈ wsX00, w ∈ lw_tbl := by decide +kernel
theorem in0_wsX20 : ∀ w ∈ wsX20, w ∈ lw_tbl := by decide +kernel
theorem in0_wsX10 : ∀ w ∈ wsX10, w ∈ lw_tbl := by decide +kernel
theorem in0_wsX40 : ∀ w ∈ wsX40, w ∈ lw_tbl := by decide +kernel
theorem wsL_law_in0 : ∀ w ∈ wsL_law0, w ∈ lw_tbl := (fun w h => (List.mem_append.mp h).elim (fun h => (fun w h => (List.mem_append.mp h).elim (fun h => (fun w h => (List.mem_append.mp h).elim (fun h => (fun w h => (List.mem_append.mp h).elim (fun h => (fun w h => (List.mem_append.mp h).elim (fun h => (fun w h => (List.mem_append.mp h).elim (fun h => (fun w h => (List.mem_append.mp h).elim (fun h => (fun w h => (List.mem_append.mp h).elim (fun h => wsL_law0_r1_in w h) (fun h => (fun w h => (List.mem_append.mp h).elim (fun h => wsL_law0_r2_in w h) (fun h => (fun w h => (List.mem_append.mp h).elim (fun h => wsL_law0_r3_in w h) (fun h => (fun w h => (List.mem_append.mp h).elim (fun h => wsL_law0_r4_in w h) (fun h => (fun w h => (List.mem_append.mp h).elim (fun h => wsL_law0_r5_in w h) (fun h => (fun w h => (List.mem_append.mp h).elim (fun h => wsL_law0_r6_in w h) (fun h => (fun w h => (List.mem_append.mp h).elim (fun h => wsL_law0_r7_in w h) (fun h => (fun w h => (List.mem_append.mp h).elim (fun h => wsL_law0_r8_in w h) (fun h => (fun w h => (List.mem_append.mp h).elim (fun h => wsL_law0_r9_in w h) (fun h => (fun w h => (List.mem_append.mp h).elim (fun h => wsL_law0_r10_in w h) (fun h => (fun w h => (List.mem_append.mp h).elim (fun h => wsL_law0_r11_in w h) (fun h => (fun w h => (List.mem_append.mp h).elim (fun h => wsL_law0_r12_in w h) (fun h => (fun w h => (List.mem_append.mp h).elim (fun h => wsL_law0_r13_in w h) (fun h => (fun w h => (List.mem_append.mp h).elim (fun h => wsL_law0_r14_in w h) (fun h => (fun w h => (List.mem_append.mp h).elim (fun h => wsL_law0_r15_in w h) (fun h => wsL_law0_r16_in w h)) w h)) w h)) w h)) w h)) w h)) w h)) w h)) w h)) w h)) w h)) w h)) w h)) w h)) w h)) w h) (fun h => in0_wsX50 w h)) w h) (fun h => in0_wsX30 w h)) w h) (fun h => in0_wsX00 w h)) w h) (fun h => in0_wsX20 w h)) w h) (fun h => in0_wsX10 w h)) w h) (fun h => in0_wsX40 w h)) w h) (fun h => (fun w h => absurd h List.not_mem_nil) w h))
