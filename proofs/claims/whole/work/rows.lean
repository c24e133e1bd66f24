section
-- ===== PART A: goes FIRST, ahead of the names: the tables' words, and 'selects' of the private methods out of them =====
/-- a private method of a class that the tables say can be made, by its rows of tables_1 -/
def lw_okq (q : MethodName × Nat) : Prop := (q.1.cls ≠ "java/lang/invoke/MethodHandle" ∧ q.1.cls ≠ "java/lang/invoke/VarHandle") ∧ Cond.instantiable q.1.cls q.2 ∈ tables_1 ∧ Cond.privateMethod q.1 ∈ tables_1 ∧ Cond.instanceMethod q.1 ∈ tables_1
theorem lw_p0 : lw_okq (⟨"java/lang/Throwable", "fillInStackTrace", "(I)Ljava/lang/Throwable;"⟩, 6) := ⟨⟨by decide +kernel, by decide +kernel⟩, List.mem_of_getElem? (i := 267) (by decide +kernel), List.mem_of_getElem? (i := 265) (by decide +kernel), List.mem_of_getElem? (i := 266) (by decide +kernel)⟩
theorem lw_p1 : lw_okq (⟨"IceLand", "needNotTooLate", "(I)V"⟩, 4) := ⟨⟨by decide +kernel, by decide +kernel⟩, List.mem_of_getElem? (i := 17) (by decide +kernel), List.mem_of_getElem? (i := 365) (by decide +kernel), List.mem_of_getElem? (i := 366) (by decide +kernel)⟩
theorem lw_p2 : lw_okq (⟨"IceLand$Land", "snowOrMelt", "(I)V"⟩, 16) := ⟨⟨by decide +kernel, by decide +kernel⟩, List.mem_of_getElem? (i := 25) (by decide +kernel), List.mem_of_getElem? (i := 374) (by decide +kernel), List.mem_of_getElem? (i := 375) (by decide +kernel)⟩
theorem lw_p3 : lw_okq (⟨"IceLand$Land", "surface", "(I)I"⟩, 16) := ⟨⟨by decide +kernel, by decide +kernel⟩, List.mem_of_getElem? (i := 25) (by decide +kernel), List.mem_of_getElem? (i := 378) (by decide +kernel), List.mem_of_getElem? (i := 379) (by decide +kernel)⟩
theorem lw_p4 : lw_okq (⟨"IceLand$Land", "standsInSea", "(I)Z"⟩, 16) := ⟨⟨by decide +kernel, by decide +kernel⟩, List.mem_of_getElem? (i := 25) (by decide +kernel), List.mem_of_getElem? (i := 385) (by decide +kernel), List.mem_of_getElem? (i := 386) (by decide +kernel)⟩
theorem lw_p5 : lw_okq (⟨"IceLand$Land", "flow", "()V"⟩, 16) := ⟨⟨by decide +kernel, by decide +kernel⟩, List.mem_of_getElem? (i := 25) (by decide +kernel), List.mem_of_getElem? (i := 403) (by decide +kernel), List.mem_of_getElem? (i := 404) (by decide +kernel)⟩
theorem lw_p6 : lw_okq (⟨"IceLand$Land", "givenToNext", "(I)I"⟩, 16) := ⟨⟨by decide +kernel, by decide +kernel⟩, List.mem_of_getElem? (i := 25) (by decide +kernel), List.mem_of_getElem? (i := 407) (by decide +kernel), List.mem_of_getElem? (i := 408) (by decide +kernel)⟩
theorem lw_p7 : lw_okq (⟨"IceLand$Land", "givenBy", "(II)I"⟩, 16) := ⟨⟨by decide +kernel, by decide +kernel⟩, List.mem_of_getElem? (i := 25) (by decide +kernel), List.mem_of_getElem? (i := 411) (by decide +kernel), List.mem_of_getElem? (i := 412) (by decide +kernel)⟩
theorem lw_p8 : lw_okq (⟨"IceLand$Land", "runOff", "(I)V"⟩, 16) := ⟨⟨by decide +kernel, by decide +kernel⟩, List.mem_of_getElem? (i := 25) (by decide +kernel), List.mem_of_getElem? (i := 427) (by decide +kernel), List.mem_of_getElem? (i := 428) (by decide +kernel)⟩
theorem lw_p9 : lw_okq (⟨"IceLand$Land", "potential", "(I)I"⟩, 16) := ⟨⟨by decide +kernel, by decide +kernel⟩, List.mem_of_getElem? (i := 25) (by decide +kernel), List.mem_of_getElem? (i := 431) (by decide +kernel), List.mem_of_getElem? (i := 432) (by decide +kernel)⟩
theorem lw_p10 : lw_okq (⟨"IceLand$Land", "breakOut", "(I)V"⟩, 16) := ⟨⟨by decide +kernel, by decide +kernel⟩, List.mem_of_getElem? (i := 25) (by decide +kernel), List.mem_of_getElem? (i := 435) (by decide +kernel), List.mem_of_getElem? (i := 436) (by decide +kernel)⟩
theorem lw_p11 : lw_okq (⟨"IceLand$Land", "leastIceBeside", "(I)I"⟩, 16) := ⟨⟨by decide +kernel, by decide +kernel⟩, List.mem_of_getElem? (i := 25) (by decide +kernel), List.mem_of_getElem? (i := 439) (by decide +kernel), List.mem_of_getElem? (i := 440) (by decide +kernel)⟩
theorem lw_p12 : lw_okq (⟨"IceLand$Land", "calve", "()V"⟩, 16) := ⟨⟨by decide +kernel, by decide +kernel⟩, List.mem_of_getElem? (i := 25) (by decide +kernel), List.mem_of_getElem? (i := 443) (by decide +kernel), List.mem_of_getElem? (i := 444) (by decide +kernel)⟩
theorem lw_p13 : lw_okq (⟨"IceLand$Land", "moveBed", "(I)V"⟩, 16) := ⟨⟨by decide +kernel, by decide +kernel⟩, List.mem_of_getElem? (i := 25) (by decide +kernel), List.mem_of_getElem? (i := 447) (by decide +kernel), List.mem_of_getElem? (i := 448) (by decide +kernel)⟩
theorem lw_p14 : lw_okq (⟨"IceLand$Land", "markFront", "()V"⟩, 16) := ⟨⟨by decide +kernel, by decide +kernel⟩, List.mem_of_getElem? (i := 25) (by decide +kernel), List.mem_of_getElem? (i := 451) (by decide +kernel), List.mem_of_getElem? (i := 452) (by decide +kernel)⟩
theorem lw_p15 : lw_okq (⟨"IceLand$Land", "hasCrevasse", "(I)Z"⟩, 16) := ⟨⟨by decide +kernel, by decide +kernel⟩, List.mem_of_getElem? (i := 25) (by decide +kernel), List.mem_of_getElem? (i := 474) (by decide +kernel), List.mem_of_getElem? (i := 475) (by decide +kernel)⟩
def lw_privs_1 : List (MethodName × Nat) := [(⟨"java/lang/Throwable", "fillInStackTrace", "(I)Ljava/lang/Throwable;"⟩, 6), (⟨"IceLand", "needNotTooLate", "(I)V"⟩, 4), (⟨"IceLand$Land", "snowOrMelt", "(I)V"⟩, 16), (⟨"IceLand$Land", "surface", "(I)I"⟩, 16), (⟨"IceLand$Land", "standsInSea", "(I)Z"⟩, 16), (⟨"IceLand$Land", "flow", "()V"⟩, 16), (⟨"IceLand$Land", "givenToNext", "(I)I"⟩, 16), (⟨"IceLand$Land", "givenBy", "(II)I"⟩, 16), (⟨"IceLand$Land", "runOff", "(I)V"⟩, 16), (⟨"IceLand$Land", "potential", "(I)I"⟩, 16), (⟨"IceLand$Land", "breakOut", "(I)V"⟩, 16), (⟨"IceLand$Land", "leastIceBeside", "(I)I"⟩, 16), (⟨"IceLand$Land", "calve", "()V"⟩, 16), (⟨"IceLand$Land", "moveBed", "(I)V"⟩, 16), (⟨"IceLand$Land", "markFront", "()V"⟩, 16), (⟨"IceLand$Land", "hasCrevasse", "(I)Z"⟩, 16)]
theorem lw_r1 : ∀ q ∈ lw_privs_1, lw_okq q := List.forall_mem_cons.mpr ⟨lw_p0, List.forall_mem_cons.mpr ⟨lw_p1, List.forall_mem_cons.mpr ⟨lw_p2, List.forall_mem_cons.mpr ⟨lw_p3, List.forall_mem_cons.mpr ⟨lw_p4, List.forall_mem_cons.mpr ⟨lw_p5, List.forall_mem_cons.mpr ⟨lw_p6, List.forall_mem_cons.mpr ⟨lw_p7, List.forall_mem_cons.mpr ⟨lw_p8, List.forall_mem_cons.mpr ⟨lw_p9, List.forall_mem_cons.mpr ⟨lw_p10, List.forall_mem_cons.mpr ⟨lw_p11, List.forall_mem_cons.mpr ⟨lw_p12, List.forall_mem_cons.mpr ⟨lw_p13, List.forall_mem_cons.mpr ⟨lw_p14, List.forall_mem_cons.mpr ⟨lw_p15, fun _ h => absurd h List.not_mem_nil⟩⟩⟩⟩⟩⟩⟩⟩⟩⟩⟩⟩⟩⟩⟩⟩
theorem lw_p16 : lw_okq (⟨"IceLand", "tryOut", "(I)V"⟩, 4) := ⟨⟨by decide +kernel, by decide +kernel⟩, List.mem_of_getElem? (i := 17) (by decide +kernel), List.mem_of_getElem? (i := 542) (by decide +kernel), List.mem_of_getElem? (i := 543) (by decide +kernel)⟩
theorem lw_p17 : lw_okq (⟨"IceLandModel", "iceOf", "(I)I"⟩, 16) := ⟨⟨by decide +kernel, by decide +kernel⟩, List.mem_of_getElem? (i := 579) (by decide +kernel), List.mem_of_getElem? (i := 648) (by decide +kernel), List.mem_of_getElem? (i := 649) (by decide +kernel)⟩
theorem lw_p18 : lw_okq (⟨"IceLandModel", "asked", "(ZZZ)Z"⟩, 16) := ⟨⟨by decide +kernel, by decide +kernel⟩, List.mem_of_getElem? (i := 579) (by decide +kernel), List.mem_of_getElem? (i := 652) (by decide +kernel), List.mem_of_getElem? (i := 653) (by decide +kernel)⟩
theorem lw_p19 : lw_okq (⟨"IceLandModel", "asked", "(Z)Z"⟩, 16) := ⟨⟨by decide +kernel, by decide +kernel⟩, List.mem_of_getElem? (i := 579) (by decide +kernel), List.mem_of_getElem? (i := 660) (by decide +kernel), List.mem_of_getElem? (i := 661) (by decide +kernel)⟩
theorem lw_p20 : lw_okq (⟨"IceLandModel", "asked", "(ZZ)Z"⟩, 16) := ⟨⟨by decide +kernel, by decide +kernel⟩, List.mem_of_getElem? (i := 579) (by decide +kernel), List.mem_of_getElem? (i := 680) (by decide +kernel), List.mem_of_getElem? (i := 681) (by decide +kernel)⟩
theorem lw_p21 : lw_okq (⟨"IceLandModel", "passes", "(I)V"⟩, 16) := ⟨⟨by decide +kernel, by decide +kernel⟩, List.mem_of_getElem? (i := 579) (by decide +kernel), List.mem_of_getElem? (i := 684) (by decide +kernel), List.mem_of_getElem? (i := 685) (by decide +kernel)⟩
theorem lw_p22 : lw_okq (⟨"IceLandModel", "snows", "()V"⟩, 16) := ⟨⟨by decide +kernel, by decide +kernel⟩, List.mem_of_getElem? (i := 579) (by decide +kernel), List.mem_of_getElem? (i := 688) (by decide +kernel), List.mem_of_getElem? (i := 689) (by decide +kernel)⟩
theorem lw_p23 : lw_okq (⟨"IceLandModel", "surfaceOf", "(I)I"⟩, 16) := ⟨⟨by decide +kernel, by decide +kernel⟩, List.mem_of_getElem? (i := 579) (by decide +kernel), List.mem_of_getElem? (i := 692) (by decide +kernel), List.mem_of_getElem? (i := 693) (by decide +kernel)⟩
theorem lw_p24 : lw_okq (⟨"IceLandModel", "isInSea", "(I)Z"⟩, 16) := ⟨⟨by decide +kernel, by decide +kernel⟩, List.mem_of_getElem? (i := 579) (by decide +kernel), List.mem_of_getElem? (i := 696) (by decide +kernel), List.mem_of_getElem? (i := 697) (by decide +kernel)⟩
theorem lw_p25 : lw_okq (⟨"IceLandModel", "flows", "()V"⟩, 16) := ⟨⟨by decide +kernel, by decide +kernel⟩, List.mem_of_getElem? (i := 579) (by decide +kernel), List.mem_of_getElem? (i := 700) (by decide +kernel), List.mem_of_getElem? (i := 701) (by decide +kernel)⟩
theorem lw_p26 : lw_okq (⟨"IceLandModel", "flowOf", "(II)I"⟩, 16) := ⟨⟨by decide +kernel, by decide +kernel⟩, List.mem_of_getElem? (i := 579) (by decide +kernel), List.mem_of_getElem? (i := 704) (by decide +kernel), List.mem_of_getElem? (i := 705) (by decide +kernel)⟩
theorem lw_p27 : lw_okq (⟨"IceLandModel", "runs", "()V"⟩, 16) := ⟨⟨by decide +kernel, by decide +kernel⟩, List.mem_of_getElem? (i := 579) (by decide +kernel), List.mem_of_getElem? (i := 710) (by decide +kernel), List.mem_of_getElem? (i := 711) (by decide +kernel)⟩
theorem lw_p28 : lw_okq (⟨"IceLandModel", "potentialOf", "(I)I"⟩, 16) := ⟨⟨by decide +kernel, by decide +kernel⟩, List.mem_of_getElem? (i := 579) (by decide +kernel), List.mem_of_getElem? (i := 714) (by decide +kernel), List.mem_of_getElem? (i := 715) (by decide +kernel)⟩
theorem lw_p29 : lw_okq (⟨"IceLandModel", "breaks", "()V"⟩, 16) := ⟨⟨by decide +kernel, by decide +kernel⟩, List.mem_of_getElem? (i := 579) (by decide +kernel), List.mem_of_getElem? (i := 718) (by decide +kernel), List.mem_of_getElem? (i := 719) (by decide +kernel)⟩
theorem lw_p30 : lw_okq (⟨"IceLandModel", "least", "(I)I"⟩, 16) := ⟨⟨by decide +kernel, by decide +kernel⟩, List.mem_of_getElem? (i := 579) (by decide +kernel), List.mem_of_getElem? (i := 722) (by decide +kernel), List.mem_of_getElem? (i := 723) (by decide +kernel)⟩
theorem lw_p31 : lw_okq (⟨"IceLandModel", "calves", "()V"⟩, 16) := ⟨⟨by decide +kernel, by decide +kernel⟩, List.mem_of_getElem? (i := 579) (by decide +kernel), List.mem_of_getElem? (i := 726) (by decide +kernel), List.mem_of_getElem? (i := 727) (by decide +kernel)⟩
def lw_privs_2 : List (MethodName × Nat) := [(⟨"IceLand", "tryOut", "(I)V"⟩, 4), (⟨"IceLandModel", "iceOf", "(I)I"⟩, 16), (⟨"IceLandModel", "asked", "(ZZZ)Z"⟩, 16), (⟨"IceLandModel", "asked", "(Z)Z"⟩, 16), (⟨"IceLandModel", "asked", "(ZZ)Z"⟩, 16), (⟨"IceLandModel", "passes", "(I)V"⟩, 16), (⟨"IceLandModel", "snows", "()V"⟩, 16), (⟨"IceLandModel", "surfaceOf", "(I)I"⟩, 16), (⟨"IceLandModel", "isInSea", "(I)Z"⟩, 16), (⟨"IceLandModel", "flows", "()V"⟩, 16), (⟨"IceLandModel", "flowOf", "(II)I"⟩, 16), (⟨"IceLandModel", "runs", "()V"⟩, 16), (⟨"IceLandModel", "potentialOf", "(I)I"⟩, 16), (⟨"IceLandModel", "breaks", "()V"⟩, 16), (⟨"IceLandModel", "least", "(I)I"⟩, 16), (⟨"IceLandModel", "calves", "()V"⟩, 16)]
theorem lw_r2 : ∀ q ∈ lw_privs_2, lw_okq q := List.forall_mem_cons.mpr ⟨lw_p16, List.forall_mem_cons.mpr ⟨lw_p17, List.forall_mem_cons.mpr ⟨lw_p18, List.forall_mem_cons.mpr ⟨lw_p19, List.forall_mem_cons.mpr ⟨lw_p20, List.forall_mem_cons.mpr ⟨lw_p21, List.forall_mem_cons.mpr ⟨lw_p22, List.forall_mem_cons.mpr ⟨lw_p23, List.forall_mem_cons.mpr ⟨lw_p24, List.forall_mem_cons.mpr ⟨lw_p25, List.forall_mem_cons.mpr ⟨lw_p26, List.forall_mem_cons.mpr ⟨lw_p27, List.forall_mem_cons.mpr ⟨lw_p28, List.forall_mem_cons.mpr ⟨lw_p29, List.forall_mem_cons.mpr ⟨lw_p30, List.forall_mem_cons.mpr ⟨lw_p31, fun _ h => absurd h List.not_mem_nil⟩⟩⟩⟩⟩⟩⟩⟩⟩⟩⟩⟩⟩⟩⟩⟩
theorem lw_p32 : lw_okq (⟨"IceLandModel", "ends", "()V"⟩, 16) := ⟨⟨by decide +kernel, by decide +kernel⟩, List.mem_of_getElem? (i := 579) (by decide +kernel), List.mem_of_getElem? (i := 730) (by decide +kernel), List.mem_of_getElem? (i := 731) (by decide +kernel)⟩
theorem lw_p33 : lw_okq (⟨"IceLandModel", "allIce", "()I"⟩, 16) := ⟨⟨by decide +kernel, by decide +kernel⟩, List.mem_of_getElem? (i := 579) (by decide +kernel), List.mem_of_getElem? (i := 734) (by decide +kernel), List.mem_of_getElem? (i := 735) (by decide +kernel)⟩
theorem lw_p34 : lw_okq (⟨"IceLandModel", "tells", "(II)I"⟩, 16) := ⟨⟨by decide +kernel, by decide +kernel⟩, List.mem_of_getElem? (i := 579) (by decide +kernel), List.mem_of_getElem? (i := 742) (by decide +kernel), List.mem_of_getElem? (i := 743) (by decide +kernel)⟩
theorem lw_p35 : lw_okq (⟨"IceLandModel", "keeps", "(Z)V"⟩, 16) := ⟨⟨by decide +kernel, by decide +kernel⟩, List.mem_of_getElem? (i := 579) (by decide +kernel), List.mem_of_getElem? (i := 782) (by decide +kernel), List.mem_of_getElem? (i := 783) (by decide +kernel)⟩
def lw_privs_3 : List (MethodName × Nat) := [(⟨"IceLandModel", "ends", "()V"⟩, 16), (⟨"IceLandModel", "allIce", "()I"⟩, 16), (⟨"IceLandModel", "tells", "(II)I"⟩, 16), (⟨"IceLandModel", "keeps", "(Z)V"⟩, 16)]
theorem lw_r3 : ∀ q ∈ lw_privs_3, lw_okq q := List.forall_mem_cons.mpr ⟨lw_p32, List.forall_mem_cons.mpr ⟨lw_p33, List.forall_mem_cons.mpr ⟨lw_p34, List.forall_mem_cons.mpr ⟨lw_p35, fun _ h => absurd h List.not_mem_nil⟩⟩⟩⟩
def lw_privs : List (MethodName × Nat) := lw_privs_1 ++ (lw_privs_2 ++ (lw_privs_3))
def lw_tbl : List Cond := k2_sels lw_privs ++ tables_1
theorem lw_privs_ok : ∀ q ∈ lw_privs, lw_okq q := by
  show ∀ q ∈ lw_privs_1 ++ (lw_privs_2 ++ (lw_privs_3)), lw_okq q
  exact List.forall_mem_append.mpr ⟨lw_r1, List.forall_mem_append.mpr ⟨lw_r2, lw_r3⟩⟩
end
section
/-! ===== BEGIN words of one list among another's, by their places ===== -/
theorem goodIn_r {big : List Cond} (ws : List Cond) (ps : List Nat) (hp : ws = ps.filterMap (fun i => big[i]?)) (h : ws.all goodWord = true) : GoodIn big ws := by
  intro w hw
  have h1 := List.all_eq_true.mp h w hw
  rw [hp] at hw
  obtain ⟨i, -, hi⟩ := List.mem_filterMap.mp hw
  have hm : w ∈ big := by first | exact List.mem_of_getElem? hi | exact List.getElem?_mem hi
  exact ⟨hm, good_of_word h1⟩
theorem goodIn_app {big a b : List Cond} (ha : GoodIn big a) (hb : GoodIn big b) : GoodIn big (a ++ b) := fun w h => (List.mem_append.mp h).elim (ha w) (hb w)
theorem goodIn_ca {big a b : List Cond} {c : Cond} (ha : GoodIn big (c :: a)) (hb : GoodIn big b) : GoodIn big (c :: (a ++ b)) := fun w h => (List.mem_cons.mp h).elim (fun e => ha w (List.mem_cons.mpr (Or.inl e))) (fun h => (List.mem_append.mp h).elim (fun h => ha w (List.mem_cons.mpr (Or.inr h))) (hb w))
theorem goodIn_sub {big ws : List Cond} (hm : ∀ w ∈ ws, w ∈ big) (h : ws.all goodWord = true) : GoodIn big ws := fun w hw => ⟨hm w hw, good_of_word (List.all_eq_true.mp h w hw)⟩
/-! ===== END ===== -/

/-! ===== BEGIN exceptions that leave a method, and their catching by the caller (launches without stack traces) ===== -/
section VXA
/-! The laws vx_back, vx_callV, vx_callS, vx_callSW, vx_throw0, vx_throwS follow proofs of the library, with one case more: JvmDerived/Free/Laws.lean (Back.of_free), Shelf42/LK1.lean (callV, callS), Shelf/KitTraced.lean (throwNew0V, throwNewS). -/
/-- where a method has thrown q: the class by its name, the cell, what was written, the world -/
def vx_T (XC : String → State → State → Prop) (st : State) (q : Addr) (t : State) (mc ms : Nat) (free : Addr → Prop) : Prop :=
  ∃ (E : String) (ce : Cell) (L : List Loc), XC E st t ∧ t.heap[q]? = some ce ∧ ce.vm = .none ∧ st.vm.findClass E = some ce.cls ∧ st.WarmedH t.vm ∧ st.sameButNew ({ t with vm := st.vm } : State) L mc ms ∧ ∀ z ∈ L, free z.base
def vx_Q (Qc : Array Value → State → Outcome → State → Prop) (XC : String → State → State → Prop) (mc ms : Nat) (free : Addr → Prop) : Array Value → State → Outcome → State → Prop := fun a st o t =>
  (Qc a st o t ∧ ∃ L, FrameEnd st o t L mc ms ∧ ∀ q ∈ L, free q.base) ∨ ∃ q, o = .threw q ∧ vx_T XC st q t mc ms free
/-- a callee that returns or throws -/
def vx_Met (l : Launch) (y : MethodName) (ws : List Cond) (rm : Room) (Pc : Array Value → State → Prop) (Qc : Array Value → State → Outcome → State → Prop) (XC : String → State → State → Prop) (mc ms : Nat) (free : Addr → Prop) : Prop :=
  MetFree l y (headSpec ws rm) Pc (fun _ _ _ _ _ => True) (vx_Q Qc XC mc ms free)
def vx_Post (XC : String → State → State → Prop) (mc ms : Nat) (free : Addr → Prop) : Pt → Array Value → Addr → Pt → Prop := fun A a q B =>
  ∃ (g : JFrame) (mk : MethodId) (t : State) (L : List Loc) (E : String) (ce : Cell), B.U.heap = t.heap ∧ B.U.vm = t.vm ∧ XC E (A.U.calling g mk a) t ∧ t.heap[q]? = some ce ∧ ce.vm = .none ∧ A.U.vm.findClass E = some ce.cls ∧ B.locs = A.locs ++ L ∧ (∀ z ∈ L, free z.base) ∧ B.cells = A.cells + mc ∧ B.slots = A.slots + ms
def vx_Back (l : Launch) (R : Room) (p : Program) (e : Env) (below : List Frame) (s : State) (sargs : Array Value) (y : MethodName) (len W9 : Nat)
    (Pre : Pt → Array Value → Prop) (Post : Pt → Array Value → Option Value → Pt → Prop) (PostX : Pt → Array Value → Addr → Pt → Prop) : Prop :=
  ∀ (m : MethodId) (meth : Method) (c : Code) (A : Pt) (g : JFrame) (ig : Instr) (mk : MethodId) (a : Array Value),
    Stand p l e R s m sargs below meth c A.U A.locs A.cells A.slots → g.method = m → g.locals.size = c.maxLocals → decode c.code g.pc = .ok (ig, len) →
    2 * g.monitorRoom + (g.stack.map fun v => v.category).sum ≤ W9 → A.U.methodNamed? y = some mk → Pre A a →
    (∃ (v : Option Value) (B : Pt), Stand p l e R s m sargs below meth c B.U B.locs B.cells B.slots ∧ Post A a v B ∧
      Steps p.tables e below (doInvoke e (A.U.setTop g) [] mk a).1 (B.U.setTop { g with pc := g.pc + len, stack := v.toList ++ g.stack })) ∨
    (∃ (q : Addr) (B : Pt), Stand p l e R s m sargs below meth c B.U B.locs B.cells B.slots ∧ PostX A a q B ∧
      Steps p.tables e below (doInvoke e (A.U.setTop g) [] mk a).1 ((B.U.setTop g).pushFrame (.throwing q)))
section Payer
variable {l : Launch} {R : Room} {p : Program} {e : Env} {below : List Frame} {s : State} {sargs : Array Value} {y : MethodName} {len W9 : Nat}
theorem vx_back {ws : List Cond} {rm : Room} {Pc : Array Value → State → Prop} {Qc : Array Value → State → Outcome → State → Prop} {XC : String → State → State → Prop} {mc ms : Nat} {free : Addr → Prop} {bytes : ByteArray} {maxL : Nat} {ret : Option FieldType}
    (hM : vx_Met l y ws rm Pc Qc XC mc ms free) (hblind : FrameBlind Pc) (hrc : rm.cells = mc) (hrs : rm.slots = ms)
    (hframes : rm.frames + 1 ≤ R.frames) (hlocals : W9 + (maxL + 11) + rm.locals ≤ R.locals)
    (hws : ∀ w ∈ ws, ∀ a' U, s.WarmedH U.vm → w.before a' U = true) (hcode : Cond.code y bytes maxL ret ∈ ws) (hinit : ∀ a' U, s.WarmedH U.vm → (Cond.initialized y.cls).before a' U = true) :
    vx_Back l R p e below s sargs y len W9 (PreOf R mc ms Pc) (PostOf Qc mc ms free) (vx_Post XC mc ms free) := by
  intro m meth c A g ig mk a X hg hsize hdg hW hn hp
  have h1 : (headSpec ws rm).pre.before a A.U = true := atoms_intro fun w hw => hws w hw _ _ X.warmed
  have h2 : (Cond.code y bytes maxL ret).before a A.U = true := hws _ hcode _ _ X.warmed
  have h3 : (Cond.initialized y.cls).before a A.U = true := hinit _ _ X.warmed
  have h4 : A.cells + (headSpec ws rm).room.cells ≤ R.cells := by rw [show (headSpec ws rm).room.cells = mc from hrc]; exact hp.1
  have h5 : A.slots + (headSpec ws rm).room.slots ≤ R.slots := by rw [show (headSpec ws rm).room.slots = ms from hrs]; exact hp.2.1
  have hPc : Pc a (A.U.calling g mk a) := hblind _ _ _ _ hp.2.2
  obtain ⟨U, Ls, c0, s0⟩ := A
  dsimp only [Pt.U, Pt.locs, Pt.cells, Pt.slots] at h1 h2 h3 h4 h5 X hn hPc ⊢
  obtain ⟨methY, cY, hmY, hcY, -, hlY, -, -, -, -⟩ := Cond.code_spec hn h2
  obtain ⟨kY, hkY, -⟩ := className_of_methodNamed hn
  have hinitY : kY.init = .initialized := Cond.initialized_spec (findClass_of_methodNamed hn) hkY h3
  have h : At U g.method c below := by rw [hg]; exact X.here
  have hlocals9 : W9 + (maxL + 11) + (headSpec ws rm).room.locals ≤ R.locals := hlocals
  have happ : (headSpec ws rm).appliesLoose y e.platform (U.calling g mk a) = true :=
    Spec.appliesLoose_calling (g := g) h hdg hn hkY hinitY
      (X.room_calling (g := g) (R' := (headSpec ws rm).room) hsize hmY hcY hframes (by rw [hlY]; omega) h4 h5) h1
  obtain ⟨mid, hmid⟩ := h.above
  have hfr : (U.setTop g).frames = (.java g :: mid) ++ below := by rw [State.frames_setTop' g h.top, hmid]; rfl
  obtain ⟨o, s₂, hsteps, -, hend, hq⟩ := Steps.callFree hM p X.admits X.cas X.clock (acts := []) hfr happ hPc trivial
  have hq' : vx_Q Qc XC mc ms free a (U.calling g mk a) o s₂ := hq
  rw [State.frames_setTop' g h.top] at hend
  obtain ⟨g₀, hg0⟩ := Option.isSome_iff_exists.mp h.top
  obtain ⟨r, hr⟩ := State.topJava?_eq_some.mp hg0
  have hr' : (({ U with heap := s₂.heap, slotsUsed := s₂.slotsUsed } : State).setVm s₂.vm).frames = .java g₀ :: r := hr
  rcases hq' with ⟨hqc, L, hfe, hL⟩ | ⟨q, rfl, E, ce, L, hx, hce, hcv, hcl, hW₂, hsm, hL⟩
  · obtain ⟨⟨v, rfl⟩, hW₂, e2, q2, q3, q4, q5, q6⟩ := id hfe
    have e3 : s₂ = ({ (U.calling g mk a).setFrames s₂.frames with heap := s₂.heap, slotsUsed := s₂.slotsUsed } : State).setVm s₂.vm := by
      have : s₂ = ({ s₂ with vm := (U.calling g mk a).vm } : State).setVm s₂.vm := rfl
      rw [e2] at this
      exact this
    obtain ⟨c₂, i₂, len₂, hc₂, hd₂, hf₂⟩ := hend
    have hW' : U.WarmedH s₂.vm := hW₂
    have hcc : c₂ = c := by
      have h1 : s₂.code? g.method = U.code? g.method := by
        rw [State.code?_eq, State.code?_eq, hW'.alike.method?]
      exact Option.some.inj (hc₂.symm.trans (h1.trans h.code))
    subst hcc
    have hlen : len₂ = len := by rw [hdg] at hd₂; cases hd₂; rfl
    subst hlen
    have hs₂ : s₂ = (({ U with heap := s₂.heap, slotsUsed := s₂.slotsUsed } : State).setVm s₂.vm).setTop { g with pc := g.pc + len₂, stack := v.toList ++ g.stack } := by
      refine e3.trans ?_
      rw [hf₂, State.calling_eq h.top, State.setFrames_setFrames, State.setTop_of_frames _ hr', hr]
      rfl
    have hsame : U.sameButNew ({ U with heap := s₂.heap, slotsUsed := s₂.slotsUsed } : State) L mc ms := by
      refine ⟨?_, q2, q3, q4, q5, q6⟩
      obtain ⟨t, ht, -⟩ := State.frames_cons hr
      show ({ U with heap := s₂.heap, slotsUsed := s₂.slotsUsed } : State) = { U.setFrames U.frames with heap := s₂.heap, slotsUsed := s₂.slotsUsed }
      rw [State.setFrames_self ht]
    subst hg
    refine Or.inl ⟨v, ⟨(({ U with heap := s₂.heap, slotsUsed := s₂.slotsUsed } : State).setVm s₂.vm), Ls ++ L, c0 + mc, s0 + ms⟩,
      ⟨X.admits, X.cas, X.clock, X.frames, X.room, X.hears, X.method, X.code, (X.here.setHeapUsed s₂.heap s₂.slotsUsed).setVm hW'.alike, X.tail, State.WarmedH.trans X.warmed hW', X.limits, X.bytes, X.same.trans (hsame.setVm s.vm)⟩,
      ⟨g, mk, s₂, L, rfl, rfl, hqc, rfl, hL, rfl, rfl⟩, ?_⟩
    show Steps p.tables e below _ ((({ U with heap := s₂.heap, slotsUsed := s₂.slotsUsed } : State).setVm s₂.vm).setTop { g with pc := g.pc + len₂, stack := v.toList ++ g.stack })
    rw [← hs₂]
    exact hsteps
  · obtain ⟨e2, q2, q3, q4, q5, q6⟩ := id hsm
    have e3 : s₂ = ({ (U.calling g mk a).setFrames s₂.frames with heap := s₂.heap, slotsUsed := s₂.slotsUsed } : State).setVm s₂.vm := by
      have : s₂ = ({ s₂ with vm := (U.calling g mk a).vm } : State).setVm s₂.vm := rfl
      rw [e2] at this
      exact this
    have hf₂ : s₂.frames = .throwing q :: .java g :: U.frames.tail := hend
    have hW' : U.WarmedH s₂.vm := hW₂
    have hs₂ : s₂ = ((({ U with heap := s₂.heap, slotsUsed := s₂.slotsUsed } : State).setVm s₂.vm).setTop g).pushFrame (.throwing q) := by
      refine e3.trans ?_
      rw [hf₂, State.calling_eq h.top, State.setFrames_setFrames, State.pushFrame, State.frames_setTop _ hr', State.setTop_of_frames _ hr', State.setFrames_setFrames, hr]
      rfl
    have hsame : U.sameButNew ({ U with heap := s₂.heap, slotsUsed := s₂.slotsUsed } : State) L mc ms := by
      refine ⟨?_, q2, q3, q4, q5, q6⟩
      obtain ⟨t, ht, -⟩ := State.frames_cons hr
      show ({ U with heap := s₂.heap, slotsUsed := s₂.slotsUsed } : State) = { U.setFrames U.frames with heap := s₂.heap, slotsUsed := s₂.slotsUsed }
      rw [State.setFrames_self ht]
    subst hg
    refine Or.inr ⟨q, ⟨(({ U with heap := s₂.heap, slotsUsed := s₂.slotsUsed } : State).setVm s₂.vm), Ls ++ L, c0 + mc, s0 + ms⟩,
      ⟨X.admits, X.cas, X.clock, X.frames, X.room, X.hears, X.method, X.code, (X.here.setHeapUsed s₂.heap s₂.slotsUsed).setVm hW'.alike, X.tail, State.WarmedH.trans X.warmed hW', X.limits, X.bytes, X.same.trans (hsame.setVm s.vm)⟩,
      ⟨g, mk, s₂, L, E, ce, rfl, rfl, hx, hce, hcv, hcl, rfl, hL, rfl, rfl⟩, ?_⟩
    show Steps p.tables e below _ (((({ U with heap := s₂.heap, slotsUsed := s₂.slotsUsed } : State).setVm s₂.vm).setTop g).pushFrame (.throwing q))
    rw [← hs₂]
    exact hsteps
end Payer
section Calls
variable {p : Program} {l : Launch} {e : Env} {R : Room} {s : State} {m : MethodId} {args : Array Value} {below : List Frame} {meth : Method} {c : Code} {T : State} {locs : List Loc} {cells slots : Nat}
theorem vx_callV (X : Stand p l e R s m args below meth c T locs cells slots) (hexec : p.tables.exec = Jvm.exec) {own C : String} {index : Nat} {y : MethodName} {bytes : ByteArray} {maxL : Nat} {ret : Option FieldType}
    (hown : s.vm.findClass own = some m.cls) (hlink : (Cond.methodLink own index y).before args s = true) (hinst : (Cond.instanceMethod y).before args s = true) (hsel : (Cond.selects C y y).before args s = true)
    (hcode : (Cond.code y bytes maxL ret).before args s = true) (hy : y.cls ≠ "java/lang/invoke/MethodHandle" ∧ y.cls ≠ "java/lang/invoke/VarHandle")
    {W9 : Nat} {Pre : Pt → Array Value → Prop} {Post : Pt → Array Value → Option Value → Pt → Prop} {PostX : Pt → Array Value → Addr → Pt → Prop} (hK : vx_Back l R p e below s args y 3 W9 Pre Post PostX)
    {b : Addr} {cellB : Cell} (hcell : T.heap[b]? = some cellB) (hobj : cellB.vm.isStatics = false) (hcls : s.vm.findClass C = some cellB.cls)
    {g : JFrame} (hg : g.method = m) (hsize : g.locals.size = c.maxLocals) {argsL rest : List Value} (hlen : ∀ sig, parseMethodDescriptor y.desc = some sig → argsL.length = sig.parameters.length)
    (hstack : g.stack = argsL.reverse ++ .ref b :: rest) (hW : 2 * g.monitorRoom + (rest.map fun v => v.category).sum ≤ W9) (hdg : decode c.code g.pc = .ok (.invokevirtual index, 3))
    (hpre : ∀ vm₁, s.WarmedH vm₁ → Pre ⟨T.setVm vm₁, locs, cells, slots⟩ (Value.ref b :: argsL).toArray) :
    (∃ (v : Option Value) (vm₁ : Vm) (B : Pt), s.WarmedH vm₁ ∧ Stand p l e R s m args below meth c B.U B.locs B.cells B.slots ∧ Post ⟨T.setVm vm₁, locs, cells, slots⟩ (Value.ref b :: argsL).toArray v B ∧
      ∀ target, Steps p.tables e below (B.U.setTop { g with pc := g.pc + 3, stack := v.toList ++ rest }) target → Steps p.tables e below (T.setTop g) target) ∨
    (∃ (q : Addr) (vm₁ : Vm) (B : Pt), s.WarmedH vm₁ ∧ Stand p l e R s m args below meth c B.U B.locs B.cells B.slots ∧ PostX ⟨T.setVm vm₁, locs, cells, slots⟩ (Value.ref b :: argsL).toArray q B ∧
      Steps p.tables e below (T.setTop g) ((B.U.setTop { g with stack := rest }).pushFrame (.throwing q))) := by
  obtain ⟨mk, methM, hnamed, hmethM, hstM, habM⟩ := Cond.instanceMethod_spec hinst
  obtain ⟨methM', cM, hmethM', -, -, -, -, -, -, hsigM⟩ := Cond.code_spec hnamed hcode
  cases hmethM.symm.trans hmethM'
  obtain ⟨c2, r2, m2, q1, q2, q3, q4, kP, hkP, hkPi⟩ := Cond.selects_spec hsel
  cases hcls.symm.trans q1
  cases (State.methodFound?_of_named hnamed hy).symm.trans q2
  cases hnamed.symm.trans q3
  have hselP : selectMethod e.platform s.vm cellB.cls mk = .method mk := by rw [Launch.admits_selectMethod X.admits]; exact q4
  obtain ⟨vm₁, X₁, hstep₁⟩ := X.invokevirtual hexec hown hlink hnamed hmethM hstM hkP hkPi hy (a := b) (cell := cellB) hcell
    (fun z h => by rw [h] at hobj; cases hobj) hselP hmethM habM hkP hkPi (g := g) hg (argsL := argsL) (rest := rest) (hlen _ hsigM) hstack hdg
  rcases hK m meth c ⟨T.setVm vm₁, locs, cells, slots⟩ { g with stack := rest } (.invokevirtual index) mk (Value.ref b :: argsL).toArray X₁ hg hsize hdg hW (X₁.named hnamed) (hpre vm₁ X₁.warmed) with ⟨v, B, X', hpost, hsteps⟩ | ⟨q, B, X', hpost, hsteps⟩
  · exact Or.inl ⟨v, vm₁, B, X₁.warmed, X', hpost, fun target h => hstep₁ _ fun acts => by rw [doInvoke_state]; exact hsteps.trans h⟩
  · exact Or.inr ⟨q, vm₁, B, X₁.warmed, X', hpost, hstep₁ _ fun acts => by rw [doInvoke_state]; exact hsteps⟩
theorem vx_callS (X : Stand p l e R s m args below meth c T locs cells slots) (hexec : p.tables.exec = Jvm.exec) {own : String} {index : Nat} {y : MethodName} {bytes : ByteArray} {maxL : Nat} {ret : Option FieldType}
    (hown : s.vm.findClass own = some m.cls) (hlink : (Cond.methodLink own index y).before args s = true) (hstat : (Cond.static y).before args s = true) (hinit : (Cond.initialized y.cls).before args s = true)
    (hcode : (Cond.code y bytes maxL ret).before args s = true) (hy : y.cls ≠ "java/lang/invoke/MethodHandle" ∧ y.cls ≠ "java/lang/invoke/VarHandle")
    {W9 : Nat} {Pre : Pt → Array Value → Prop} {Post : Pt → Array Value → Option Value → Pt → Prop} {PostX : Pt → Array Value → Addr → Pt → Prop} (hK : vx_Back l R p e below s args y 3 W9 Pre Post PostX)
    {g : JFrame} (hg : g.method = m) (hsize : g.locals.size = c.maxLocals) {argsL rest : List Value} (hlen : ∀ sig, parseMethodDescriptor y.desc = some sig → argsL.length = sig.parameters.length)
    (hstack : g.stack = argsL.reverse ++ rest) (hW : 2 * g.monitorRoom + (rest.map fun v => v.category).sum ≤ W9) (hdg : decode c.code g.pc = .ok (.invokestatic index, 3))
    (hpre : ∀ vm₁, s.WarmedH vm₁ → Pre ⟨T.setVm vm₁, locs, cells, slots⟩ argsL.toArray) :
    (∃ (v : Option Value) (vm₁ : Vm) (B : Pt), s.WarmedH vm₁ ∧ Stand p l e R s m args below meth c B.U B.locs B.cells B.slots ∧ Post ⟨T.setVm vm₁, locs, cells, slots⟩ argsL.toArray v B ∧
      ∀ target, Steps p.tables e below (B.U.setTop { g with pc := g.pc + 3, stack := v.toList ++ rest }) target → Steps p.tables e below (T.setTop g) target) ∨
    (∃ (q : Addr) (vm₁ : Vm) (B : Pt), s.WarmedH vm₁ ∧ Stand p l e R s m args below meth c B.U B.locs B.cells B.slots ∧ PostX ⟨T.setVm vm₁, locs, cells, slots⟩ argsL.toArray q B ∧
      Steps p.tables e below (T.setTop g) ((B.U.setTop { g with stack := rest }).pushFrame (.throwing q))) := by
  obtain ⟨mk, hnamed⟩ := Cond.code_named hcode
  obtain ⟨methM, cM, hmethM, -, -, -, -, -, -, hsigM⟩ := Cond.code_spec hnamed hcode
  have hstatic : methM.isStatic = true := Cond.static_spec hnamed hmethM hstat
  obtain ⟨kP, hkP, -⟩ := className_of_methodNamed hnamed
  have hinitP : kP.init = .initialized := Cond.initialized_spec (findClass_of_methodNamed hnamed) hkP hinit
  obtain ⟨vm₁, X₁, hstep₁⟩ := X.invokestatic hexec hown hlink hnamed hmethM hstatic hkP hinitP hy (g := g) hg (argsL := argsL) (rest := rest) (hlen _ hsigM) hstack hdg
  rcases hK m meth c ⟨T.setVm vm₁, locs, cells, slots⟩ { g with stack := rest } (.invokestatic index) mk argsL.toArray X₁ hg hsize hdg hW (X₁.named hnamed) (hpre vm₁ X₁.warmed) with ⟨v, B, X', hpost, hsteps⟩ | ⟨q, B, X', hpost, hsteps⟩
  · exact Or.inl ⟨v, vm₁, B, X₁.warmed, X', hpost, fun target h => hstep₁ _ fun acts => by rw [doInvoke_state]; exact hsteps.trans h⟩
  · exact Or.inr ⟨q, vm₁, B, X₁.warmed, X', hpost, hstep₁ _ fun acts => by rw [doInvoke_state]; exact hsteps⟩
end Calls
theorem vx_cls {s : State} {T : State} {vm₁ : Vm} {E : String} {k : ClassId} (hW : s.WarmedH vm₁) (h : (T.setVm vm₁).vm.findClass E = some k) : s.vm.findClass E = some k := by
  have h1 : vm₁.findClass E = some k := h
  rw [hW.alike.findClass] at h1
  exact h1
/-- the method's frame g, with q thrown over it -/
def vx_W (p : Program) (l : Launch) (e : Env) (R : Room) (s : State) (m : MethodId) (args : Array Value) (below : List Frame) (meth : Method) (c : Code) (H : Heap) (locs : List Loc) (cells slots : Nat) (Q : State → Prop) (g : JFrame) (q : Addr) : Prop :=
  ∀ T : State, T.heap = H → Stand p l e R s m args below meth c T locs cells slots → ∃ t, Steps p.tables e below ((T.setTop g).pushFrame (.throwing q)) t ∧ Q t
def vx_Run (p : Program) (l : Launch) (e : Env) (R : Room) (s : State) (m : MethodId) (args : Array Value) (below : List Frame) (meth : Method) (c : Code) (H : Heap) (locs : List Loc) (cells slots mc ms : Nat) (g : JFrame) (rest : List Value) (Qa : State → Outcome → State → Prop) (XC : String → State → State → Prop) (free : Addr → Prop) : Prop :=
  ∀ T : State, T.heap = H → Stand p l e R s m args below meth c T locs cells slots →
    (∃ (v : Option Value) (st₀ t T' : State) (L : List Loc), st₀.heap = H ∧ Stand p l e R s m args below meth c T' (locs ++ L) (cells + mc) (slots + ms) ∧ (∀ q ∈ L, free q.base) ∧ T'.heap = t.heap ∧ T'.vm = t.vm ∧ Qa st₀ (.returned v) t ∧
      Goes p e below T g T' { g with pc := g.pc + 3, stack := v.toList ++ rest }) ∨
    (∃ (q : Addr) (st₀ t T' : State) (L : List Loc) (E : String) (ce : Cell), st₀.heap = H ∧ Stand p l e R s m args below meth c T' (locs ++ L) (cells + mc) (slots + ms) ∧ (∀ z ∈ L, free z.base) ∧ T'.heap = t.heap ∧ T'.vm = t.vm ∧ XC E st₀ t ∧ t.heap[q]? = some ce ∧ ce.vm = .none ∧ s.vm.findClass E = some ce.cls ∧
      Steps p.tables e below (T.setTop g) ((T'.setTop { g with stack := rest }).pushFrame (.throwing q)))
def vx_X {S : Type} (px : S → Prop) (B : String → S → State → Prop) (A : Nat → Prop) : String → State → State → Prop := fun E st t => ∃ u : S, px u ∧ B E u t ∧ va_F A st t
section Runs
variable {p : Program} {l : Launch} {e : Env} {R : Room} {s : State} {m : MethodId} {args : Array Value} {below : List Frame} {meth : Method} {c : Code} {H : Heap} {locs : List Loc} {cells slots : Nat}
variable {y : MethodName} {bytes cc : ByteArray} {maxL nL mc ms n index : Nat} {ret : Option FieldType} {ws : List Cond} {rm : Room} {Pc : Array Value → State → Prop} {Qc : Array Value → State → Outcome → State → Prop} {XC : String → State → State → Prop} {free : Addr → Prop} {Ts : List Cond} {own C : String} {b : Addr} {As rest : List Value} {g : JFrame}
theorem vx_callBack (cb : CallB R s args own index y bytes maxL ret ws rm mc ms n) (hM : vx_Met l y ws rm Pc Qc XC mc ms free) (hbl : FrameBlind Pc) : vx_Back l R p e below s args y 3 8 (PreOf R mc ms Pc) (PostOf Qc mc ms free) (vx_Post XC mc ms free) := by
  obtain ⟨hrc, hrs, hfr, hlo, hws, hcw, -, hini, -⟩ := cb
  exact vx_back (bytes := bytes) (maxL := maxL) (ret := ret) hM hbl hrc hrs hfr hlo hws hcw (fun a' U hW => word_at hW (Or.inl (by first | rfl | simp [Cond.onTables, Cond.keeps, Cond.steady])) hini)
theorem vx_runV (S : CallFix p m c cc nL s args Ts own) (hM : vx_Met l y ws rm Pc Qc XC mc ms free) (cw : CallW R s args own C index y bytes maxL ret ws rm mc ms n) (hp : PreV s H C b Pc As)
    (hg : g.method = m) (hn : As.length = n) (hsize : g.locals.size = nL) (hstack : g.stack = As.reverse ++ .ref b :: rest) (hW : 2 * g.monitorRoom + (rest.map fun v => v.category).sum ≤ 8) (hdg : decode cc g.pc = .ok (.invokevirtual index, 3)) (hf : cells + mc ≤ R.cells ∧ slots + ms ≤ R.slots) :
    vx_Run p l e R s m args below meth c H locs cells slots mc ms g rest (Qc (Value.ref b :: As).toArray) XC free := by
  have hK : vx_Back l R p e below s args y 3 8 (PreOf R mc ms Pc) (PostOf Qc mc ms free) (vx_Post XC mc ms free) := vx_callBack cw.1 hM hp.1
  obtain ⟨⟨-, -, -, -, -, -, hcode, -, hy, hlen, hl⟩, hin, hse⟩ := cw
  obtain ⟨hx, hb, hml, ho, -⟩ := S
  obtain ⟨-, ⟨cellB, hcB, hoB, hclB⟩, hPc⟩ := hp
  intro T hT X
  rcases vx_callV X hx (C := C) (bytes := bytes) (maxL := maxL) (ret := ret) ho hl hin hse hcode hy hK (by rw [hT]; exact hcB) hoB hclB hg (hsize.trans hml.symm) (argsL := As) (rest := rest) (fun sig h => hn.trans (hlen sig h)) hstack hW (by rw [hb]; exact hdg)
    (fun vm₁ hW₁ => ⟨hf.1, hf.2, hPc (T.setVm vm₁) hT hW₁⟩) with ⟨v, vm₁, ⟨U', l2, c2, s2⟩, hW₁, X', ⟨g', mk, t, L, e1, e2, hq, h1, hL, h2, h3⟩, st⟩ | ⟨q, vm₁, ⟨U', l2, c2, s2⟩, hW₁, X', ⟨g', mk, t, L, E, ce, e1, e2, hq, hce, hcv, hcl, h1, hL, h2, h3⟩, st⟩
  · dsimp only [Pt.U, Pt.locs, Pt.cells, Pt.slots] at X' e1 e2 h1 h2 h3 st
    subst h1; subst h2; subst h3
    exact Or.inl ⟨v, (T.setVm vm₁).calling g' mk (Value.ref b :: As).toArray, t, U', L, hT, X', hL, e1, e2, hq, st⟩
  · dsimp only [Pt.U, Pt.locs, Pt.cells, Pt.slots] at X' e1 e2 h1 h2 h3 st hcl
    subst h1; subst h2; subst h3
    exact Or.inr ⟨q, (T.setVm vm₁).calling g' mk (Value.ref b :: As).toArray, t, U', L, E, ce, hT, X', hL, e1, e2, hq, hce, hcv, vx_cls hW₁ hcl, st⟩
theorem vx_runS (S : CallFix p m c cc nL s args Ts own) (hM : vx_Met l y ws rm Pc Qc XC mc ms free) (cw : CallB R s args own index y bytes maxL ret ws rm mc ms n ∧ (Cond.static y).before args s = true) (hp : PreS s H Pc As)
    (hg : g.method = m) (hn : As.length = n) (hsize : g.locals.size = nL) (hstack : g.stack = As.reverse ++ rest) (hW : 2 * g.monitorRoom + (rest.map fun v => v.category).sum ≤ 8) (hdg : decode cc g.pc = .ok (.invokestatic index, 3)) (hf : cells + mc ≤ R.cells ∧ slots + ms ≤ R.slots) :
    vx_Run p l e R s m args below meth c H locs cells slots mc ms g rest (Qc As.toArray) XC free := by
  have hK : vx_Back l R p e below s args y 3 8 (PreOf R mc ms Pc) (PostOf Qc mc ms free) (vx_Post XC mc ms free) := vx_callBack cw.1 hM hp.1
  obtain ⟨⟨-, -, -, -, -, -, hcode, hini, hy, hlen, hl⟩, hstt⟩ := cw
  obtain ⟨hx, hb, hml, ho, -⟩ := S
  intro T hT X
  rcases vx_callS X hx (bytes := bytes) (maxL := maxL) (ret := ret) ho hl hstt hini hcode hy hK hg (hsize.trans hml.symm) (argsL := As) (rest := rest) (fun sig h => hn.trans (hlen sig h)) hstack hW (by rw [hb]; exact hdg)
    (fun vm₁ hW₁ => ⟨hf.1, hf.2, hp.2 (T.setVm vm₁) hT hW₁⟩) with ⟨v, vm₁, ⟨U', l2, c2, s2⟩, hW₁, X', ⟨g', mk, t, L, e1, e2, hq, h1, hL, h2, h3⟩, st⟩ | ⟨q, vm₁, ⟨U', l2, c2, s2⟩, hW₁, X', ⟨g', mk, t, L, E, ce, e1, e2, hq, hce, hcv, hcl, h1, hL, h2, h3⟩, st⟩
  · dsimp only [Pt.U, Pt.locs, Pt.cells, Pt.slots] at X' e1 e2 h1 h2 h3 st
    subst h1; subst h2; subst h3
    exact Or.inl ⟨v, (T.setVm vm₁).calling g' mk As.toArray, t, U', L, hT, X', hL, e1, e2, hq, st⟩
  · dsimp only [Pt.U, Pt.locs, Pt.cells, Pt.slots] at X' e1 e2 h1 h2 h3 st hcl
    subst h1; subst h2; subst h3
    exact Or.inr ⟨q, (T.setVm vm₁).calling g' mk As.toArray, t, U', L, E, ce, hT, X', hL, e1, e2, hq, hce, hcv, vx_cls hW₁ hcl, st⟩
end Runs
section Rows
variable {p : Program} {l : Launch} {e : Env} {R : Room} {s : State} {m : MethodId} {args : Array Value} {below : List Frame} {meth : Method} {c : Code} {H : Heap} {locs : List Loc} {cells slots : Nat} {Q : State → Prop}
variable {mc ms : Nat} {free : Addr → Prop} {A0 A1 : Nat → Prop} {H0 : Heap} {a : Array Value} {pc : Nat} {ls : Array Slot} {st0 rest : List Value}
theorem vx_keep {st₀ t T' : State} {L : List Loc} (h0 : st₀.heap = H) (e1 : T'.heap = t.heap) (hS : va_S A0 H0 H locs) (hA : ∀ q, q < H.size → A1 q → A0 q) (hf : ∀ q, free q → A0 q) (hL : ∀ q ∈ L, free q.base) (hF : va_F A1 st₀ t) :
    H.size ≤ T'.heap.size ∧ (∀ q : Nat, q < H.size → ¬ A1 q → T'.heap[q]? = H[q]?) ∧ va_S A0 H0 T'.heap (locs ++ L) := by
  obtain ⟨hz, hk⟩ := hF
  rw [h0] at hz hk
  exact ⟨by rw [e1]; exact hz, fun q h1 h2 => by rw [e1]; exact hk q h1 h2,
    ⟨Nat.le_trans hS.1 (by rw [e1]; exact hz), fun q h1 h2 => by rw [e1, hk q (Nat.lt_of_lt_of_le h1 hS.1) (fun z => h2 (hA q (Nat.lt_of_lt_of_le h1 hS.1) z))]; exact hS.2.1 q h1 h2, fun q hq => by
      rcases List.mem_append.mp hq with h | h
      · exact hS.2.2 q h
      · exact hf _ (hL q h)⟩⟩
theorem vx_calli {S SX : Type} {post : Int32 → S → Prop} {px : SX → Prop} {B : S → State → Prop} {BX : String → SX → State → Prop} {AX : Nat → Prop} (hr : vx_Run p l e R s m args below meth c H locs cells slots mc ms (F0 m pc ls st0) rest (va_Qi post B A1 a) (vx_X px BX AX) free) (hS : va_S A0 H0 H locs) (hA : ∀ q, q < H.size → A1 q → A0 q) (hf : ∀ q, free q → A0 q) (hAX : ∀ q, q < H.size → AX q → A0 q)
    (kx : ∀ (E : String) (ce : Cell) (q9 : Addr) (u : SX) (t : State) (H1 : Heap) (locs1 : List Loc), t.heap = H1 → s.vm.Alike t.vm → px u → BX E u t → H.size ≤ H1.size → (∀ q : Nat, q < H.size → ¬ AX q → H1[q]? = H[q]?) → va_S A0 H0 H1 locs1 → H1[q9]? = some ce → ce.vm = .none → s.vm.findClass E = some ce.cls → vx_W p l e R s m args below meth c H1 locs1 (cells + mc) (slots + ms) Q (F0 m pc ls rest) q9)
    (kk : ∀ (r : Int32) (u : S) (t : State) (H1 : Heap) (locs1 : List Loc), t.heap = H1 → s.vm.Alike t.vm → post r u → B u t → H.size ≤ H1.size → (∀ q : Nat, q < H.size → ¬ A1 q → H1[q]? = H[q]?) → va_S A0 H0 H1 locs1 → W p l e R s m args below meth c H1 locs1 (cells + mc) (slots + ms) Q (F0 m (pc + 3) ls (.int r :: rest))) : W p l e R s m args below meth c H locs cells slots Q (F0 m pc ls st0) := by
  intro T hT X
  rcases hr T hT X with ⟨v, st₀, t, T', L, h0, X', hL, e1, e2, ⟨⟨r, u, hv, hp, hb⟩, hF⟩, st⟩ | ⟨q, st₀, t, T', L, E, ce, h0, X', hL, e1, e2, ⟨u, hp, hb, hF⟩, hce, hcv, hcl, st⟩
  · cases hv
    obtain ⟨k1, k2, k3⟩ := vx_keep h0 e1 hS hA hf hL hF
    obtain ⟨t2, a1, b1⟩ := kk r u t T'.heap (locs ++ L) e1.symm (by rw [← e2]; exact X'.warmed.alike) hp hb k1 k2 k3 T' rfl X'
    exact ⟨t2, st t2 a1, b1⟩
  · obtain ⟨k1, k2, k3⟩ := vx_keep h0 e1 hS hAX hf hL hF
    obtain ⟨t2, a1, b1⟩ := kx E ce q u t T'.heap (locs ++ L) e1.symm (by rw [← e2]; exact X'.warmed.alike) hp hb k1 k2 k3 (by rw [e1]; exact hce) hcv hcl T' rfl X'
    exact ⟨t2, st.trans a1, b1⟩
theorem vx_calll {S SX : Type} {post : Int64 → S → Prop} {px : SX → Prop} {B : S → State → Prop} {BX : String → SX → State → Prop} {AX : Nat → Prop} (hr : vx_Run p l e R s m args below meth c H locs cells slots mc ms (F0 m pc ls st0) rest (va_Ql post B A1 a) (vx_X px BX AX) free) (hS : va_S A0 H0 H locs) (hA : ∀ q, q < H.size → A1 q → A0 q) (hf : ∀ q, free q → A0 q) (hAX : ∀ q, q < H.size → AX q → A0 q)
    (kx : ∀ (E : String) (ce : Cell) (q9 : Addr) (u : SX) (t : State) (H1 : Heap) (locs1 : List Loc), t.heap = H1 → s.vm.Alike t.vm → px u → BX E u t → H.size ≤ H1.size → (∀ q : Nat, q < H.size → ¬ AX q → H1[q]? = H[q]?) → va_S A0 H0 H1 locs1 → H1[q9]? = some ce → ce.vm = .none → s.vm.findClass E = some ce.cls → vx_W p l e R s m args below meth c H1 locs1 (cells + mc) (slots + ms) Q (F0 m pc ls rest) q9)
    (kk : ∀ (r : Int64) (u : S) (t : State) (H1 : Heap) (locs1 : List Loc), t.heap = H1 → s.vm.Alike t.vm → post r u → B u t → H.size ≤ H1.size → (∀ q : Nat, q < H.size → ¬ A1 q → H1[q]? = H[q]?) → va_S A0 H0 H1 locs1 → W p l e R s m args below meth c H1 locs1 (cells + mc) (slots + ms) Q (F0 m (pc + 3) ls (.long r :: rest))) : W p l e R s m args below meth c H locs cells slots Q (F0 m pc ls st0) := by
  intro T hT X
  rcases hr T hT X with ⟨v, st₀, t, T', L, h0, X', hL, e1, e2, ⟨⟨r, u, hv, hp, hb⟩, hF⟩, st⟩ | ⟨q, st₀, t, T', L, E, ce, h0, X', hL, e1, e2, ⟨u, hp, hb, hF⟩, hce, hcv, hcl, st⟩
  · cases hv
    obtain ⟨k1, k2, k3⟩ := vx_keep h0 e1 hS hA hf hL hF
    obtain ⟨t2, a1, b1⟩ := kk r u t T'.heap (locs ++ L) e1.symm (by rw [← e2]; exact X'.warmed.alike) hp hb k1 k2 k3 T' rfl X'
    exact ⟨t2, st t2 a1, b1⟩
  · obtain ⟨k1, k2, k3⟩ := vx_keep h0 e1 hS hAX hf hL hF
    obtain ⟨t2, a1, b1⟩ := kx E ce q u t T'.heap (locs ++ L) e1.symm (by rw [← e2]; exact X'.warmed.alike) hp hb k1 k2 k3 (by rw [e1]; exact hce) hcv hcl T' rfl X'
    exact ⟨t2, st.trans a1, b1⟩
theorem vx_callf {S SX : Type} {post : UInt32 → S → Prop} {px : SX → Prop} {B : S → State → Prop} {BX : String → SX → State → Prop} {AX : Nat → Prop} (hr : vx_Run p l e R s m args below meth c H locs cells slots mc ms (F0 m pc ls st0) rest (va_Qf post B A1 a) (vx_X px BX AX) free) (hS : va_S A0 H0 H locs) (hA : ∀ q, q < H.size → A1 q → A0 q) (hf : ∀ q, free q → A0 q) (hAX : ∀ q, q < H.size → AX q → A0 q)
    (kx : ∀ (E : String) (ce : Cell) (q9 : Addr) (u : SX) (t : State) (H1 : Heap) (locs1 : List Loc), t.heap = H1 → s.vm.Alike t.vm → px u → BX E u t → H.size ≤ H1.size → (∀ q : Nat, q < H.size → ¬ AX q → H1[q]? = H[q]?) → va_S A0 H0 H1 locs1 → H1[q9]? = some ce → ce.vm = .none → s.vm.findClass E = some ce.cls → vx_W p l e R s m args below meth c H1 locs1 (cells + mc) (slots + ms) Q (F0 m pc ls rest) q9)
    (kk : ∀ (r : UInt32) (u : S) (t : State) (H1 : Heap) (locs1 : List Loc), t.heap = H1 → s.vm.Alike t.vm → post r u → B u t → H.size ≤ H1.size → (∀ q : Nat, q < H.size → ¬ A1 q → H1[q]? = H[q]?) → va_S A0 H0 H1 locs1 → W p l e R s m args below meth c H1 locs1 (cells + mc) (slots + ms) Q (F0 m (pc + 3) ls (.float r :: rest))) : W p l e R s m args below meth c H locs cells slots Q (F0 m pc ls st0) := by
  intro T hT X
  rcases hr T hT X with ⟨v, st₀, t, T', L, h0, X', hL, e1, e2, ⟨⟨r, u, hv, hp, hb⟩, hF⟩, st⟩ | ⟨q, st₀, t, T', L, E, ce, h0, X', hL, e1, e2, ⟨u, hp, hb, hF⟩, hce, hcv, hcl, st⟩
  · cases hv
    obtain ⟨k1, k2, k3⟩ := vx_keep h0 e1 hS hA hf hL hF
    obtain ⟨t2, a1, b1⟩ := kk r u t T'.heap (locs ++ L) e1.symm (by rw [← e2]; exact X'.warmed.alike) hp hb k1 k2 k3 T' rfl X'
    exact ⟨t2, st t2 a1, b1⟩
  · obtain ⟨k1, k2, k3⟩ := vx_keep h0 e1 hS hAX hf hL hF
    obtain ⟨t2, a1, b1⟩ := kx E ce q u t T'.heap (locs ++ L) e1.symm (by rw [← e2]; exact X'.warmed.alike) hp hb k1 k2 k3 (by rw [e1]; exact hce) hcv hcl T' rfl X'
    exact ⟨t2, st.trans a1, b1⟩
theorem vx_calld {S SX : Type} {post : UInt64 → S → Prop} {px : SX → Prop} {B : S → State → Prop} {BX : String → SX → State → Prop} {AX : Nat → Prop} (hr : vx_Run p l e R s m args below meth c H locs cells slots mc ms (F0 m pc ls st0) rest (va_Qd post B A1 a) (vx_X px BX AX) free) (hS : va_S A0 H0 H locs) (hA : ∀ q, q < H.size → A1 q → A0 q) (hf : ∀ q, free q → A0 q) (hAX : ∀ q, q < H.size → AX q → A0 q)
    (kx : ∀ (E : String) (ce : Cell) (q9 : Addr) (u : SX) (t : State) (H1 : Heap) (locs1 : List Loc), t.heap = H1 → s.vm.Alike t.vm → px u → BX E u t → H.size ≤ H1.size → (∀ q : Nat, q < H.size → ¬ AX q → H1[q]? = H[q]?) → va_S A0 H0 H1 locs1 → H1[q9]? = some ce → ce.vm = .none → s.vm.findClass E = some ce.cls → vx_W p l e R s m args below meth c H1 locs1 (cells + mc) (slots + ms) Q (F0 m pc ls rest) q9)
    (kk : ∀ (r : UInt64) (u : S) (t : State) (H1 : Heap) (locs1 : List Loc), t.heap = H1 → s.vm.Alike t.vm → post r u → B u t → H.size ≤ H1.size → (∀ q : Nat, q < H.size → ¬ A1 q → H1[q]? = H[q]?) → va_S A0 H0 H1 locs1 → W p l e R s m args below meth c H1 locs1 (cells + mc) (slots + ms) Q (F0 m (pc + 3) ls (.double r :: rest))) : W p l e R s m args below meth c H locs cells slots Q (F0 m pc ls st0) := by
  intro T hT X
  rcases hr T hT X with ⟨v, st₀, t, T', L, h0, X', hL, e1, e2, ⟨⟨r, u, hv, hp, hb⟩, hF⟩, st⟩ | ⟨q, st₀, t, T', L, E, ce, h0, X', hL, e1, e2, ⟨u, hp, hb, hF⟩, hce, hcv, hcl, st⟩
  · cases hv
    obtain ⟨k1, k2, k3⟩ := vx_keep h0 e1 hS hA hf hL hF
    obtain ⟨t2, a1, b1⟩ := kk r u t T'.heap (locs ++ L) e1.symm (by rw [← e2]; exact X'.warmed.alike) hp hb k1 k2 k3 T' rfl X'
    exact ⟨t2, st t2 a1, b1⟩
  · obtain ⟨k1, k2, k3⟩ := vx_keep h0 e1 hS hAX hf hL hF
    obtain ⟨t2, a1, b1⟩ := kx E ce q u t T'.heap (locs ++ L) e1.symm (by rw [← e2]; exact X'.warmed.alike) hp hb k1 k2 k3 (by rw [e1]; exact hce) hcv hcl T' rfl X'
    exact ⟨t2, st.trans a1, b1⟩
theorem vx_callv {S SX : Type} {post : S → Prop} {px : SX → Prop} {B : S → State → Prop} {BX : String → SX → State → Prop} {AX : Nat → Prop} (hr : vx_Run p l e R s m args below meth c H locs cells slots mc ms (F0 m pc ls st0) rest (va_Qv post B A1 a) (vx_X px BX AX) free) (hS : va_S A0 H0 H locs) (hA : ∀ q, q < H.size → A1 q → A0 q) (hf : ∀ q, free q → A0 q) (hAX : ∀ q, q < H.size → AX q → A0 q)
    (kx : ∀ (E : String) (ce : Cell) (q9 : Addr) (u : SX) (t : State) (H1 : Heap) (locs1 : List Loc), t.heap = H1 → s.vm.Alike t.vm → px u → BX E u t → H.size ≤ H1.size → (∀ q : Nat, q < H.size → ¬ AX q → H1[q]? = H[q]?) → va_S A0 H0 H1 locs1 → H1[q9]? = some ce → ce.vm = .none → s.vm.findClass E = some ce.cls → vx_W p l e R s m args below meth c H1 locs1 (cells + mc) (slots + ms) Q (F0 m pc ls rest) q9)
    (kk : ∀ (u : S) (t : State) (H1 : Heap) (locs1 : List Loc), t.heap = H1 → s.vm.Alike t.vm → post u → B u t → H.size ≤ H1.size → (∀ q : Nat, q < H.size → ¬ A1 q → H1[q]? = H[q]?) → va_S A0 H0 H1 locs1 → W p l e R s m args below meth c H1 locs1 (cells + mc) (slots + ms) Q (F0 m (pc + 3) ls (rest))) : W p l e R s m args below meth c H locs cells slots Q (F0 m pc ls st0) := by
  intro T hT X
  rcases hr T hT X with ⟨v, st₀, t, T', L, h0, X', hL, e1, e2, ⟨⟨u, hv, hp, hb⟩, hF⟩, st⟩ | ⟨q, st₀, t, T', L, E, ce, h0, X', hL, e1, e2, ⟨u, hp, hb, hF⟩, hce, hcv, hcl, st⟩
  · cases hv
    obtain ⟨k1, k2, k3⟩ := vx_keep h0 e1 hS hA hf hL hF
    obtain ⟨t2, a1, b1⟩ := kk u t T'.heap (locs ++ L) e1.symm (by rw [← e2]; exact X'.warmed.alike) hp hb k1 k2 k3 T' rfl X'
    exact ⟨t2, st t2 a1, b1⟩
  · obtain ⟨k1, k2, k3⟩ := vx_keep h0 e1 hS hAX hf hL hF
    obtain ⟨t2, a1, b1⟩ := kx E ce q u t T'.heap (locs ++ L) e1.symm (by rw [← e2]; exact X'.warmed.alike) hp hb k1 k2 k3 (by rw [e1]; exact hce) hcv hcl T' rfl X'
    exact ⟨t2, st.trans a1, b1⟩
/-- caught by the row x of this method's table; the rows ahead don't take it -/
theorem vx_catch {own name : String} {E : String} {ce : Cell} {q : Addr} (hown : s.vm.findClass own = some m.cls) (pre : List ExceptionTableEntry) (x : ExceptionTableEntry) (suf : List ExceptionTableEntry) (hsplit : c.exceptionTable.toList = pre ++ x :: suf)
    (hpass : ∀ z ∈ pre, covers z pc = false ∨ (z.catchType ≠ 0 ∧ ∃ nm : String, (Cond.classLink own z.catchType nm).before args s = true ∧ va_Nc E nm s)) (hx : covers x pc = true) (h0 : x.catchType ≠ 0)
    (hlink : (Cond.classLink own x.catchType name).before args s = true) (hcast : (Cond.castable E name).before args s = true) (hcell : H[q]? = some ce) (hv : ce.vm = .none) (hcl : s.vm.findClass E = some ce.cls)
    (kk : W p l e R s m args below meth c H locs cells slots Q (F0 m x.handlerPc ls [.ref q])) : vx_W p l e R s m args below meth c H locs cells slots Q (F0 m pc ls rest) q := by
  intro T hT X
  have hpl : e.platform.magicAccessors = ({} : Platform).magicAccessors := by rw [X.admits.platform]
  obtain ⟨c3, c4, hc3, hc4, hasg⟩ := Cond.castable_spec hcast
  cases Option.some.inj (hc3.symm.trans hcl)
  obtain ⟨c5, hc5, hcl5⟩ := Cond.classLink_spec hown hlink e.platform hpl
  cases Option.some.inj (hc4.symm.trans hc5)
  obtain ⟨vm', X', st⟩ := X.thenCaughtThrough q (g := F0 m pc ls rest) rfl (Steps.refl _) (by rw [hT]; exact hcell) (by rw [hv]; rfl) (by obtain ⟨k9, h9, -⟩ := Vm.findClass_spec hcl; exact ⟨k9, h9⟩) pre x suf hsplit
    (fun z hz => by
      rcases hpass z hz with h | ⟨hz0, nm, hl1, hn1⟩
      · exact Or.inl h
      · obtain ⟨c6, hc6, hcl6⟩ := Cond.classLink_spec hown hl1 e.platform hpl
        obtain ⟨a8, b8, h1, h2, h3⟩ := hn1
        cases Option.some.inj (h1.symm.trans hcl)
        cases Option.some.inj (h2.symm.trans hc6)
        exact Or.inr ⟨hz0, _, hcl6, h3⟩) hx (Or.inr ⟨h0, c4, hcl5, hasg⟩)
  obtain ⟨t, a1, b1⟩ := kk (T.setVm vm') hT X'
  exact ⟨t, st.trans a1, b1⟩
end Rows
section Ends
variable {p : Program} {l : Launch} {e : Env} {R : Room} {s : State} {m : MethodId} {args : Array Value} {below : List Frame} {meth : Method} {c : Code} {H : Heap} {locs : List Loc} {cells slots : Nat} {Q : State → Prop}
variable {mc ms : Nat} {free : Addr → Prop} {A0 A1 : Nat → Prop} {H0 : Heap} {a : Array Value} {ls : Array Slot} {st0 rest : List Value}
variable {Qc : Array Value → State → Outcome → State → Prop} {XC : String → State → State → Prop}
/-- what a body that may throw owes at its end -/
def vx_MQ (below : List Frame) (Qc : Array Value → State → Outcome → State → Prop) (XC : String → State → State → Prop) (a : Array Value) (s : State) (mc ms : Nat) (free : Addr → Prop) : State → Prop := fun t =>
  ∃ o, t.status = .running ∧ Ended t below o ∧ vx_Q Qc XC mc ms free a s o t
theorem vx_ret {g : JFrame} {mc ms : Nat} (k : W p l e R s m args below meth c H locs cells slots (MQ below Qc args s mc ms free) g) : W p l e R s m args below meth c H locs cells slots (vx_MQ below Qc XC args s mc ms free) g := by
  intro T hT X
  obtain ⟨t, a1, o, b1, b2, b3, b4⟩ := k T hT X
  exact ⟨t, a1, o, b1, b2, Or.inl ⟨b3, b4⟩⟩
/-- not caught here: it goes on to the caller -/
theorem vx_widen {g : JFrame} {q : Addr} {k n : Nat} (h1 : cells ≤ k) (h2 : slots ≤ n) (kk : vx_W p l e R s m args below meth c H locs k n Q g q) : vx_W p l e R s m args below meth c H locs cells slots Q g q := fun T hT X => kk T hT (stand_widen X h1 h2)
theorem vx_out {pc : Nat} {E : String} {ce : Cell} {q : Addr} {mc ms : Nat} (hout : ∀ x ∈ c.exceptionTable.toList, covers x pc = false) (hlocks : meth.locks = false) (hcell : H[q]? = some ce) (hv : ce.vm = .none) (hcl : s.vm.findClass E = some ce.cls)
    (hx : ∀ t : State, t.heap = H → s.vm.Alike t.vm → XC E s t) (hf : ∀ z ∈ locs, free z.base) (hc : cells ≤ mc) (hs : slots ≤ ms) :
    vx_W p l e R s m args below meth c H locs cells slots (vx_MQ below Qc XC args s mc ms free) (F0 m pc ls rest) q := by
  intro T hT X
  obtain ⟨st1, hrun, hend, hW, hsm⟩ := X.leaveThrown q (g := F0 m pc ls rest) rfl rfl rfl hout hlocks
  have hcell9 : (T.setFrames (.throwing q :: below)).heap[q]? = some ce := by
    show T.heap[q]? = some ce
    rw [hT]; exact hcell
  exact ⟨_, st1, .threw q, hrun, hend, Or.inr ⟨q, rfl, E, ce, locs, hx _ hT hW.alike, hcell9, hv, hcl, hW, hsm.mono hc hs, hf⟩⟩
theorem vx_frame {U : State} {k n : Nat} (h : s.sameButNew ({ U with vm := s.vm } : State) locs k n) : s.heap.size ≤ U.heap.size ∧ ∀ q : Nat, q < s.heap.size → (∀ z ∈ locs, z.base ≠ q) → U.heap[q]? = s.heap[q]? := by
  obtain ⟨-, h2, -, -, -, h6⟩ := h
  refine ⟨h2, fun q hq hz => ?_⟩
  obtain ⟨c9, e1, e2, e3, e4⟩ := h6 q _ (Array.getElem?_eq_getElem hq)
  have hs : c9.slots = (s.heap[q]).slots := Array.ext_getElem? fun i => e4 i fun hm => hz _ hm rfl
  have h9 : c9 = s.heap[q] := by
    rw [hs] at e2
    exact e2
  have e5 : U.heap[q]? = some c9 := e1
  rw [e5, h9, Array.getElem?_eq_getElem hq]
/-- the words of a throw but the four that speak of the heap -/
def vx_no (w : Cond) : Bool := decide (w ≠ .isRef (.static Bundle.tN "UNASSIGNED_STACK" Bundle.steD)) && decide (w ≠ .isRef (.static Bundle.tN "SUPPRESSED_SENTINEL" Bundle.listD)) && decide (w ≠ .laysStatic Bundle.tN "UNASSIGNED_STACK" Bundle.steD) && decide (w ≠ .laysStatic Bundle.tN "SUPPRESSED_SENTINEL" Bundle.listD)
def vx_at0 (own : String) (ic : Nat) (X : String) (names : List String) : List Cond := (Bundle.ownAtoms0 own ic X names).filter vx_no
def vx_atS (own : String) (ic : Nat) (X : String) (names : List String) : List Cond := (Bundle.ownAtoms own ic X names).filter vx_no
/-- a word that the tables alone decide, or a good one -/
def vx_ot (w : Cond) : Bool := w.onTables || goodWord w
theorem vx_ot_at {args a' : Array Value} {s U : State} {w : Cond} (hW : s.WarmedH U.vm) (hvm : s.vm = U.vm) (hg : vx_ot w = true) (h : w.before args s = true) : w.before a' U = true := by
  simp only [vx_ot, Bool.or_eq_true] at hg
  rcases hg with hg | hg
  · exact va_tabs hg hvm h
  · exact word_at hW (good_of_word hg) h
/-- a list's words: the good ones out of the method's own list, the others by premises of their own -/
theorem vx_hat {args : Array Value} {s : State} {L B : List Cond} (h1 : ∀ w ∈ L.filter goodWord, w.before args s = true) (h2 : ∀ w ∈ L.filter (fun w => !goodWord w), w ∈ B) (h3 : ∀ w ∈ B, w.before args s = true) : ∀ w ∈ L, w.before args s = true := by
  intro w hw
  by_cases g : goodWord w = true
  · exact h1 w (List.mem_filter.mpr ⟨hw, g⟩)
  · refine h3 w (h2 w (List.mem_filter.mpr ⟨hw, ?_⟩))
    show (!goodWord w) = true
    cases hgw : goodWord w
    · rfl
    · exact absurd hgw g
theorem vx_c {args : Array Value} {s : State} {w : Cond} {B : List Cond} (h : w.before args s = true) (t : ∀ w ∈ B, w.before args s = true) : ∀ w' ∈ w :: B, w'.before args s = true := fun w' h' => (List.mem_cons.mp h').elim (fun e => by rw [e]; exact h) (t w')
theorem vx_n {args : Array Value} {s : State} : ∀ w ∈ ([] : List Cond), w.before args s = true := fun _ h => nomatch h
theorem vx_own {args : Array Value} {s : State} {L : List Cond} (h1 : ∀ w ∈ L.filter vx_no, w.before args s = true)
    (hU : (Cond.isRef (.static Bundle.tN "UNASSIGNED_STACK" Bundle.steD)).before args s = true) (hN : (Cond.isRef (.static Bundle.tN "SUPPRESSED_SENTINEL" Bundle.listD)).before args s = true)
    (lU : (Cond.laysStatic Bundle.tN "UNASSIGNED_STACK" Bundle.steD).before args s = true) (lN : (Cond.laysStatic Bundle.tN "SUPPRESSED_SENTINEL" Bundle.listD).before args s = true) : ∀ w ∈ L, w.before args s = true := by
  intro w hw
  by_cases e1 : w = .isRef (.static Bundle.tN "UNASSIGNED_STACK" Bundle.steD)
  · rw [e1]; exact hU
  · by_cases e2 : w = .isRef (.static Bundle.tN "SUPPRESSED_SENTINEL" Bundle.listD)
    · rw [e2]; exact hN
    · by_cases e3 : w = .laysStatic Bundle.tN "UNASSIGNED_STACK" Bundle.steD
      · rw [e3]; exact lU
      · by_cases e4 : w = .laysStatic Bundle.tN "SUPPRESSED_SENTINEL" Bundle.listD
        · rw [e4]; exact lN
        · exact h1 w (List.mem_filter.mpr ⟨hw, by unfold vx_no; rw [decide_eq_true e1, decide_eq_true e2, decide_eq_true e3, decide_eq_true e4]; rfl⟩)
/-- where a static field lies, its class's statics cell in H -/
def vx_L (C n d : String) (A : Nat → Prop) (U : State) (H : Heap) : Prop := ∃ (c : ClassId) (k : Class) (i : Nat) (f : Field) (a : Nat) (cell : Cell), U.vm.findClass C = some c ∧ U.fieldFound? C n d = some (c, k, i, f) ∧ f.isStatic = true ∧ k.statics = some a ∧ H[a]? = some cell ∧ cell.vm.isStatics = true ∧ cell.cls = c ∧ f.slot < cell.slots.size ∧ k.staticTypes[f.slot]? = some f.type ∧ ¬ A a
theorem vx_L.moved {C n d : String} {A : Nat → Prop} {u U : State} {H : Heap} (hvm : u.vm.Alike U.vm) (h : vx_L C n d A u H) : vx_L C n d A U H := by
  obtain ⟨c, k, i, f, a, cell, h1, h2, h3, h4, h5, h6, h7, h8, h9, h10⟩ := h
  obtain ⟨k', hi', he⟩ := State.fieldFound?_setVm hvm h2
  exact ⟨c, k', i, f, a, cell, by rw [hvm.findClass]; exact h1, hi', h3, by rw [he]; exact h4, h5, h6, h7, h8, by rw [he]; exact h9, h10⟩
theorem vx_L.kept {C n d : String} {A : Nat → Prop} {U : State} {H H1 : Heap} (h : vx_L C n d A U H) (hq : ∀ a : Nat, a < H.size → ¬ A a → H1[a]? = H[a]?) : vx_L C n d A U H1 := by
  obtain ⟨c, k, i, f, a, cell, h1, h2, h3, h4, h5, h6, h7, h8, h9, h10⟩ := h
  exact ⟨c, k, i, f, a, cell, h1, h2, h3, h4, by rw [hq a (Array.getElem?_eq_some_iff.mp h5).1 h10]; exact h5, h6, h7, h8, h9, h10⟩
theorem vx_L.narrow {C n d : String} {A B : Nat → Prop} {U : State} {H : Heap} (h : vx_L C n d A U H) (hAB : ∀ q, B q → A q) : vx_L C n d B U H := by
  obtain ⟨c, k, i, f, a, cell, h1, h2, h3, h4, h5, h6, h7, h8, h9, h10⟩ := h
  exact ⟨c, k, i, f, a, cell, h1, h2, h3, h4, h5, h6, h7, h8, h9, fun z => h10 (hAB _ z)⟩
theorem vx_L.word {C n d : String} {A : Nat → Prop} {s : State} {args : Array Value} (h : vx_L C n d A s s.heap) : (Cond.laysStatic C n d).before args s = true := by
  obtain ⟨c, k, i, f, a, cell, h1, h2, h3, h4, h5, h6, h7, h8, h9, -⟩ := h
  show (Cond.laysStatic C n d).holds args s none s [] = true
  exact Cond.laysStatic_of h1 h2 h3 h4 h5 h6 h7 h8 h9
/-- .. and what it holds: null or some reference -/
def vx_Zq (C n d : String) (A : Nat → Prop) (U : State) (H : Heap) : Prop := va_Zq C n d A U H ∧ vx_L C n d A U H
theorem vx_Zq.moved {C n d : String} {A : Nat → Prop} {u U : State} {H : Heap} (hvm : u.vm.Alike U.vm) (h : vx_Zq C n d A u H) : vx_Zq C n d A U H := ⟨va_Zq.moved hvm h.1, vx_L.moved hvm h.2⟩
theorem vx_Zq.kept {C n d : String} {A : Nat → Prop} {U : State} {H H1 : Heap} (h : vx_Zq C n d A U H) (hq : ∀ a : Nat, a < H.size → ¬ A a → H1[a]? = H[a]?) : vx_Zq C n d A U H1 := ⟨va_Zq.kept h.1 hq, vx_L.kept h.2 hq⟩
theorem vx_Zq.narrow {C n d : String} {A B : Nat → Prop} {U : State} {H : Heap} (h : vx_Zq C n d A U H) (hAB : ∀ q, B q → A q) : vx_Zq C n d B U H := ⟨va_Zq.narrow h.1 hAB, vx_L.narrow h.2 hAB⟩
theorem vx_Zqof {args : Array Value} {s : State} {C n d : String} {A : Nat → Prop} (hl : (Cond.laysStatic C n d).before args s = true) (hini : (Cond.initialized C).before args s = true) (h : (Cond.isRef (.static C n d)).before args s = true) (hA : ∀ a : Nat, a < s.heap.size → ¬ A a) : vx_Zq C n d A s s.heap := by
  refine ⟨va_Zqof hl hini h hA, ?_⟩
  obtain ⟨c, k, i, f, a, cell, h1, h2, h3, h4, h5, h6, h7, h8, h9⟩ := Cond.laysStatic_spec hl
  exact ⟨c, k, i, f, a, cell, h1, h2, h3, h4, h5, h6, h7, h8, h9, hA a (Array.getElem?_eq_some_iff.mp h5).1⟩
theorem vx_isRef {C n d : String} {v : Value} {A : Nat → Prop} {s : State} {args : Array Value} (h : va_Z C n d v A s s.heap) (hv : v.isRef = true) : (Cond.isRef (.static C n d)).before args s = true := by
  obtain ⟨cf, kf, fi, f, a, cell, h1, h2, h3, h4, h5, h6, h7, -⟩ := h
  have he : (Term.static C n d).eval args s none [] s = some v := by
    simp [Term.eval, State.fieldNamed?, h1, h2, h4, h5, h6, h7]
  simp only [Cond.before, Cond.holds, Cond.value, he]
  cases v <;> simp_all [Value.isRef]
theorem vx_isRefq {C n d : String} {A : Nat → Prop} {s : State} {args : Array Value} (h : va_Zq C n d A s s.heap) : (Cond.isRef (.static C n d)).before args s = true := by
  rcases h with h | ⟨t, h⟩
  · exact vx_isRef h rfl
  · exact vx_isRef h rfl
/-- the same frame, seen from here: as if the method were called anew in this heap -/
theorem vx_rebase {T : State} (X : Stand p l e R s m args below meth c T locs cells slots) {R' : Room} (hf : R'.frames ≤ R.frames) (hl : R'.locals ≤ R.locals) (hc : cells + R'.cells ≤ R.cells) (hs : slots + R'.slots ≤ R.slots) :
    Stand p l e R' ((T.setVm s.vm).setFrames (.invoking m args :: below)) m args below meth c T [] 0 0 := by
  have htop : (T.setVm s.vm).topJava?.isSome := X.here.top
  have hF : ((T.setVm s.vm).setFrames (.invoking m args :: below)).frames = .invoking m args :: below := State.frames_setFrames _ (State.cur_lt_of_top htop)
  obtain ⟨g₀, hg0⟩ := Option.isSome_iff_exists.mp htop
  obtain ⟨r, hr⟩ := State.topJava?_eq_some.mp hg0
  have hl9 : e.platform.stackLimits (T.setVm s.vm).me = e.platform.stackLimits s.me := X.limits
  have hb9 : (T.setVm s.vm).me.stackBytes = s.me.stackBytes := X.bytes
  refine ⟨X.admits, X.cas, X.clock, hF, ?_, X.hears, X.method, X.code, X.here, X.tail, X.warmed, ?_, ?_, ?_⟩
  · have h := X.room
    have hU : ((T.setVm s.vm).setFrames (.invoking m args :: below)).localsInUse = s.localsInUse := by
      rw [State.localsInUse_invoking hF (meth := meth) (c := c) X.method X.code, State.localsInUse_invoking X.frames X.method X.code]
    simp only [State.hasRoom, Bool.and_eq_true, decide_eq_true_eq] at h ⊢
    obtain ⟨⟨⟨⟨h1, h2, h3, h4, h5, h6⟩, h7⟩, h8⟩, h9⟩ := h
    rw [X.frames, List.length_cons] at h2 h3
    have q1 := X.heapSize
    have q2 := X.used
    simp only [hF, hU, List.length_cons, State.stackLimits_setFrames, State.stackBytes_setFrames, hl9, hb9]
    refine ⟨⟨⟨⟨by omega, by omega, by omega, by omega, by omega, h6⟩, ?_⟩, ?_⟩, X.book⟩
    · show T.heap.size + R'.cells ≤ e.platform.maxCells
      omega
    · show T.slotsUsed + R'.slots ≤ e.platform.maxSlots
      omega
  · rw [State.stackLimits_setFrames]; rfl
  · rw [State.stackBytes_setFrames]; rfl
  · refine ⟨?_, Nat.le_refl _, Nat.le_refl _, ?_, ?_, fun a c9 h9 => ⟨c9, h9, rfl, rfl, fun _ _ => rfl⟩⟩
    · obtain ⟨t, ht, -⟩ := State.frames_cons hr
      show T.setVm s.vm = { ((T.setVm s.vm).setFrames (.invoking m args :: below)).setFrames (T.setVm s.vm).frames with heap := T.heap, slotsUsed := T.slotsUsed }
      rw [State.setFrames_setFrames, State.setFrames_self ht]
      rfl
    · show T.slotsUsed = T.slotsUsed + ((T.heap.toList.drop T.heap.size).map (·.slots.size)).sum
      rw [List.drop_eq_nil_of_le (Nat.le_of_eq Array.length_toList)]
      rfl
    · show ((T.heap.toList.drop T.heap.size).map (·.slots.size)).sum ≤ 0
      rw [List.drop_eq_nil_of_le (Nat.le_of_eq Array.length_toList)]
      exact Nat.le_refl _
/-- 'throw new E()': new; dup; invokespecial; athrow -/
theorem vx_throw0 {cc : ByteArray} {pc : Nat} (hexec : p.tables.exec = Jvm.exec) (hb : c.code = cc) (hl : l.stackTraces = false) {own cls : String} {names : List String} {ik ic mc ms : Nat} {A : Nat → Prop}
    (hown : s.vm.findClass own = some m.cls) (hcls : Bundle.fit cls = true) (hnames : ∀ n ∈ names, Bundle.fit n = true)
    (hk : (Cond.classLink own ik cls).before args s = true) (hini : (Cond.initialized cls).before args s = true) (hat : ∀ w ∈ vx_at0 own ic cls names, w.before args s = true)
    (hgood : ∀ w ∈ Cond.classLink own ik cls :: Cond.initialized cls :: vx_at0 own ic cls names, vx_ot w = true)
    (hU : vx_Zq Bundle.tN "UNASSIGNED_STACK" Bundle.steD A s s.heap) (hN : vx_Zq Bundle.tN "SUPPRESSED_SENTINEL" Bundle.listD A s s.heap) (hS : va_S A s.heap H locs) (hsize : ls.size = c.maxLocals)
    (d0 : decode cc pc = .ok (.new ik, 3)) (d3 : decode cc (pc + 3) = .ok (.dup, 1)) (d4 : decode cc (pc + 4) = .ok (.invokespecial ic, 3)) (d7 : decode cc (pc + 7) = .ok (.athrow, 1))
    (hout : ∀ x ∈ c.exceptionTable.toList, covers x (pc + 7) = false)
    (hRframes : names.length + 3 < R.frames) (hRlocals : (rest.map fun v => v.category).sum + (13 * (names.length + 1) + 42) ≤ R.locals) (hRcells : cells + 1 ≤ R.cells) (hRslots : slots + 6 ≤ R.slots) (hlocks : meth.locks = false)
    (hx : ∀ t : State, s.vm.Alike t.vm → H.size ≤ t.heap.size → (∀ q : Nat, q < H.size → t.heap[q]? = H[q]?) → XC cls s t)
    (hf : ∀ z ∈ locs, free z.base) (hc : cells + 1 ≤ mc) (hs : slots + 6 ≤ ms) :
    W p l e R s m args below meth c H locs cells slots (vx_MQ below Qc XC args s mc ms free) (F0 m pc ls rest) := by
  intro T hT X
  have htr : e.platform.stackTraces = false := (show e.platform.stackTraces = l.stackTraces by rw [X.admits.platform]).trans hl
  have Y := vx_rebase X (R' := { frames := R.frames, locals := R.locals, cells := 1, slots := 6 }) (Nat.le_refl _) (Nat.le_refl _) hRcells hRslots
  obtain ⟨s', hA⟩ : ∃ z, z = (T.setVm s.vm).setFrames (.invoking m args :: below) := ⟨_, rfl⟩
  rw [← hA] at Y
  have hvm : s'.vm = s.vm := by rw [hA]; rfl
  have hhp : s'.heap = H := by rw [hA]; exact hT
  have hW0 : s.WarmedH s'.vm := by rw [hvm]; exact State.WarmedH.refl s
  have hat' : ∀ w ∈ vx_at0 own ic cls names, w.before args s' = true := fun w hw => vx_ot_at hW0 hvm.symm (hgood w (List.mem_cons_of_mem _ (List.mem_cons_of_mem _ hw))) (hat w hw)
  have hk' : (Cond.classLink own ik cls).before args s' = true := vx_ot_at hW0 hvm.symm (hgood _ List.mem_cons_self) hk
  have hini' : (Cond.initialized cls).before args s' = true := vx_ot_at hW0 hvm.symm (hgood _ (List.mem_cons_of_mem _ List.mem_cons_self)) hini
  have hU' : vx_Zq Bundle.tN "UNASSIGNED_STACK" Bundle.steD A s' s'.heap := by rw [hhp]; exact vx_Zq.moved hW0.alike (hU.kept hS.2.1)
  have hN' : vx_Zq Bundle.tN "SUPPRESSED_SENTINEL" Bundle.listD A s' s'.heap := by rw [hhp]; exact vx_Zq.moved hW0.alike (hN.kept hS.2.1)
  have h : ∀ w ∈ Bundle.ownAtoms0 own ic cls names, w.before args s' = true := vx_own hat' (vx_isRefq hU'.1) (vx_isRefq hN'.1) hU'.2.word hN'.2.word
  have hown' : s'.vm.findClass own = some m.cls := by rw [hvm]; exact hown
  have hins : (Cond.instantiable cls 6).before args s' = true := h _ (by simp [Bundle.ownAtoms0])
  obtain ⟨vm₁, cX, kX, hfX, hkX, -, -, X₁, st1⟩ := Y.newCold hexec (own := own) (C := cls) (index := ik) (n := 6) hown' hk' hins hini'
    (g := F0 m pc ls rest) rfl (by rw [hb]; exact d0) (Nat.le_refl _) (Nat.le_refl _)
  generalize hT1 : (T.setVm vm₁).pushCell { cls := cX, slots := kX.instanceTypes.map defaultValue, vm := .none } = T1 at X₁ st1
  have hcat : (Value.ref T.heap.size).category = 1 := rfl
  have hcellA : T1.heap[T.heap.size]? = some (freshCell cX kX) := by rw [← hT1]; exact State.heap_pushCell_size _ _
  have d3' : decode c.code (pc + 3) = .ok (.dup, 1) := by rw [hb]; exact d3
  obtain ⟨U, hsteps, hrun, hend, hW, hsame, ce, hce, hO⟩ := X₁.ctorThrow0 hexec htr (own := own) (cls := cls) (names := names) (ic := ic) hown' hcls hnames h (fun x hx => nomatch hx) hfX hkX hcellA (by rw [hhp, hT]; exact Nat.le_refl _)
    (g := { method := m, pc := pc + 4, locals := ls, stack := .ref T.heap.size :: .ref T.heap.size :: rest, locked := none }) rfl hsize rfl rfl (rest := rest) rfl
    (by rw [hb]; exact d4) (by rw [hb]; exact d7) hout hRframes (by simp only [List.map_cons, List.sum_cons, hcat]; omega) hlocks
  obtain ⟨f1, f2⟩ := vx_frame hsame
  rw [hhp] at f1 f2
  have hWs : s.WarmedH U.vm := State.WarmedH.trans hW0 hW
  have hcl : s.vm.findClass cls = some ce.cls := by
    have h9 := hO.cls
    rw [hvm] at h9
    exact h9
  have hall : s.sameButNew ({ U with vm := s.vm } : State) locs mc ms := by
    subst hA
    obtain ⟨e1, e2⟩ := hsame
    rw [State.setFrames_setFrames] at e1
    have h2 : (T.setVm s.vm).sameButNew ({ U with vm := s.vm } : State) [] (0 + 1) (0 + 6) := ⟨e1, e2⟩
    have h3 := X.same.trans h2
    rw [List.append_nil] at h3
    exact h3.mono hc hs
  refine ⟨U, ?_, .threw T.heap.size, hrun, hend, Or.inr ⟨T.heap.size, rfl, cls, ce, locs, hx U hWs.alike f1 (fun q hq => f2 q hq (fun z hz => nomatch hz)), hce, hO.vm, hcl, hWs, hall, hf⟩⟩
  refine st1 _ ?_
  show Steps p.tables e below (T1.setTop { method := m, pc := pc + 3, locals := ls, stack := .ref T.heap.size :: rest, locked := none }) _
  jvm_step X₁.here [X₁.here.top, hexec, d3', Value.category]
  exact hsteps
/-- 'throw new E("text")': new; dup; ldc; invokespecial; athrow -/
theorem vx_throwS {cc : ByteArray} {pc : Nat} (hexec : p.tables.exec = Jvm.exec) (hb : c.code = cc) (hl : l.stackTraces = false) {own cls text : String} {names : List String} {ik is ic mc ms sa : Nat} {A : Nat → Prop}
    (hown : s.vm.findClass own = some m.cls) (hcls : Bundle.fit cls = true) (hnames : ∀ n ∈ names, Bundle.fit n = true)
    (hk : (Cond.classLink own ik cls).before args s = true) (hini : (Cond.initialized cls).before args s = true) (hstr : vk_R own is text sa s) (hat : ∀ w ∈ vx_atS own ic cls names, w.before args s = true)
    (hgood : ∀ w ∈ Cond.classLink own ik cls :: Cond.initialized cls :: vx_atS own ic cls names, vx_ot w = true)
    (hU : vx_Zq Bundle.tN "UNASSIGNED_STACK" Bundle.steD A s s.heap) (hN : vx_Zq Bundle.tN "SUPPRESSED_SENTINEL" Bundle.listD A s s.heap) (hS : va_S A s.heap H locs) (hsize : ls.size = c.maxLocals)
    (d0 : decode cc pc = .ok (.new ik, 3)) (d3 : decode cc (pc + 3) = .ok (.dup, 1)) (d4 : decode cc (pc + 4) = .ok (.ldc is, 2)) (d6 : decode cc (pc + 6) = .ok (.invokespecial ic, 3)) (d9 : decode cc (pc + 9) = .ok (.athrow, 1))
    (hout : ∀ x ∈ c.exceptionTable.toList, covers x (pc + 9) = false)
    (hRframes : names.length + 3 < R.frames) (hRlocals : (rest.map fun v => v.category).sum + (13 * (names.length + 1) + 43) ≤ R.locals) (hRcells : cells + 1 ≤ R.cells) (hRslots : slots + 6 ≤ R.slots) (hlocks : meth.locks = false)
    (hx : ∀ t : State, s.vm.Alike t.vm → H.size ≤ t.heap.size → (∀ q : Nat, q < H.size → t.heap[q]? = H[q]?) → XC cls s t)
    (hf : ∀ z ∈ locs, free z.base) (hc : cells + 1 ≤ mc) (hs : slots + 6 ≤ ms) :
    W p l e R s m args below meth c H locs cells slots (vx_MQ below Qc XC args s mc ms free) (F0 m pc ls rest) := by
  intro T hT X
  have htr : e.platform.stackTraces = false := (show e.platform.stackTraces = l.stackTraces by rw [X.admits.platform]).trans hl
  have Y := vx_rebase X (R' := { frames := R.frames, locals := R.locals, cells := 1, slots := 6 }) (Nat.le_refl _) (Nat.le_refl _) hRcells hRslots
  obtain ⟨s', hA⟩ : ∃ z, z = (T.setVm s.vm).setFrames (.invoking m args :: below) := ⟨_, rfl⟩
  rw [← hA] at Y
  have hvm : s'.vm = s.vm := by rw [hA]; rfl
  have hhp : s'.heap = H := by rw [hA]; exact hT
  have hW0 : s.WarmedH s'.vm := by rw [hvm]; exact State.WarmedH.refl s
  have hat' : ∀ w ∈ vx_atS own ic cls names, w.before args s' = true := fun w hw => vx_ot_at hW0 hvm.symm (hgood w (List.mem_cons_of_mem _ (List.mem_cons_of_mem _ hw))) (hat w hw)
  have hk' : (Cond.classLink own ik cls).before args s' = true := vx_ot_at hW0 hvm.symm (hgood _ List.mem_cons_self) hk
  have hini' : (Cond.initialized cls).before args s' = true := vx_ot_at hW0 hvm.symm (hgood _ (List.mem_cons_of_mem _ List.mem_cons_self)) hini
  have hU' : vx_Zq Bundle.tN "UNASSIGNED_STACK" Bundle.steD A s' s'.heap := by rw [hhp]; exact vx_Zq.moved hW0.alike (hU.kept hS.2.1)
  have hN' : vx_Zq Bundle.tN "SUPPRESSED_SENTINEL" Bundle.listD A s' s'.heap := by rw [hhp]; exact vx_Zq.moved hW0.alike (hN.kept hS.2.1)
  have h : ∀ w ∈ Bundle.ownAtoms own ic cls names, w.before args s' = true := vx_own hat' (vx_isRefq hU'.1) (vx_isRefq hN'.1) hU'.2.word hN'.2.word
  have hown' : s'.vm.findClass own = some m.cls := by rw [hvm]; exact hown
  have hins : (Cond.instantiable cls 6).before args s' = true := h _ (by simp [Bundle.ownAtoms])
  obtain ⟨vm₁, cX, kX, hfX, hkX, -, -, X₁, st1⟩ := Y.newCold hexec (own := own) (C := cls) (index := ik) (n := 6) hown' hk' hins hini'
    (g := F0 m pc ls rest) rfl (by rw [hb]; exact d0) (Nat.le_refl _) (Nat.le_refl _)
  generalize hT1 : (T.setVm vm₁).pushCell { cls := cX, slots := kX.instanceTypes.map defaultValue, vm := .none } = T1 at X₁ st1
  have hcat : (Value.ref T.heap.size).category = 1 := rfl
  have hcellA : T1.heap[T.heap.size]? = some (freshCell cX kX) := by rw [← hT1]; exact State.heap_pushCell_size _ _
  have d3' : decode c.code (pc + 3) = .ok (.dup, 1) := by rw [hb]; exact d3
  have d4' : decode c.code (pc + 4) = .ok (.ldc is, 2) := by rw [hb]; exact d4
  have hstr' : vk_R own is text sa s' := vk_R.warm hW0 hstr
  obtain ⟨U, hsteps, hrun, hend, hW, hsame, ce, hce, hO⟩ := X₁.ctorThrowS hexec htr (own := own) (cls := cls) (names := names) (ic := ic) hown' hcls hnames h (fun x hx => nomatch hx) hfX hkX hcellA (by rw [hhp, hT]; exact Nat.le_refl _) (msg := .ref sa) rfl
    (g := { method := m, pc := pc + 6, locals := ls, stack := .ref sa :: .ref T.heap.size :: .ref T.heap.size :: rest, locked := none }) rfl hsize rfl rfl (rest := rest) rfl
    (by rw [hb]; exact d6) (by rw [hb]; exact d9) hout hRframes (by simp only [List.map_cons, List.sum_cons, hcat]; omega) hlocks
  obtain ⟨f1, f2⟩ := vx_frame hsame
  rw [hhp] at f1 f2
  have hWs : s.WarmedH U.vm := State.WarmedH.trans hW0 hW
  have hcl : s.vm.findClass cls = some ce.cls := by
    have h9 := hO.cls
    rw [hvm] at h9
    exact h9
  have hall : s.sameButNew ({ U with vm := s.vm } : State) locs mc ms := by
    subst hA
    obtain ⟨e1, e2⟩ := hsame
    rw [State.setFrames_setFrames] at e1
    have h2 : (T.setVm s.vm).sameButNew ({ U with vm := s.vm } : State) [] (0 + 1) (0 + 6) := ⟨e1, e2⟩
    have h3 := X.same.trans h2
    rw [List.append_nil] at h3
    exact h3.mono hc hs
  refine ⟨U, ?_, .threw T.heap.size, hrun, hend, Or.inr ⟨T.heap.size, rfl, cls, ce, locs, hx U hWs.alike f1 (fun q hq => f2 q hq (fun z hz => nomatch hz)), hce, hO.vm, hcl, hWs, hall, hf⟩⟩
  refine st1 _ ?_
  show Steps p.tables e below (T1.setTop { method := m, pc := pc + 3, locals := ls, stack := .ref T.heap.size :: rest, locked := none }) _
  jvm_step X₁.here [X₁.here.top, hexec, d3', Value.category]
  exact X₁.ldcString hexec (own := own) (text := text) (index := is) (a := sa) hown' hstr'.1 hstr'.2
    (g := { method := m, pc := pc + 4, locals := ls, stack := .ref T.heap.size :: .ref T.heap.size :: rest, locked := none }) rfl d4' _ hsteps
/-- 'throw new E("text")', the text by a wide index -/
theorem vx_throwSW {cc : ByteArray} {pc : Nat} (hexec : p.tables.exec = Jvm.exec) (hb : c.code = cc) (hl : l.stackTraces = false) {own cls text : String} {names : List String} {ik is ic mc ms sa : Nat} {A : Nat → Prop}
    (hown : s.vm.findClass own = some m.cls) (hcls : Bundle.fit cls = true) (hnames : ∀ n ∈ names, Bundle.fit n = true)
    (hk : (Cond.classLink own ik cls).before args s = true) (hini : (Cond.initialized cls).before args s = true) (hstr : vk_R own is text sa s) (hat : ∀ w ∈ vx_atS own ic cls names, w.before args s = true)
    (hgood : ∀ w ∈ Cond.classLink own ik cls :: Cond.initialized cls :: vx_atS own ic cls names, vx_ot w = true)
    (hU : vx_Zq Bundle.tN "UNASSIGNED_STACK" Bundle.steD A s s.heap) (hN : vx_Zq Bundle.tN "SUPPRESSED_SENTINEL" Bundle.listD A s s.heap) (hS : va_S A s.heap H locs) (hsize : ls.size = c.maxLocals)
    (d0 : decode cc pc = .ok (.new ik, 3)) (d3 : decode cc (pc + 3) = .ok (.dup, 1)) (d4 : decode cc (pc + 4) = .ok (.ldc_w is, 3)) (d7 : decode cc (pc + 7) = .ok (.invokespecial ic, 3)) (d10 : decode cc (pc + 10) = .ok (.athrow, 1))
    (hout : ∀ x ∈ c.exceptionTable.toList, covers x (pc + 10) = false)
    (hRframes : names.length + 3 < R.frames) (hRlocals : (rest.map fun v => v.category).sum + (13 * (names.length + 1) + 43) ≤ R.locals) (hRcells : cells + 1 ≤ R.cells) (hRslots : slots + 6 ≤ R.slots) (hlocks : meth.locks = false)
    (hx : ∀ t : State, s.vm.Alike t.vm → H.size ≤ t.heap.size → (∀ q : Nat, q < H.size → t.heap[q]? = H[q]?) → XC cls s t)
    (hf : ∀ z ∈ locs, free z.base) (hc : cells + 1 ≤ mc) (hs : slots + 6 ≤ ms) :
    W p l e R s m args below meth c H locs cells slots (vx_MQ below Qc XC args s mc ms free) (F0 m pc ls rest) := by
  intro T hT X
  have htr : e.platform.stackTraces = false := (show e.platform.stackTraces = l.stackTraces by rw [X.admits.platform]).trans hl
  have Y := vx_rebase X (R' := { frames := R.frames, locals := R.locals, cells := 1, slots := 6 }) (Nat.le_refl _) (Nat.le_refl _) hRcells hRslots
  obtain ⟨s', hA⟩ : ∃ z, z = (T.setVm s.vm).setFrames (.invoking m args :: below) := ⟨_, rfl⟩
  rw [← hA] at Y
  have hvm : s'.vm = s.vm := by rw [hA]; rfl
  have hhp : s'.heap = H := by rw [hA]; exact hT
  have hW0 : s.WarmedH s'.vm := by rw [hvm]; exact State.WarmedH.refl s
  have hat' : ∀ w ∈ vx_atS own ic cls names, w.before args s' = true := fun w hw => vx_ot_at hW0 hvm.symm (hgood w (List.mem_cons_of_mem _ (List.mem_cons_of_mem _ hw))) (hat w hw)
  have hk' : (Cond.classLink own ik cls).before args s' = true := vx_ot_at hW0 hvm.symm (hgood _ List.mem_cons_self) hk
  have hini' : (Cond.initialized cls).before args s' = true := vx_ot_at hW0 hvm.symm (hgood _ (List.mem_cons_of_mem _ List.mem_cons_self)) hini
  have hU' : vx_Zq Bundle.tN "UNASSIGNED_STACK" Bundle.steD A s' s'.heap := by rw [hhp]; exact vx_Zq.moved hW0.alike (hU.kept hS.2.1)
  have hN' : vx_Zq Bundle.tN "SUPPRESSED_SENTINEL" Bundle.listD A s' s'.heap := by rw [hhp]; exact vx_Zq.moved hW0.alike (hN.kept hS.2.1)
  have h : ∀ w ∈ Bundle.ownAtoms own ic cls names, w.before args s' = true := vx_own hat' (vx_isRefq hU'.1) (vx_isRefq hN'.1) hU'.2.word hN'.2.word
  have hown' : s'.vm.findClass own = some m.cls := by rw [hvm]; exact hown
  have hins : (Cond.instantiable cls 6).before args s' = true := h _ (by simp [Bundle.ownAtoms])
  obtain ⟨vm₁, cX, kX, hfX, hkX, -, -, X₁, st1⟩ := Y.newCold hexec (own := own) (C := cls) (index := ik) (n := 6) hown' hk' hins hini'
    (g := F0 m pc ls rest) rfl (by rw [hb]; exact d0) (Nat.le_refl _) (Nat.le_refl _)
  generalize hT1 : (T.setVm vm₁).pushCell { cls := cX, slots := kX.instanceTypes.map defaultValue, vm := .none } = T1 at X₁ st1
  have hcat : (Value.ref T.heap.size).category = 1 := rfl
  have hcellA : T1.heap[T.heap.size]? = some (freshCell cX kX) := by rw [← hT1]; exact State.heap_pushCell_size _ _
  have d3' : decode c.code (pc + 3) = .ok (.dup, 1) := by rw [hb]; exact d3
  have d4' : decode c.code (pc + 4) = .ok (.ldc_w is, 3) := by rw [hb]; exact d4
  have hstr' : vk_R own is text sa s' := vk_R.warm hW0 hstr
  obtain ⟨U, hsteps, hrun, hend, hW, hsame, ce, hce, hO⟩ := X₁.ctorThrowS hexec htr (own := own) (cls := cls) (names := names) (ic := ic) hown' hcls hnames h (fun x hx => nomatch hx) hfX hkX hcellA (by rw [hhp, hT]; exact Nat.le_refl _) (msg := .ref sa) rfl
    (g := { method := m, pc := pc + 7, locals := ls, stack := .ref sa :: .ref T.heap.size :: .ref T.heap.size :: rest, locked := none }) rfl hsize rfl rfl (rest := rest) rfl
    (by rw [hb]; exact d7) (by rw [hb]; exact d10) hout hRframes (by simp only [List.map_cons, List.sum_cons, hcat]; omega) hlocks
  obtain ⟨f1, f2⟩ := vx_frame hsame
  rw [hhp] at f1 f2
  have hWs : s.WarmedH U.vm := State.WarmedH.trans hW0 hW
  have hcl : s.vm.findClass cls = some ce.cls := by
    have h9 := hO.cls
    rw [hvm] at h9
    exact h9
  have hall : s.sameButNew ({ U with vm := s.vm } : State) locs mc ms := by
    subst hA
    obtain ⟨e1, e2⟩ := hsame
    rw [State.setFrames_setFrames] at e1
    have h2 : (T.setVm s.vm).sameButNew ({ U with vm := s.vm } : State) [] (0 + 1) (0 + 6) := ⟨e1, e2⟩
    have h3 := X.same.trans h2
    rw [List.append_nil] at h3
    exact h3.mono hc hs
  refine ⟨U, ?_, .threw T.heap.size, hrun, hend, Or.inr ⟨T.heap.size, rfl, cls, ce, locs, hx U hWs.alike f1 (fun q hq => f2 q hq (fun z hz => nomatch hz)), hce, hO.vm, hcl, hWs, hall, hf⟩⟩
  refine st1 _ ?_
  show Steps p.tables e below (T1.setTop { method := m, pc := pc + 3, locals := ls, stack := .ref T.heap.size :: rest, locked := none }) _
  jvm_step X₁.here [X₁.here.top, hexec, d3', Value.category]
  exact X₁.ldcStringW hexec (own := own) (text := text) (index := is) (a := sa) hown' hstr'.1 hstr'.2
    (g := { method := m, pc := pc + 4, locals := ls, stack := .ref T.heap.size :: .ref T.heap.size :: rest, locked := none }) rfl d4' _ hsteps
end Ends
section Bodies
variable {l : Launch}
theorem vx_ofW {y : MethodName} {ws ws' : List Cond} {rm : Room} {Pc : Array Value → State → Prop} {Qc : Array Value → State → Outcome → State → Prop} {XC : String → State → State → Prop} {mc ms : Nat} {free : Addr → Prop} {cc : ByteArray} {maxL : Nat} {ret : Option FieldType}
    (hy : plainName y.cls = true) (hw : ws = Cond.code y cc maxL ret :: ws')
    (body : ∀ p e s m args below meth c s₁, BodyLoose p l y (headSpec ws rm) cc maxL ret e s m args below meth c s₁ → c.maxLocals = maxL → (∀ x ∈ c.exceptionTable.toList, False) → Pc args s →
      W p l e (headSpec ws rm).room s m args below meth c s.heap [] 0 0 (vx_MQ below Qc XC args s mc ms free) (entryFrame m args maxL)) : vx_Met l y ws rm Pc Qc XC mc ms free := by
  refine MetFree.of_bodyS (code := cc) (maxLocals := maxL) (ret := ret) hy ?_ ?_
  · intro args s m h hn
    obtain ⟨meth, c, h1, h2, h3, h4, h5, h6, -, -⟩ := Cond.code_spec hn (atoms_spec (ws := ws) h _ (by rw [hw]; exact List.mem_cons_self))
    exact ⟨meth, c, h1, h2, h3, h4, h5, h6⟩
  · intro p e s m args below meth c s₁ B hml hP _
    have hh0 : s₁.heap = s.heap := by rw [B.state]; rfl
    have ht : ∀ x ∈ c.exceptionTable.toList, False := by
      obtain ⟨meth9, c9, h1, h2, -, -, -, -, h7, -⟩ := Cond.code_spec B.named (atoms_spec (ws := ws) B.pre _ (by rw [hw]; exact List.mem_cons_self))
      cases Option.some.inj (h1.symm.trans B.method)
      cases Option.some.inj (h2.symm.trans (Stand.of_body B).code)
      intro x hx
      rw [Array.isEmpty_iff.mp h7] at hx
      cases hx
    obtain ⟨t, a1, o, b1, b2, b3⟩ := body p e s m args below meth c s₁ B hml ht hP s₁ hh0 (Stand.of_body B)
    exact ⟨t, o, a1, b1, b2, b3⟩
/-- the table of a body with handlers -/
theorem vx_table {p : Program} {x y : MethodName} {S : Spec} {cc bytes : ByteArray} {maxL maxL' : Nat} {ret ret' : Option FieldType} {e : Env} {s s₁ : State} {m : MethodId} {args : Array Value} {below : List Frame} {meth : Method} {c : Code} {hh : List (Nat × Nat × Nat × Nat)}
    (B : BodyLoose p l y S cc maxL ret e s m args below meth c s₁) (h : (Cond.codeWith y bytes maxL' ret' hh).before args s = true) : c.exceptionTable.toList = tableOf hh := by
  obtain ⟨m9, meth9, c9, hn9, h1, h2, -, -, h6, -⟩ := Cond.codeWith_spec h
  cases Option.some.inj (hn9.symm.trans B.named)
  cases Option.some.inj (h1.symm.trans B.method)
  cases Option.some.inj (h2.symm.trans (Stand.of_body B).code)
  rw [← h6, table_eq]
end Bodies
end VXA
/-! ===== END ===== -/
/-! ===== BEGIN a static call of a method with an exception table ===== -/
section VXS
variable {p : Program} {l : Launch} {e : Env} {R : Room} {s : State} {m : MethodId} {args : Array Value} {below : List Frame} {meth : Method} {c : Code} {T : State} {H : Heap} {locs : List Loc} {cells slots : Nat}
abbrev vx_CSW (R : Room) (s : State) (args : Array Value) (own : String) (index : Nat) (y : MethodName) (bytes : ByteArray) (maxL : Nat) (ret : Option FieldType) (hh : List (Nat × Nat × Nat × Nat)) (ws : List Cond) (rm : Room) (mc ms n : Nat) : Prop :=
  (rm.cells = mc ∧ rm.slots = ms ∧ rm.frames + 1 ≤ R.frames ∧ 8 + (maxL + 11) + rm.locals ≤ R.locals ∧ (∀ w ∈ ws, ∀ (a' : Array Value) (U : State), s.WarmedH U.vm → w.before a' U = true) ∧ Cond.codeWith y bytes maxL ret hh ∈ ws) ∧
  (Cond.codeWith y bytes maxL ret hh).before args s = true ∧ (Cond.initialized y.cls).before args s = true ∧ (y.cls ≠ "java/lang/invoke/MethodHandle" ∧ y.cls ≠ "java/lang/invoke/VarHandle") ∧
  (∀ sig, parseMethodDescriptor y.desc = some sig → n = sig.parameters.length) ∧ (Cond.methodLink own index y).before args s = true ∧ (Cond.static y).before args s = true
theorem vx_cwSW {own : String} {index maxL mc ms : Nat} {y : MethodName} {bytes : ByteArray} {ret : Option FieldType} {hh : List (Nat × Nat × Nat × Nat)} {Ts ws ws' : List Cond} {rm : Room} (n : Nat) (ht : ∀ w ∈ Ts, w.before args s = true) (hT : GoodIn Ts (va_wsS own index y ws)) (hw : ws = Cond.codeWith y bytes maxL ret hh :: ws') (hrc : rm.cells = mc) (hrs : rm.slots = ms)
    (hd : y.cls ≠ "java/lang/invoke/MethodHandle" ∧ y.cls ≠ "java/lang/invoke/VarHandle" ∧ (parseMethodDescriptor y.desc).map (fun d => d.parameters.length) = some n) (hR : rm.frames + 1 ≤ R.frames ∧ 8 + (maxL + 11) + rm.locals ≤ R.locals) :
    vx_CSW R s args own index y bytes maxL ret hh ws rm mc ms n := by
  have ok : ∀ w ∈ va_wsS own index y ws, w.before args s = true := fun w h => ht w (hT w h).1
  have hG : GoodIn Ts ws := fun w h => hT w (by unfold va_wsS; exact List.mem_append_right _ h)
  have hc : Cond.codeWith y bytes maxL ret hh ∈ ws := by rw [hw]; exact List.mem_cons_self
  refine ⟨⟨hrc, hrs, hR.1, hR.2, pay_in ht hG, hc⟩, ht _ (hG _ hc).1, ok _ (by simp [va_wsS]), ⟨hd.1, hd.2.1⟩, fun sig h => ?_, ok _ (by simp [va_wsS]), ok _ (by simp [va_wsS])⟩
  have h2 := hd.2.2
  rw [h] at h2
  exact (Option.some.inj h2).symm
theorem vx_callSW (X : Stand p l e R s m args below meth c T locs cells slots) (hexec : p.tables.exec = Jvm.exec) {own : String} {index : Nat} {y : MethodName} {bytes : ByteArray} {maxL : Nat} {ret : Option FieldType} {hh : List (Nat × Nat × Nat × Nat)}
    (hown : s.vm.findClass own = some m.cls) (hlink : (Cond.methodLink own index y).before args s = true) (hstat : (Cond.static y).before args s = true) (hinit : (Cond.initialized y.cls).before args s = true)
    (hcode : (Cond.codeWith y bytes maxL ret hh).before args s = true) (hy : y.cls ≠ "java/lang/invoke/MethodHandle" ∧ y.cls ≠ "java/lang/invoke/VarHandle")
    {W9 : Nat} {Pre : Pt → Array Value → Prop} {Post : Pt → Array Value → Option Value → Pt → Prop} (hK : Back l R p e below s args y 3 W9 Pre Post)
    {g : JFrame} (hg : g.method = m) (hsize : g.locals.size = c.maxLocals) {argsL rest : List Value} (hlen : ∀ sig, parseMethodDescriptor y.desc = some sig → argsL.length = sig.parameters.length)
    (hstack : g.stack = argsL.reverse ++ rest) (hW : 2 * g.monitorRoom + (rest.map fun v => v.category).sum ≤ W9) (hdg : decode c.code g.pc = .ok (.invokestatic index, 3))
    (hpre : ∀ vm₁, s.WarmedH vm₁ → Pre ⟨T.setVm vm₁, locs, cells, slots⟩ argsL.toArray) :
    ∃ (v : Option Value) (vm₁ : Vm) (B : Pt), s.WarmedH vm₁ ∧ Stand p l e R s m args below meth c B.U B.locs B.cells B.slots ∧ Post ⟨T.setVm vm₁, locs, cells, slots⟩ argsL.toArray v B ∧
      ∀ target, Steps p.tables e below (B.U.setTop { g with pc := g.pc + 3, stack := v.toList ++ rest }) target → Steps p.tables e below (T.setTop g) target := by
  obtain ⟨mk, methM, cM, hnamed, hmethM, -, -, -, -, -, -, hsigM⟩ := Cond.codeWith_spec hcode
  have hstatic : methM.isStatic = true := Cond.static_spec hnamed hmethM hstat
  obtain ⟨kP, hkP, -⟩ := className_of_methodNamed hnamed
  have hinitP : kP.init = .initialized := Cond.initialized_spec (findClass_of_methodNamed hnamed) hkP hinit
  obtain ⟨vm₁, X₁, hstep₁⟩ := X.invokestatic hexec hown hlink hnamed hmethM hstatic hkP hinitP hy (g := g) hg (argsL := argsL) (rest := rest) (hlen _ hsigM) hstack hdg
  obtain ⟨v, B, X', hpost, hsteps⟩ := hK m meth c ⟨T.setVm vm₁, locs, cells, slots⟩ { g with stack := rest } (.invokestatic index) mk argsL.toArray X₁ hg hsize hdg hW (X₁.named hnamed) (hpre vm₁ X₁.warmed)
  exact ⟨v, vm₁, B, X₁.warmed, X', hpost, fun target h => hstep₁ _ fun acts => by rw [doInvoke_state]; exact hsteps.trans h⟩
theorem vx_runSW {y : MethodName} {bytes cc : ByteArray} {maxL nL mc ms n index : Nat} {ret : Option FieldType} {hh : List (Nat × Nat × Nat × Nat)} {ws : List Cond} {rm : Room} {Pc : Array Value → State → Prop} {Qc : Array Value → State → Outcome → State → Prop} {free : Addr → Prop} {Ts : List Cond} {own : String} {As rest : List Value} {g : JFrame}
    (S : CallFix p m c cc nL s args Ts own) (hM : Met l y ws rm Pc Qc mc ms free) (cw : vx_CSW R s args own index y bytes maxL ret hh ws rm mc ms n) (hp : PreS s H Pc As)
    (hg : g.method = m) (hn : As.length = n) (hsize : g.locals.size = nL) (hstack : g.stack = As.reverse ++ rest) (hW : 2 * g.monitorRoom + (rest.map fun v => v.category).sum ≤ 8) (hdg : decode cc g.pc = .ok (.invokestatic index, 3)) (hf : cells + mc ≤ R.cells ∧ slots + ms ≤ R.slots) :
    va_Run p l e R s m args below meth c H locs cells slots mc ms g rest (Qc As.toArray) (free) := by
  obtain ⟨⟨hrc, hrs, hfr, hlo, hws, hcw⟩, hcode, hini, hy, hlen, hl, hstt⟩ := cw
  have hK : Back l R p e below s args y 3 8 (PreOf R mc ms Pc) (PostOf Qc mc ms free) := va_backW (hh := hh) (bytes := bytes) (maxL := maxL) (ret := ret) hM hp.1 hrc hrs hfr hlo hws hcw (fun a' U hW => word_at hW (Or.inl (by first | rfl | simp [Cond.onTables, Cond.keeps, Cond.steady])) hini)
  obtain ⟨hx, hb, hml, ho, -⟩ := S
  intro T hT X
  obtain ⟨v, vm₁, ⟨U', l2, c2, s2⟩, hW₁, X', ⟨g', mk, t, L, e1, e2, hq, h1, hL, h2, h3⟩, st⟩ := vx_callSW X hx (hh := hh) (bytes := bytes) (maxL := maxL) (ret := ret) ho hl hstt hini hcode hy hK hg (hsize.trans hml.symm) (argsL := As) (rest := rest) (fun sig h => hn.trans (hlen sig h)) hstack hW (by rw [hb]; exact hdg)
    (fun vm₁ hW₁ => ⟨hf.1, hf.2, hp.2 (T.setVm vm₁) hT hW₁⟩)
  dsimp only [Pt.U, Pt.locs, Pt.cells, Pt.slots] at X' e1 e2 h1 h2 h3 st
  subst h1; subst h2; subst h3
  exact ⟨v, (T.setVm vm₁).calling g' mk As.toArray, t, U', L, hT, X', hL, e1, e2, hq, st⟩
/-- not caught here, past rows that name other classes: it goes on to the caller -/
theorem vx_outP {p : Program} {l : Launch} {e : Env} {R : Room} {s : State} {m : MethodId} {args : Array Value} {below : List Frame} {meth : Method} {c : Code} {H : Heap} {locs : List Loc} {cells slots : Nat} {free : Addr → Prop} {ls : Array Slot} {rest : List Value} {Qc : Array Value → State → Outcome → State → Prop} {XC : String → State → State → Prop}
    {pc : Nat} {own E : String} {ce : Cell} {q : Addr} {mc ms : Nat} (hown : s.vm.findClass own = some m.cls) (hlocks : meth.locks = false)
    (hpass : ∀ z ∈ c.exceptionTable.toList, covers z pc = false ∨ (z.catchType ≠ 0 ∧ ∃ nm : String, (Cond.classLink own z.catchType nm).before args s = true ∧ va_Nc E nm s)) (hcell : H[q]? = some ce) (hv : ce.vm = .none) (hcl : s.vm.findClass E = some ce.cls)
    (hx : ∀ t : State, t.heap = H → s.vm.Alike t.vm → XC E s t) (hf : ∀ z ∈ locs, free z.base) (hc : cells ≤ mc) (hs : slots ≤ ms) :
    vx_W p l e R s m args below meth c H locs cells slots (vx_MQ below Qc XC args s mc ms free) (F0 m pc ls rest) q := by
  intro T hT X
  have hpl : e.platform.magicAccessors = ({} : Platform).magicAccessors := by rw [X.admits.platform]
  obtain ⟨vm', hW', X', st⟩ := X.outThrough hlocks q (g := F0 m pc ls rest) rfl rfl rfl (cell := ce) (by rw [hT]; exact hcell) (by rw [hv]; rfl)
    (by obtain ⟨k9, h9, -⟩ := Vm.findClass_spec hcl; exact ⟨k9, h9⟩) (fun z hz => by
      rcases hpass z hz with h | ⟨hz0, nm, hl1, hn1⟩
      · exact Or.inl h
      · obtain ⟨c6, hc6, hcl6⟩ := Cond.classLink_spec hown hl1 e.platform hpl
        obtain ⟨a8, b8, h1, h2, h3⟩ := hn1
        cases Option.some.inj (h1.symm.trans hcl)
        cases Option.some.inj (h2.symm.trans hc6)
        exact Or.inr ⟨hz0, _, hcl6, h3⟩)
  obtain ⟨g₀, hfr⟩ := X'.frames_eq
  have hcell9 : ((T.setVm vm').setFrames (.throwing q :: below)).heap[q]? = some ce := by
    show T.heap[q]? = some ce
    rw [hT]; exact hcell
  have hend : Ended ((T.setVm vm').setFrames (.throwing q :: below)) below (.threw q) := State.frames_setFrames _ (State.cur_lt_of_frames hfr)
  refine ⟨(T.setVm vm').setFrames (.throwing q :: below), ?_, .threw q, X'.here.running, hend, Or.inr ⟨q, rfl, E, ce, locs, hx _ hT (X'.ends _).1.alike, hcell9, hv, hcl, (X'.ends _).1, (X'.ends _).2.mono hc hs, hf⟩⟩
  rw [X.pushThrowing_eq]
  exact st
/-- a thing of a world lies in the heap -/
theorem vx_lt {D : va_G} {cl : List vw_C} {ws : va_W} {H1 : Heap} (h : va_P D cl ws H1) {k : Nat} {q : Nat × va_E} (hk : ws[k]? = some q) : q.1 < H1.size := (h k q hk).lt
end VXS
/-! ===== END ===== -/
/-! ===== BEGIN methods with a table of their own: called by a name, returning or throwing ===== -/
section VXH
/-! vx_backW, vx_callVX, vx_callSX, vx_callVW, vx_runVW, vx_runVX, vx_runSX, vx_ofWH follow the same proofs as their sisters above (Free/Laws.lean, Shelf42/LK1.lean); vx_outP calls Shelf42/NT130.lean (outThrough). -/
section
variable {l : Launch} {R : Room} {p : Program} {e : Env} {below : List Frame} {s : State} {sargs : Array Value} {y : MethodName} {len W9 : Nat}
theorem vx_backW {ws : List Cond} {rm : Room} {Pc : Array Value → State → Prop} {Qc : Array Value → State → Outcome → State → Prop} {XC : String → State → State → Prop} {mc ms : Nat} {free : Addr → Prop} {bytes : ByteArray} {maxL : Nat} {ret : Option FieldType} {hh : List (Nat × Nat × Nat × Nat)}
    (hM : vx_Met l y ws rm Pc Qc XC mc ms free) (hblind : FrameBlind Pc) (hrc : rm.cells = mc) (hrs : rm.slots = ms)
    (hframes : rm.frames + 1 ≤ R.frames) (hlocals : W9 + (maxL + 11) + rm.locals ≤ R.locals)
    (hws : ∀ w ∈ ws, ∀ a' U, s.WarmedH U.vm → w.before a' U = true) (hcode : Cond.codeWith y bytes maxL ret hh ∈ ws) (hinit : ∀ a' U, s.WarmedH U.vm → (Cond.initialized y.cls).before a' U = true) :
    vx_Back l R p e below s sargs y len W9 (PreOf R mc ms Pc) (PostOf Qc mc ms free) (vx_Post XC mc ms free) := by
  intro m meth c A g ig mk a X hg hsize hdg hW hn hp
  have h1 : (headSpec ws rm).pre.before a A.U = true := atoms_intro fun w hw => hws w hw _ _ X.warmed
  have h2 : (Cond.codeWith y bytes maxL ret hh).before a A.U = true := hws _ hcode _ _ X.warmed
  have h3 : (Cond.initialized y.cls).before a A.U = true := hinit _ _ X.warmed
  have h4 : A.cells + (headSpec ws rm).room.cells ≤ R.cells := by rw [show (headSpec ws rm).room.cells = mc from hrc]; exact hp.1
  have h5 : A.slots + (headSpec ws rm).room.slots ≤ R.slots := by rw [show (headSpec ws rm).room.slots = ms from hrs]; exact hp.2.1
  have hPc : Pc a (A.U.calling g mk a) := hblind _ _ _ _ hp.2.2
  obtain ⟨U, Ls, c0, s0⟩ := A
  dsimp only [Pt.U, Pt.locs, Pt.cells, Pt.slots] at h1 h2 h3 h4 h5 X hn hPc ⊢
  obtain ⟨m9, methY, cY, hn9, hmY, hcY, -, hlY, -⟩ := Cond.codeWith_spec h2
  cases Option.some.inj (hn9.symm.trans hn)
  obtain ⟨kY, hkY, -⟩ := className_of_methodNamed hn
  have hinitY : kY.init = .initialized := Cond.initialized_spec (findClass_of_methodNamed hn) hkY h3
  have h : At U g.method c below := by rw [hg]; exact X.here
  have hlocals9 : W9 + (maxL + 11) + (headSpec ws rm).room.locals ≤ R.locals := hlocals
  have happ : (headSpec ws rm).appliesLoose y e.platform (U.calling g mk a) = true :=
    Spec.appliesLoose_calling (g := g) h hdg hn hkY hinitY
      (X.room_calling (g := g) (R' := (headSpec ws rm).room) hsize hmY hcY hframes (by rw [hlY]; omega) h4 h5) h1
  obtain ⟨mid, hmid⟩ := h.above
  have hfr : (U.setTop g).frames = (.java g :: mid) ++ below := by rw [State.frames_setTop' g h.top, hmid]; rfl
  obtain ⟨o, s₂, hsteps, -, hend, hq⟩ := Steps.callFree hM p X.admits X.cas X.clock (acts := []) hfr happ hPc trivial
  have hq' : vx_Q Qc XC mc ms free a (U.calling g mk a) o s₂ := hq
  rw [State.frames_setTop' g h.top] at hend
  obtain ⟨g₀, hg0⟩ := Option.isSome_iff_exists.mp h.top
  obtain ⟨r, hr⟩ := State.topJava?_eq_some.mp hg0
  have hr' : (({ U with heap := s₂.heap, slotsUsed := s₂.slotsUsed } : State).setVm s₂.vm).frames = .java g₀ :: r := hr
  rcases hq' with ⟨hqc, L, hfe, hL⟩ | ⟨q, rfl, E, ce, L, hx, hce, hcv, hcl, hW₂, hsm, hL⟩
  · obtain ⟨⟨v, rfl⟩, hW₂, e2, q2, q3, q4, q5, q6⟩ := id hfe
    have e3 : s₂ = ({ (U.calling g mk a).setFrames s₂.frames with heap := s₂.heap, slotsUsed := s₂.slotsUsed } : State).setVm s₂.vm := by
      have : s₂ = ({ s₂ with vm := (U.calling g mk a).vm } : State).setVm s₂.vm := rfl
      rw [e2] at this
      exact this
    obtain ⟨c₂, i₂, len₂, hc₂, hd₂, hf₂⟩ := hend
    have hW' : U.WarmedH s₂.vm := hW₂
    have hcc : c₂ = c := by
      have h1 : s₂.code? g.method = U.code? g.method := by
        rw [State.code?_eq, State.code?_eq, hW'.alike.method?]
      exact Option.some.inj (hc₂.symm.trans (h1.trans h.code))
    subst hcc
    have hlen : len₂ = len := by rw [hdg] at hd₂; cases hd₂; rfl
    subst hlen
    have hs₂ : s₂ = (({ U with heap := s₂.heap, slotsUsed := s₂.slotsUsed } : State).setVm s₂.vm).setTop { g with pc := g.pc + len₂, stack := v.toList ++ g.stack } := by
      refine e3.trans ?_
      rw [hf₂, State.calling_eq h.top, State.setFrames_setFrames, State.setTop_of_frames _ hr', hr]
      rfl
    have hsame : U.sameButNew ({ U with heap := s₂.heap, slotsUsed := s₂.slotsUsed } : State) L mc ms := by
      refine ⟨?_, q2, q3, q4, q5, q6⟩
      obtain ⟨t, ht, -⟩ := State.frames_cons hr
      show ({ U with heap := s₂.heap, slotsUsed := s₂.slotsUsed } : State) = { U.setFrames U.frames with heap := s₂.heap, slotsUsed := s₂.slotsUsed }
      rw [State.setFrames_self ht]
    subst hg
    refine Or.inl ⟨v, ⟨(({ U with heap := s₂.heap, slotsUsed := s₂.slotsUsed } : State).setVm s₂.vm), Ls ++ L, c0 + mc, s0 + ms⟩,
      ⟨X.admits, X.cas, X.clock, X.frames, X.room, X.hears, X.method, X.code, (X.here.setHeapUsed s₂.heap s₂.slotsUsed).setVm hW'.alike, X.tail, State.WarmedH.trans X.warmed hW', X.limits, X.bytes, X.same.trans (hsame.setVm s.vm)⟩,
      ⟨g, mk, s₂, L, rfl, rfl, hqc, rfl, hL, rfl, rfl⟩, ?_⟩
    show Steps p.tables e below _ ((({ U with heap := s₂.heap, slotsUsed := s₂.slotsUsed } : State).setVm s₂.vm).setTop { g with pc := g.pc + len₂, stack := v.toList ++ g.stack })
    rw [← hs₂]
    exact hsteps
  · obtain ⟨e2, q2, q3, q4, q5, q6⟩ := id hsm
    have e3 : s₂ = ({ (U.calling g mk a).setFrames s₂.frames with heap := s₂.heap, slotsUsed := s₂.slotsUsed } : State).setVm s₂.vm := by
      have : s₂ = ({ s₂ with vm := (U.calling g mk a).vm } : State).setVm s₂.vm := rfl
      rw [e2] at this
      exact this
    have hf₂ : s₂.frames = .throwing q :: .java g :: U.frames.tail := hend
    have hW' : U.WarmedH s₂.vm := hW₂
    have hs₂ : s₂ = ((({ U with heap := s₂.heap, slotsUsed := s₂.slotsUsed } : State).setVm s₂.vm).setTop g).pushFrame (.throwing q) := by
      refine e3.trans ?_
      rw [hf₂, State.calling_eq h.top, State.setFrames_setFrames, State.pushFrame, State.frames_setTop _ hr', State.setTop_of_frames _ hr', State.setFrames_setFrames, hr]
      rfl
    have hsame : U.sameButNew ({ U with heap := s₂.heap, slotsUsed := s₂.slotsUsed } : State) L mc ms := by
      refine ⟨?_, q2, q3, q4, q5, q6⟩
      obtain ⟨t, ht, -⟩ := State.frames_cons hr
      show ({ U with heap := s₂.heap, slotsUsed := s₂.slotsUsed } : State) = { U.setFrames U.frames with heap := s₂.heap, slotsUsed := s₂.slotsUsed }
      rw [State.setFrames_self ht]
    subst hg
    refine Or.inr ⟨q, ⟨(({ U with heap := s₂.heap, slotsUsed := s₂.slotsUsed } : State).setVm s₂.vm), Ls ++ L, c0 + mc, s0 + ms⟩,
      ⟨X.admits, X.cas, X.clock, X.frames, X.room, X.hears, X.method, X.code, (X.here.setHeapUsed s₂.heap s₂.slotsUsed).setVm hW'.alike, X.tail, State.WarmedH.trans X.warmed hW', X.limits, X.bytes, X.same.trans (hsame.setVm s.vm)⟩,
      ⟨g, mk, s₂, L, E, ce, rfl, rfl, hx, hce, hcv, hcl, rfl, hL, rfl, rfl⟩, ?_⟩
    show Steps p.tables e below _ (((({ U with heap := s₂.heap, slotsUsed := s₂.slotsUsed } : State).setVm s₂.vm).setTop g).pushFrame (.throwing q))
    rw [← hs₂]
    exact hsteps
end
variable {p : Program} {l : Launch} {e : Env} {R : Room} {s : State} {m : MethodId} {args : Array Value} {below : List Frame} {meth : Method} {c : Code} {T : State} {H : Heap} {locs : List Loc} {cells slots : Nat}
theorem vx_callVX (X : Stand p l e R s m args below meth c T locs cells slots) (hexec : p.tables.exec = Jvm.exec) {own C : String} {index : Nat} {y : MethodName} {bytes : ByteArray} {maxL : Nat} {ret : Option FieldType} {hh : List (Nat × Nat × Nat × Nat)}
    (hown : s.vm.findClass own = some m.cls) (hlink : (Cond.methodLink own index y).before args s = true) (hinst : (Cond.instanceMethod y).before args s = true) (hsel : (Cond.selects C y y).before args s = true)
    (hcode : (Cond.codeWith y bytes maxL ret hh).before args s = true) (hy : y.cls ≠ "java/lang/invoke/MethodHandle" ∧ y.cls ≠ "java/lang/invoke/VarHandle")
    {W9 : Nat} {Pre : Pt → Array Value → Prop} {Post : Pt → Array Value → Option Value → Pt → Prop} {PostX : Pt → Array Value → Addr → Pt → Prop} (hK : vx_Back l R p e below s args y 3 W9 Pre Post PostX)
    {b : Addr} {cellB : Cell} (hcell : T.heap[b]? = some cellB) (hobj : cellB.vm.isStatics = false) (hcls : s.vm.findClass C = some cellB.cls)
    {g : JFrame} (hg : g.method = m) (hsize : g.locals.size = c.maxLocals) {argsL rest : List Value} (hlen : ∀ sig, parseMethodDescriptor y.desc = some sig → argsL.length = sig.parameters.length)
    (hstack : g.stack = argsL.reverse ++ .ref b :: rest) (hW : 2 * g.monitorRoom + (rest.map fun v => v.category).sum ≤ W9) (hdg : decode c.code g.pc = .ok (.invokevirtual index, 3))
    (hpre : ∀ vm₁, s.WarmedH vm₁ → Pre ⟨T.setVm vm₁, locs, cells, slots⟩ (Value.ref b :: argsL).toArray) :
    (∃ (v : Option Value) (vm₁ : Vm) (B : Pt), s.WarmedH vm₁ ∧ Stand p l e R s m args below meth c B.U B.locs B.cells B.slots ∧ Post ⟨T.setVm vm₁, locs, cells, slots⟩ (Value.ref b :: argsL).toArray v B ∧
      ∀ target, Steps p.tables e below (B.U.setTop { g with pc := g.pc + 3, stack := v.toList ++ rest }) target → Steps p.tables e below (T.setTop g) target) ∨
    (∃ (q : Addr) (vm₁ : Vm) (B : Pt), s.WarmedH vm₁ ∧ Stand p l e R s m args below meth c B.U B.locs B.cells B.slots ∧ PostX ⟨T.setVm vm₁, locs, cells, slots⟩ (Value.ref b :: argsL).toArray q B ∧
      Steps p.tables e below (T.setTop g) ((B.U.setTop { g with stack := rest }).pushFrame (.throwing q))) := by
  obtain ⟨mk, methM, hnamed, hmethM, hstM, habM⟩ := Cond.instanceMethod_spec hinst
  obtain ⟨m8, methM', cM, hn8, hmethM', -, -, -, -, -, -, hsigM⟩ := Cond.codeWith_spec hcode
  cases Option.some.inj (hn8.symm.trans hnamed)
  cases hmethM.symm.trans hmethM'
  obtain ⟨c2, r2, m2, q1, q2, q3, q4, kP, hkP, hkPi⟩ := Cond.selects_spec hsel
  cases hcls.symm.trans q1
  cases (State.methodFound?_of_named hnamed hy).symm.trans q2
  cases hnamed.symm.trans q3
  have hselP : selectMethod e.platform s.vm cellB.cls mk = .method mk := by rw [Launch.admits_selectMethod X.admits]; exact q4
  obtain ⟨vm₁, X₁, hstep₁⟩ := X.invokevirtual hexec hown hlink hnamed hmethM hstM hkP hkPi hy (a := b) (cell := cellB) hcell
    (fun z h => by rw [h] at hobj; cases hobj) hselP hmethM habM hkP hkPi (g := g) hg (argsL := argsL) (rest := rest) (hlen _ hsigM) hstack hdg
  rcases hK m meth c ⟨T.setVm vm₁, locs, cells, slots⟩ { g with stack := rest } (.invokevirtual index) mk (Value.ref b :: argsL).toArray X₁ hg hsize hdg hW (X₁.named hnamed) (hpre vm₁ X₁.warmed) with ⟨v, B, X', hpost, hsteps⟩ | ⟨q, B, X', hpost, hsteps⟩
  · exact Or.inl ⟨v, vm₁, B, X₁.warmed, X', hpost, fun target h => hstep₁ _ fun acts => by rw [doInvoke_state]; exact hsteps.trans h⟩
  · exact Or.inr ⟨q, vm₁, B, X₁.warmed, X', hpost, hstep₁ _ fun acts => by rw [doInvoke_state]; exact hsteps⟩
theorem vx_callSX (X : Stand p l e R s m args below meth c T locs cells slots) (hexec : p.tables.exec = Jvm.exec) {own : String} {index : Nat} {y : MethodName} {bytes : ByteArray} {maxL : Nat} {ret : Option FieldType} {hh : List (Nat × Nat × Nat × Nat)}
    (hown : s.vm.findClass own = some m.cls) (hlink : (Cond.methodLink own index y).before args s = true) (hstat : (Cond.static y).before args s = true) (hinit : (Cond.initialized y.cls).before args s = true)
    (hcode : (Cond.codeWith y bytes maxL ret hh).before args s = true) (hy : y.cls ≠ "java/lang/invoke/MethodHandle" ∧ y.cls ≠ "java/lang/invoke/VarHandle")
    {W9 : Nat} {Pre : Pt → Array Value → Prop} {Post : Pt → Array Value → Option Value → Pt → Prop} {PostX : Pt → Array Value → Addr → Pt → Prop} (hK : vx_Back l R p e below s args y 3 W9 Pre Post PostX)
    {g : JFrame} (hg : g.method = m) (hsize : g.locals.size = c.maxLocals) {argsL rest : List Value} (hlen : ∀ sig, parseMethodDescriptor y.desc = some sig → argsL.length = sig.parameters.length)
    (hstack : g.stack = argsL.reverse ++ rest) (hW : 2 * g.monitorRoom + (rest.map fun v => v.category).sum ≤ W9) (hdg : decode c.code g.pc = .ok (.invokestatic index, 3))
    (hpre : ∀ vm₁, s.WarmedH vm₁ → Pre ⟨T.setVm vm₁, locs, cells, slots⟩ argsL.toArray) :
    (∃ (v : Option Value) (vm₁ : Vm) (B : Pt), s.WarmedH vm₁ ∧ Stand p l e R s m args below meth c B.U B.locs B.cells B.slots ∧ Post ⟨T.setVm vm₁, locs, cells, slots⟩ argsL.toArray v B ∧
      ∀ target, Steps p.tables e below (B.U.setTop { g with pc := g.pc + 3, stack := v.toList ++ rest }) target → Steps p.tables e below (T.setTop g) target) ∨
    (∃ (q : Addr) (vm₁ : Vm) (B : Pt), s.WarmedH vm₁ ∧ Stand p l e R s m args below meth c B.U B.locs B.cells B.slots ∧ PostX ⟨T.setVm vm₁, locs, cells, slots⟩ argsL.toArray q B ∧
      Steps p.tables e below (T.setTop g) ((B.U.setTop { g with stack := rest }).pushFrame (.throwing q))) := by
  obtain ⟨mk, methM, cM, hnamed, hmethM, -, -, -, -, -, -, hsigM⟩ := Cond.codeWith_spec hcode
  have hstatic : methM.isStatic = true := Cond.static_spec hnamed hmethM hstat
  obtain ⟨kP, hkP, -⟩ := className_of_methodNamed hnamed
  have hinitP : kP.init = .initialized := Cond.initialized_spec (findClass_of_methodNamed hnamed) hkP hinit
  obtain ⟨vm₁, X₁, hstep₁⟩ := X.invokestatic hexec hown hlink hnamed hmethM hstatic hkP hinitP hy (g := g) hg (argsL := argsL) (rest := rest) (hlen _ hsigM) hstack hdg
  rcases hK m meth c ⟨T.setVm vm₁, locs, cells, slots⟩ { g with stack := rest } (.invokestatic index) mk argsL.toArray X₁ hg hsize hdg hW (X₁.named hnamed) (hpre vm₁ X₁.warmed) with ⟨v, B, X', hpost, hsteps⟩ | ⟨q, B, X', hpost, hsteps⟩
  · exact Or.inl ⟨v, vm₁, B, X₁.warmed, X', hpost, fun target h => hstep₁ _ fun acts => by rw [doInvoke_state]; exact hsteps.trans h⟩
  · exact Or.inr ⟨q, vm₁, B, X₁.warmed, X', hpost, hstep₁ _ fun acts => by rw [doInvoke_state]; exact hsteps⟩
theorem vx_callVW (X : Stand p l e R s m args below meth c T locs cells slots) (hexec : p.tables.exec = Jvm.exec) {own C : String} {index : Nat} {y : MethodName} {bytes : ByteArray} {maxL : Nat} {ret : Option FieldType} {hh : List (Nat × Nat × Nat × Nat)}
    (hown : s.vm.findClass own = some m.cls) (hlink : (Cond.methodLink own index y).before args s = true) (hinst : (Cond.instanceMethod y).before args s = true) (hsel : (Cond.selects C y y).before args s = true)
    (hcode : (Cond.codeWith y bytes maxL ret hh).before args s = true) (hy : y.cls ≠ "java/lang/invoke/MethodHandle" ∧ y.cls ≠ "java/lang/invoke/VarHandle")
    {W9 : Nat} {Pre : Pt → Array Value → Prop} {Post : Pt → Array Value → Option Value → Pt → Prop} (hK : Back l R p e below s args y 3 W9 Pre Post)
    {b : Addr} {cellB : Cell} (hcell : T.heap[b]? = some cellB) (hobj : cellB.vm.isStatics = false) (hcls : s.vm.findClass C = some cellB.cls)
    {g : JFrame} (hg : g.method = m) (hsize : g.locals.size = c.maxLocals) {argsL rest : List Value} (hlen : ∀ sig, parseMethodDescriptor y.desc = some sig → argsL.length = sig.parameters.length)
    (hstack : g.stack = argsL.reverse ++ .ref b :: rest) (hW : 2 * g.monitorRoom + (rest.map fun v => v.category).sum ≤ W9) (hdg : decode c.code g.pc = .ok (.invokevirtual index, 3))
    (hpre : ∀ vm₁, s.WarmedH vm₁ → Pre ⟨T.setVm vm₁, locs, cells, slots⟩ (Value.ref b :: argsL).toArray) :
    ∃ (v : Option Value) (vm₁ : Vm) (B : Pt), s.WarmedH vm₁ ∧ Stand p l e R s m args below meth c B.U B.locs B.cells B.slots ∧ Post ⟨T.setVm vm₁, locs, cells, slots⟩ (Value.ref b :: argsL).toArray v B ∧
      ∀ target, Steps p.tables e below (B.U.setTop { g with pc := g.pc + 3, stack := v.toList ++ rest }) target → Steps p.tables e below (T.setTop g) target := by
  obtain ⟨mk, methM, hnamed, hmethM, hstM, habM⟩ := Cond.instanceMethod_spec hinst
  obtain ⟨m8, methM', cM, hn8, hmethM', -, -, -, -, -, -, hsigM⟩ := Cond.codeWith_spec hcode
  cases Option.some.inj (hn8.symm.trans hnamed)
  cases hmethM.symm.trans hmethM'
  obtain ⟨c2, r2, m2, q1, q2, q3, q4, kP, hkP, hkPi⟩ := Cond.selects_spec hsel
  cases hcls.symm.trans q1
  cases (State.methodFound?_of_named hnamed hy).symm.trans q2
  cases hnamed.symm.trans q3
  have hselP : selectMethod e.platform s.vm cellB.cls mk = .method mk := by rw [Launch.admits_selectMethod X.admits]; exact q4
  obtain ⟨vm₁, X₁, hstep₁⟩ := X.invokevirtual hexec hown hlink hnamed hmethM hstM hkP hkPi hy (a := b) (cell := cellB) hcell
    (fun z h => by rw [h] at hobj; cases hobj) hselP hmethM habM hkP hkPi (g := g) hg (argsL := argsL) (rest := rest) (hlen _ hsigM) hstack hdg
  obtain ⟨v, B, X', hpost, hsteps⟩ := hK m meth c ⟨T.setVm vm₁, locs, cells, slots⟩ { g with stack := rest } (.invokevirtual index) mk (Value.ref b :: argsL).toArray X₁ hg hsize hdg hW (X₁.named hnamed) (hpre vm₁ X₁.warmed)
  exact ⟨v, vm₁, B, X₁.warmed, X', hpost, fun target h => hstep₁ _ fun acts => by rw [doInvoke_state]; exact hsteps.trans h⟩
abbrev vx_CVW (R : Room) (s : State) (args : Array Value) (own C : String) (index : Nat) (y : MethodName) (bytes : ByteArray) (maxL : Nat) (ret : Option FieldType) (hh : List (Nat × Nat × Nat × Nat)) (ws : List Cond) (rm : Room) (mc ms n : Nat) : Prop :=
  (rm.cells = mc ∧ rm.slots = ms ∧ rm.frames + 1 ≤ R.frames ∧ 8 + (maxL + 11) + rm.locals ≤ R.locals ∧ (∀ w ∈ ws, ∀ (a' : Array Value) (U : State), s.WarmedH U.vm → w.before a' U = true) ∧ Cond.codeWith y bytes maxL ret hh ∈ ws) ∧
  (Cond.codeWith y bytes maxL ret hh).before args s = true ∧ (Cond.initialized y.cls).before args s = true ∧ (y.cls ≠ "java/lang/invoke/MethodHandle" ∧ y.cls ≠ "java/lang/invoke/VarHandle") ∧
  (∀ sig, parseMethodDescriptor y.desc = some sig → n = sig.parameters.length) ∧ (Cond.methodLink own index y).before args s = true ∧ (Cond.instanceMethod y).before args s = true ∧ (Cond.selects C y y).before args s = true
theorem vx_cwVW {own C : String} {index maxL mc ms : Nat} {y : MethodName} {bytes : ByteArray} {ret : Option FieldType} {hh : List (Nat × Nat × Nat × Nat)} {Ts ws ws' : List Cond} {rm : Room} (n : Nat) (ht : ∀ w ∈ Ts, w.before args s = true) (hT : GoodIn Ts (wsV own index C y ws)) (hw : ws = Cond.codeWith y bytes maxL ret hh :: ws') (hrc : rm.cells = mc) (hrs : rm.slots = ms)
    (hd : y.cls = C ∧ y.cls ≠ "java/lang/invoke/MethodHandle" ∧ y.cls ≠ "java/lang/invoke/VarHandle" ∧ (parseMethodDescriptor y.desc).map (fun d => d.parameters.length) = some n) (hR : rm.frames + 1 ≤ R.frames ∧ 8 + (maxL + 11) + rm.locals ≤ R.locals) :
    vx_CVW R s args own C index y bytes maxL ret hh ws rm mc ms n := by
  obtain ⟨hC, hd⟩ := hd
  subst hC
  have ok : ∀ w ∈ wsV own index y.cls y ws, w.before args s = true := fun w h => ht w (hT w h).1
  have hG : GoodIn Ts ws := fun w h => hT w (by unfold wsV; exact List.mem_append_right _ h)
  have hc : Cond.codeWith y bytes maxL ret hh ∈ ws := by rw [hw]; exact List.mem_cons_self
  refine ⟨⟨hrc, hrs, hR.1, hR.2, pay_in ht hG, hc⟩, ht _ (hG _ hc).1, ok _ (by simp [wsV]), ⟨hd.1, hd.2.1⟩, fun sig h => ?_, ok _ (by simp [wsV]), ok _ (by simp [wsV]), ok _ (by simp [wsV])⟩
  have h2 := hd.2.2
  rw [h] at h2
  exact (Option.some.inj h2).symm
theorem vx_runVW {y : MethodName} {bytes cc : ByteArray} {maxL nL mc ms n index : Nat} {ret : Option FieldType} {hh : List (Nat × Nat × Nat × Nat)} {ws : List Cond} {rm : Room} {Pc : Array Value → State → Prop} {Qc : Array Value → State → Outcome → State → Prop} {free : Addr → Prop} {Ts : List Cond} {own C : String} {b : Addr} {As rest : List Value} {g : JFrame}
    (S : CallFix p m c cc nL s args Ts own) (hM : Met l y ws rm Pc Qc mc ms free) (cw : vx_CVW R s args own C index y bytes maxL ret hh ws rm mc ms n) (hp : PreV s H C b Pc As)
    (hg : g.method = m) (hn : As.length = n) (hsize : g.locals.size = nL) (hstack : g.stack = As.reverse ++ .ref b :: rest) (hW : 2 * g.monitorRoom + (rest.map fun v => v.category).sum ≤ 8) (hdg : decode cc g.pc = .ok (.invokevirtual index, 3)) (hf : cells + mc ≤ R.cells ∧ slots + ms ≤ R.slots) :
    va_Run p l e R s m args below meth c H locs cells slots mc ms g rest (Qc (Value.ref b :: As).toArray) free := by
  obtain ⟨⟨hrc, hrs, hfr, hlo, hws, hcw⟩, hcode, hini, hy, hlen, hl, hin, hse⟩ := cw
  have hK : Back l R p e below s args y 3 8 (PreOf R mc ms Pc) (PostOf Qc mc ms free) := va_backW (hh := hh) (bytes := bytes) (maxL := maxL) (ret := ret) hM hp.1 hrc hrs hfr hlo hws hcw (fun a' U hW => word_at hW (Or.inl (by first | rfl | simp [Cond.onTables, Cond.keeps, Cond.steady])) hini)
  obtain ⟨hx, hb, hml, ho, -⟩ := S
  obtain ⟨-, ⟨cellB, hcB, hoB, hclB⟩, hPc⟩ := hp
  intro T hT X
  obtain ⟨v, vm₁, ⟨U', l2, c2, s2⟩, hW₁, X', ⟨g', mk, t, L, e1, e2, hq, h1, hL, h2, h3⟩, st⟩ := vx_callVW X hx (C := C) (hh := hh) (bytes := bytes) (maxL := maxL) (ret := ret) ho hl hin hse hcode hy hK (by rw [hT]; exact hcB) hoB hclB hg (hsize.trans hml.symm) (argsL := As) (rest := rest) (fun sig h => hn.trans (hlen sig h)) hstack hW (by rw [hb]; exact hdg)
    (fun vm₁ hW₁ => ⟨hf.1, hf.2, hPc (T.setVm vm₁) hT hW₁⟩)
  dsimp only [Pt.U, Pt.locs, Pt.cells, Pt.slots] at X' e1 e2 h1 h2 h3 st
  subst h1; subst h2; subst h3
  exact ⟨v, (T.setVm vm₁).calling g' mk (Value.ref b :: As).toArray, t, U', L, hT, X', hL, e1, e2, hq, st⟩
section
variable {y : MethodName} {bytes cc : ByteArray} {maxL nL mc ms n index : Nat} {ret : Option FieldType} {ws : List Cond} {rm : Room} {Pc : Array Value → State → Prop} {Qc : Array Value → State → Outcome → State → Prop} {XC : String → State → State → Prop} {free : Addr → Prop} {Ts : List Cond} {own C : String} {b : Addr} {As rest : List Value} {g : JFrame}
theorem vx_runVX {hh : List (Nat × Nat × Nat × Nat)} (S : CallFix p m c cc nL s args Ts own) (hM : vx_Met l y ws rm Pc Qc XC mc ms free) (cw : vx_CVW R s args own C index y bytes maxL ret hh ws rm mc ms n) (hp : PreV s H C b Pc As)
    (hg : g.method = m) (hn : As.length = n) (hsize : g.locals.size = nL) (hstack : g.stack = As.reverse ++ .ref b :: rest) (hW : 2 * g.monitorRoom + (rest.map fun v => v.category).sum ≤ 8) (hdg : decode cc g.pc = .ok (.invokevirtual index, 3)) (hf : cells + mc ≤ R.cells ∧ slots + ms ≤ R.slots) :
    vx_Run p l e R s m args below meth c H locs cells slots mc ms g rest (Qc (Value.ref b :: As).toArray) XC free := by
  obtain ⟨⟨hrc, hrs, hfr, hlo, hws, hcw⟩, hcode, hini, hy, hlen, hl, hin, hse⟩ := cw
  have hK : vx_Back l R p e below s args y 3 8 (PreOf R mc ms Pc) (PostOf Qc mc ms free) (vx_Post XC mc ms free) := vx_backW (hh := hh) (bytes := bytes) (maxL := maxL) (ret := ret) hM hp.1 hrc hrs hfr hlo hws hcw (fun a' U hW => word_at hW (Or.inl (by first | rfl | simp [Cond.onTables, Cond.keeps, Cond.steady])) hini)
  obtain ⟨hx, hb, hml, ho, -⟩ := S
  obtain ⟨-, ⟨cellB, hcB, hoB, hclB⟩, hPc⟩ := hp
  intro T hT X
  rcases vx_callVX X hx (C := C) (hh := hh) (bytes := bytes) (maxL := maxL) (ret := ret) ho hl hin hse hcode hy hK (by rw [hT]; exact hcB) hoB hclB hg (hsize.trans hml.symm) (argsL := As) (rest := rest) (fun sig h => hn.trans (hlen sig h)) hstack hW (by rw [hb]; exact hdg)
    (fun vm₁ hW₁ => ⟨hf.1, hf.2, hPc (T.setVm vm₁) hT hW₁⟩) with ⟨v, vm₁, ⟨U', l2, c2, s2⟩, hW₁, X', ⟨g', mk, t, L, e1, e2, hq, h1, hL, h2, h3⟩, st⟩ | ⟨q, vm₁, ⟨U', l2, c2, s2⟩, hW₁, X', ⟨g', mk, t, L, E, ce, e1, e2, hq, hce, hcv, hcl, h1, hL, h2, h3⟩, st⟩
  · dsimp only [Pt.U, Pt.locs, Pt.cells, Pt.slots] at X' e1 e2 h1 h2 h3 st
    subst h1; subst h2; subst h3
    exact Or.inl ⟨v, (T.setVm vm₁).calling g' mk (Value.ref b :: As).toArray, t, U', L, hT, X', hL, e1, e2, hq, st⟩
  · dsimp only [Pt.U, Pt.locs, Pt.cells, Pt.slots] at X' e1 e2 h1 h2 h3 st hcl
    subst h1; subst h2; subst h3
    exact Or.inr ⟨q, (T.setVm vm₁).calling g' mk (Value.ref b :: As).toArray, t, U', L, E, ce, hT, X', hL, e1, e2, hq, hce, hcv, vx_cls hW₁ hcl, st⟩
theorem vx_runSX {hh : List (Nat × Nat × Nat × Nat)} (S : CallFix p m c cc nL s args Ts own) (hM : vx_Met l y ws rm Pc Qc XC mc ms free) (cw : vx_CSW R s args own index y bytes maxL ret hh ws rm mc ms n) (hp : PreS s H Pc As)
    (hg : g.method = m) (hn : As.length = n) (hsize : g.locals.size = nL) (hstack : g.stack = As.reverse ++ rest) (hW : 2 * g.monitorRoom + (rest.map fun v => v.category).sum ≤ 8) (hdg : decode cc g.pc = .ok (.invokestatic index, 3)) (hf : cells + mc ≤ R.cells ∧ slots + ms ≤ R.slots) :
    vx_Run p l e R s m args below meth c H locs cells slots mc ms g rest (Qc As.toArray) XC free := by
  obtain ⟨⟨hrc, hrs, hfr, hlo, hws, hcw⟩, hcode, hini, hy, hlen, hl, hstt⟩ := cw
  have hK : vx_Back l R p e below s args y 3 8 (PreOf R mc ms Pc) (PostOf Qc mc ms free) (vx_Post XC mc ms free) := vx_backW (hh := hh) (bytes := bytes) (maxL := maxL) (ret := ret) hM hp.1 hrc hrs hfr hlo hws hcw (fun a' U hW => word_at hW (Or.inl (by first | rfl | simp [Cond.onTables, Cond.keeps, Cond.steady])) hini)
  obtain ⟨hx, hb, hml, ho, -⟩ := S
  intro T hT X
  rcases vx_callSX X hx (hh := hh) (bytes := bytes) (maxL := maxL) (ret := ret) ho hl hstt hini hcode hy hK hg (hsize.trans hml.symm) (argsL := As) (rest := rest) (fun sig h => hn.trans (hlen sig h)) hstack hW (by rw [hb]; exact hdg)
    (fun vm₁ hW₁ => ⟨hf.1, hf.2, hp.2 (T.setVm vm₁) hT hW₁⟩) with ⟨v, vm₁, ⟨U', l2, c2, s2⟩, hW₁, X', ⟨g', mk, t, L, e1, e2, hq, h1, hL, h2, h3⟩, st⟩ | ⟨q, vm₁, ⟨U', l2, c2, s2⟩, hW₁, X', ⟨g', mk, t, L, E, ce, e1, e2, hq, hce, hcv, hcl, h1, hL, h2, h3⟩, st⟩
  · dsimp only [Pt.U, Pt.locs, Pt.cells, Pt.slots] at X' e1 e2 h1 h2 h3 st
    subst h1; subst h2; subst h3
    exact Or.inl ⟨v, (T.setVm vm₁).calling g' mk As.toArray, t, U', L, hT, X', hL, e1, e2, hq, st⟩
  · dsimp only [Pt.U, Pt.locs, Pt.cells, Pt.slots] at X' e1 e2 h1 h2 h3 st hcl
    subst h1; subst h2; subst h3
    exact Or.inr ⟨q, (T.setVm vm₁).calling g' mk As.toArray, t, U', L, E, ce, hT, X', hL, e1, e2, hq, hce, hcv, vx_cls hW₁ hcl, st⟩
end
end VXH
theorem vx_ofWH {l : Launch} {y : MethodName} {ws ws' : List Cond} {rm : Room} {Pc : Array Value → State → Prop} {Qc : Array Value → State → Outcome → State → Prop} {XC : String → State → State → Prop} {mc ms : Nat} {free : Addr → Prop} {cc : ByteArray} {maxL : Nat} {ret : Option FieldType} {hh : List (Nat × Nat × Nat × Nat)}
    (hy : plainName y.cls = true) (hw : ws = Cond.codeWith y cc maxL ret hh :: ws')
    (body : ∀ p e s m args below meth c s₁, BodyLoose p l y (headSpec ws rm) cc maxL ret e s m args below meth c s₁ → c.maxLocals = maxL → Pc args s →
      W p l e (headSpec ws rm).room s m args below meth c s.heap [] 0 0 (vx_MQ below Qc XC args s mc ms free) (entryFrame m args maxL)) : vx_Met l y ws rm Pc Qc XC mc ms free := by
  refine MetFree.of_bodyS (code := cc) (maxLocals := maxL) (ret := ret) hy ?_ ?_
  · intro args s m h hn
    obtain ⟨m9, meth, c, hn9, h1, h2, h3, h4, -, h5, h6, -⟩ := Cond.codeWith_spec (atoms_spec (ws := ws) h _ (by rw [hw]; exact List.mem_cons_self))
    cases hn.symm.trans hn9
    exact ⟨meth, c, h1, h2, h3, h4, h5, h6⟩
  · intro p e s m args below meth c s₁ B hml hP _
    have hh0 : s₁.heap = s.heap := by rw [B.state]; rfl
    obtain ⟨t, a1, o, b1, b2, b3⟩ := body p e s m args below meth c s₁ B hml hP s₁ hh0 (Stand.of_body B)
    exact ⟨t, o, a1, b1, b2, b3⟩
/-! ===== END ===== -/

/-! ===== BEGIN printed: names, fields, word lists, decode rows ===== -/
def RX0 : String := "IceLand$Annals"
def TX0 : u_T := fun k => match k with
  | 0 => ("IceLand$Annals", "ashFell", "[Z", true)
  | 1 => ("IceLand$Annals", "frontOf", "[I", true)
  | 2 => ("IceLand$Annals", "iceBehind", "[I", true)
  | 3 => ("IceLand$Annals", "floodYear", "[I", true)
  | 4 => ("IceLand$Annals", "floodCell", "[I", true)
  | 5 => ("IceLand$Annals", "floodUnits", "[I", true)
  | _ => ("IceLand$Annals", "floodCount", "I", false)
def tyX0 : Nat → FieldType := fun k => match k with
  | 0 => .array .boolean
  | 1 => .array .int
  | 2 => .array .int
  | 3 => .array .int
  | 4 => .array .int
  | 5 => .array .int
  | _ => .int
abbrev wsX00 : List Cond := u_ws RX0 TX0 7
theorem nmX0 : ∀ a, a < 7 → ∀ b, b < 7 → a ≠ b → (TX0 a).2.1 ≠ (TX0 b).2.1 := by decide +kernel
theorem tyX0_ok : ∀ k, k < 7 → parseFieldDescriptor (TX0 k).2.2.1 = some (tyX0 k) := by decide +kernel
abbrev cX0_init : ByteArray := prog_2_method_1_code
def yX0_init : MethodName := ⟨RX0, "<init>", "()V"⟩
abbrev cX0_note : ByteArray := prog_2_method_2_code
def yX0_note : MethodName := ⟨RX0, "note", "(LIceLand$Land;)V"⟩
def RX1 : String := "IceLand$Core"
def TX1 : u_T := fun k => match k with
  | 0 => ("IceLand$Core", "ice", "[I", true)
  | _ => ("IceLand$Core", "units", "[I", true)
def tyX1 : Nat → FieldType := fun k => match k with
  | 0 => .array .int
  | _ => .array .int
abbrev wsX10 : List Cond := u_ws RX1 TX1 2
theorem nmX1 : ∀ a, a < 2 → ∀ b, b < 2 → a ≠ b → (TX1 a).2.1 ≠ (TX1 b).2.1 := by decide +kernel
theorem tyX1_ok : ∀ k, k < 2 → parseFieldDescriptor (TX1 k).2.2.1 = some (tyX1 k) := by decide +kernel
abbrev cX1_init : ByteArray := prog_3_method_1_code
def yX1_init : MethodName := ⟨RX1, "<init>", "()V"⟩
abbrev cX1_becomeLike : ByteArray := prog_3_method_2_code
def yX1_becomeLike : MethodName := ⟨RX1, "becomeLike", "(LIceLand$Core;)V"⟩
abbrev cX1_unitsOf : ByteArray := prog_3_method_3_code
def yX1_unitsOf : MethodName := ⟨RX1, "unitsOf", "(II)I"⟩
abbrev cX1_allIce : ByteArray := prog_3_method_4_code
def yX1_allIce : MethodName := ⟨RX1, "allIce", "()I"⟩
abbrev cX1_lay : ByteArray := prog_3_method_5_code
def yX1_lay : MethodName := ⟨RX1, "lay", "(III)V"⟩
abbrev cX1_takeLatest : ByteArray := prog_3_method_6_code
def yX1_takeLatest : MethodName := ⟨RX1, "takeLatest", "(II)V"⟩
abbrev cX1_carry : ByteArray := prog_3_method_7_code
def yX1_carry : MethodName := ⟨RX1, "carry", "(III)V"⟩
abbrev cX1_yearBelow : ByteArray := prog_3_method_8_code
def yX1_yearBelow : MethodName := ⟨RX1, "yearBelow", "(II)I"⟩
def RX2 : String := "IceLand$Forecasts"
def TX2 : u_T := fun k => match k with
  | 0 => ("IceLand$Forecasts", "meantYear", "[I", true)
  | 1 => ("IceLand$Forecasts", "expected", "[I", true)
  | _ => ("IceLand$Forecasts", "count", "I", false)
def tyX2 : Nat → FieldType := fun k => match k with
  | 0 => .array .int
  | 1 => .array .int
  | _ => .int
abbrev wsX20 : List Cond := u_ws RX2 TX2 3
theorem nmX2 : ∀ a, a < 3 → ∀ b, b < 3 → a ≠ b → (TX2 a).2.1 ≠ (TX2 b).2.1 := by decide +kernel
theorem tyX2_ok : ∀ k, k < 3 → parseFieldDescriptor (TX2 k).2.2.1 = some (tyX2 k) := by decide +kernel
abbrev cX2_init : ByteArray := prog_4_method_1_code
def yX2_init : MethodName := ⟨RX2, "<init>", "()V"⟩
abbrev cX2_keep : ByteArray := prog_4_method_2_code
def yX2_keep : MethodName := ⟨RX2, "keep", "(II)V"⟩
def RX3 : String := "IceLand$Land"
def TX3 : u_T := fun k => match k with
  | 0 => ("IceLand$Land", "year", "I", false)
  | 1 => ("IceLand$Land", "level", "I", false)
  | 2 => ("IceLand$Land", "warmth", "I", false)
  | 3 => ("IceLand$Land", "snow", "I", false)
  | 4 => ("IceLand$Land", "factor", "I", false)
  | 5 => ("IceLand$Land", "core", "LIceLand$Core;", true)
  | 6 => ("IceLand$Land", "sums", "LIceLand$Sums;", true)
  | 7 => ("IceLand$Land", "bed", "[I", true)
  | 8 => ("IceLand$Land", "base", "[I", true)
  | 9 => ("IceLand$Land", "water", "[I", true)
  | 10 => ("IceLand$Land", "moraine", "[I", true)
  | 11 => ("IceLand$Land", "snowed", "[I", true)
  | 12 => ("IceLand$Land", "gain", "[I", true)
  | 13 => ("IceLand$Land", "passing", "[I", true)
  | 14 => ("IceLand$Land", "burst", "[I", true)
  | _ => ("IceLand$Land", "frontCell", "I", false)
def tyX3 : Nat → FieldType := fun k => match k with
  | 0 => .int
  | 1 => .int
  | 2 => .int
  | 3 => .int
  | 4 => .int
  | 5 => .object "IceLand$Core"
  | 6 => .object "IceLand$Sums"
  | 7 => .array .int
  | 8 => .array .int
  | 9 => .array .int
  | 10 => .array .int
  | 11 => .array .int
  | 12 => .array .int
  | 13 => .array .int
  | 14 => .array .int
  | _ => .int
abbrev wsX30 : List Cond := u_ws RX3 TX3 16
theorem nmX3 : ∀ a, a < 16 → ∀ b, b < 16 → a ≠ b → (TX3 a).2.1 ≠ (TX3 b).2.1 := by decide +kernel
theorem tyX3_ok : ∀ k, k < 16 → parseFieldDescriptor (TX3 k).2.2.1 = some (tyX3 k) := by decide +kernel
abbrev cX3_init : ByteArray := prog_5_method_1_code
def yX3_init : MethodName := ⟨RX3, "<init>", "()V"⟩
abbrev cX3_becomeLike : ByteArray := prog_5_method_2_code
def yX3_becomeLike : MethodName := ⟨RX3, "becomeLike", "(LIceLand$Land;)V"⟩
abbrev cX3_goThroughYear : ByteArray := prog_5_method_3_code
def yX3_goThroughYear : MethodName := ⟨RX3, "goThroughYear", "()V"⟩
abbrev cX3_tellOf : ByteArray := prog_5_method_4_code
def yX3_tellOf : MethodName := ⟨RX3, "tellOf", "(II)I"⟩
abbrev cX3_allWater : ByteArray := prog_5_method_5_code
def yX3_allWater : MethodName := ⟨RX3, "allWater", "()I"⟩
abbrev cX3_surface : ByteArray := prog_5_method_6_code
def yX3_surface : MethodName := ⟨RX3, "surface", "(I)I"⟩
abbrev cX3_potential : ByteArray := prog_5_method_7_code
def yX3_potential : MethodName := ⟨RX3, "potential", "(I)I"⟩
abbrev cX3_standsInSea : ByteArray := prog_5_method_8_code
def yX3_standsInSea : MethodName := ⟨RX3, "standsInSea", "(I)Z"⟩
abbrev cX3_hasCrevasse : ByteArray := prog_5_method_9_code
def yX3_hasCrevasse : MethodName := ⟨RX3, "hasCrevasse", "(I)Z"⟩
abbrev cX3_snowOrMelt : ByteArray := prog_5_method_10_code
def yX3_snowOrMelt : MethodName := ⟨RX3, "snowOrMelt", "(I)V"⟩
abbrev cX3_flow : ByteArray := prog_5_method_11_code
def yX3_flow : MethodName := ⟨RX3, "flow", "()V"⟩
abbrev cX3_givenToNext : ByteArray := prog_5_method_12_code
def yX3_givenToNext : MethodName := ⟨RX3, "givenToNext", "(I)I"⟩
abbrev cX3_givenBy : ByteArray := prog_5_method_13_code
def yX3_givenBy : MethodName := ⟨RX3, "givenBy", "(II)I"⟩
abbrev cX3_runOff : ByteArray := prog_5_method_14_code
def yX3_runOff : MethodName := ⟨RX3, "runOff", "(I)V"⟩
abbrev cX3_breakOut : ByteArray := prog_5_method_15_code
def yX3_breakOut : MethodName := ⟨RX3, "breakOut", "(I)V"⟩
abbrev cX3_leastIceBeside : ByteArray := prog_5_method_16_code
def yX3_leastIceBeside : MethodName := ⟨RX3, "leastIceBeside", "(I)I"⟩
abbrev cX3_calve : ByteArray := prog_5_method_17_code
def yX3_calve : MethodName := ⟨RX3, "calve", "()V"⟩
abbrev cX3_moveBed : ByteArray := prog_5_method_18_code
def yX3_moveBed : MethodName := ⟨RX3, "moveBed", "(I)V"⟩
abbrev cX3_markFront : ByteArray := prog_5_method_19_code
def yX3_markFront : MethodName := ⟨RX3, "markFront", "()V"⟩
def RX4 : String := "IceLand$Sums"
def TX4 : u_T := fun k => match k with
  | 0 => ("IceLand$Sums", "fallen", "I", false)
  | 1 => ("IceLand$Sums", "told", "I", false)
  | 2 => ("IceLand$Sums", "melted", "I", false)
  | 3 => ("IceLand$Sums", "toSea", "I", false)
  | _ => ("IceLand$Sums", "bergs", "I", false)
def tyX4 : Nat → FieldType := fun k => match k with
  | 0 => .int
  | 1 => .int
  | 2 => .int
  | 3 => .int
  | _ => .int
abbrev wsX40 : List Cond := u_ws RX4 TX4 5
theorem nmX4 : ∀ a, a < 5 → ∀ b, b < 5 → a ≠ b → (TX4 a).2.1 ≠ (TX4 b).2.1 := by decide +kernel
theorem tyX4_ok : ∀ k, k < 5 → parseFieldDescriptor (TX4 k).2.2.1 = some (tyX4 k) := by decide +kernel
abbrev cX4_init : ByteArray := prog_6_method_1_code
def yX4_init : MethodName := ⟨RX4, "<init>", "()V"⟩
def RX5 : String := "IceLand"
def TX5 : u_T := fun k => match k with
  | 0 => ("IceLand", "present", "LIceLand$Land;", true)
  | 1 => ("IceLand", "trial", "LIceLand$Land;", true)
  | 2 => ("IceLand", "annals", "LIceLand$Annals;", true)
  | _ => ("IceLand", "forecasts", "LIceLand$Forecasts;", true)
def tyX5 : Nat → FieldType := fun k => match k with
  | 0 => .object "IceLand$Land"
  | 1 => .object "IceLand$Land"
  | 2 => .object "IceLand$Annals"
  | _ => .object "IceLand$Forecasts"
abbrev wsX50 : List Cond := u_ws RX5 TX5 4
theorem nmX5 : ∀ a, a < 4 → ∀ b, b < 4 → a ≠ b → (TX5 a).2.1 ≠ (TX5 b).2.1 := by decide +kernel
theorem tyX5_ok : ∀ k, k < 4 → parseFieldDescriptor (TX5 k).2.2.1 = some (tyX5 k) := by decide +kernel
abbrev cX5_init : ByteArray := prog_1_method_1_code
def yX5_init : MethodName := ⟨RX5, "<init>", "()V"⟩
abbrev cX5_land : ByteArray := prog_1_method_2_code
def yX5_land : MethodName := ⟨RX5, "land", "(II)I"⟩
abbrev cX5_sea : ByteArray := prog_1_method_3_code
def yX5_sea : MethodName := ⟨RX5, "sea", "(I)I"⟩
abbrev cX5_climate : ByteArray := prog_1_method_4_code
def yX5_climate : MethodName := ⟨RX5, "climate", "(III)V"⟩
abbrev cX5_ice : ByteArray := prog_1_method_5_code
def yX5_ice : MethodName := ⟨RX5, "ice", "(II)I"⟩
abbrev cX5_ash : ByteArray := prog_1_method_6_code
def yX5_ash : MethodName := ⟨RX5, "ash", "()Z"⟩
abbrev cX5_pass : ByteArray := prog_1_method_7_code
def yX5_pass : MethodName := ⟨RX5, "pass", "(I)I"⟩
abbrev cX5_cellIs : ByteArray := prog_1_method_8_code
def yX5_cellIs : MethodName := ⟨RX5, "cellIs", "(II)I"⟩
abbrev cX5_layer : ByteArray := prog_1_method_9_code
def yX5_layer : MethodName := ⟨RX5, "layer", "(II)I"⟩
abbrev cX5_yearAt : ByteArray := prog_1_method_10_code
def yX5_yearAt : MethodName := ⟨RX5, "yearAt", "(II)I"⟩
abbrev cX5_common : ByteArray := prog_1_method_11_code
def yX5_common : MethodName := ⟨RX5, "common", "(II)I"⟩
abbrev cX5_floods : ByteArray := prog_1_method_12_code
def yX5_floods : MethodName := ⟨RX5, "floods", "()I"⟩
abbrev cX5_flood : ByteArray := prog_1_method_13_code
def yX5_flood : MethodName := ⟨RX5, "flood", "(II)I"⟩
abbrev cX5_front : ByteArray := prog_1_method_14_code
def yX5_front : MethodName := ⟨RX5, "front", "(I)I"⟩
abbrev cX5_total : ByteArray := prog_1_method_15_code
def yX5_total : MethodName := ⟨RX5, "total", "(I)I"⟩
abbrev cX5_iceAnew : ByteArray := prog_1_method_16_code
def yX5_iceAnew : MethodName := ⟨RX5, "iceAnew", "()I"⟩
abbrev cX5_would : ByteArray := prog_1_method_17_code
def yX5_would : MethodName := ⟨RX5, "would", "(III)I"⟩
abbrev cX5_forecast : ByteArray := prog_1_method_18_code
def yX5_forecast : MethodName := ⟨RX5, "forecast", "(I)I"⟩
abbrev cX5_miss : ByteArray := prog_1_method_19_code
def yX5_miss : MethodName := ⟨RX5, "miss", "(I)I"⟩
abbrev cX5_tryOut : ByteArray := prog_1_method_20_code
def yX5_tryOut : MethodName := ⟨RX5, "tryOut", "(I)V"⟩
abbrev cX5_needNotTooLate : ByteArray := prog_1_method_21_code
def yX5_needNotTooLate : MethodName := ⟨RX5, "needNotTooLate", "(I)V"⟩
abbrev cX5_needCell : ByteArray := prog_1_method_22_code
def yX5_needCell : MethodName := ⟨RX5, "needCell", "(I)V"⟩
abbrev cX5_needWithin : ByteArray := prog_1_method_23_code
def yX5_needWithin : MethodName := ⟨RX5, "needWithin", "(III)V"⟩
def RX6 : String := "IceLandModel"
def TX6 : u_T := fun k => match k with
  | 0 => ("IceLandModel", "thrown", "I", false)
  | 1 => ("IceLandModel", "level", "I", false)
  | 2 => ("IceLandModel", "warmth", "I", false)
  | 3 => ("IceLandModel", "snow", "I", false)
  | 4 => ("IceLandModel", "factor", "I", false)
  | 5 => ("IceLandModel", "s", "[I", true)
  | 6 => ("IceLandModel", "kept", "[I", true)
  | 7 => ("IceLandModel", "ash", "[Z", true)
  | 8 => ("IceLandModel", "when", "[I", true)
  | 9 => ("IceLandModel", "where", "[I", true)
  | 10 => ("IceLandModel", "units", "[I", true)
  | 11 => ("IceLandModel", "forecasts", "I", false)
  | 12 => ("IceLandModel", "aims", "[I", true)
  | 13 => ("IceLandModel", "noted", "[I", true)
  | 14 => ("IceLandModel", "misses", "[I", true)
  | _ => ("IceLandModel", "flows", "[I", true)
def tyX6 : Nat → FieldType := fun k => match k with
  | 0 => .int
  | 1 => .int
  | 2 => .int
  | 3 => .int
  | 4 => .int
  | 5 => .array .int
  | 6 => .array .int
  | 7 => .array .boolean
  | 8 => .array .int
  | 9 => .array .int
  | 10 => .array .int
  | 11 => .int
  | 12 => .array .int
  | 13 => .array .int
  | 14 => .array .int
  | _ => .array .int
abbrev wsX60 : List Cond := u_ws RX6 TX6 16
theorem nmX6 : ∀ a, a < 16 → ∀ b, b < 16 → a ≠ b → (TX6 a).2.1 ≠ (TX6 b).2.1 := by decide +kernel
theorem tyX6_ok : ∀ k, k < 16 → parseFieldDescriptor (TX6 k).2.2.1 = some (tyX6 k) := by decide +kernel
abbrev cX6_init : ByteArray := prog_8_method_1_code
def yX6_init : MethodName := ⟨RX6, "<init>", "()V"⟩
abbrev cX6_thrown : ByteArray := prog_8_method_2_code
def yX6_thrown : MethodName := ⟨RX6, "thrown", "()I"⟩
abbrev cX6_asked : ByteArray := prog_8_method_3_code
def yX6_asked : MethodName := ⟨RX6, "asked", "(Z)Z"⟩
abbrev cX6_asked_ : ByteArray := prog_8_method_4_code
def yX6_asked_ : MethodName := ⟨RX6, "asked", "(ZZ)Z"⟩
abbrev cX6_asked__ : ByteArray := prog_8_method_5_code
def yX6_asked__ : MethodName := ⟨RX6, "asked", "(ZZZ)Z"⟩
abbrev cX6_in : ByteArray := prog_8_method_6_code
def yX6_in : MethodName := ⟨RX6, "in", "(III)Z"⟩
abbrev cX6_isCell : ByteArray := prog_8_method_7_code
def yX6_isCell : MethodName := ⟨RX6, "isCell", "(I)Z"⟩
abbrev cX6_iceOf : ByteArray := prog_8_method_8_code
def yX6_iceOf : MethodName := ⟨RX6, "iceOf", "(I)I"⟩
abbrev cX6_allIce : ByteArray := prog_8_method_9_code
def yX6_allIce : MethodName := ⟨RX6, "allIce", "()I"⟩
abbrev cX6_surfaceOf : ByteArray := prog_8_method_10_code
def yX6_surfaceOf : MethodName := ⟨RX6, "surfaceOf", "(I)I"⟩
abbrev cX6_isInSea : ByteArray := prog_8_method_11_code
def yX6_isInSea : MethodName := ⟨RX6, "isInSea", "(I)Z"⟩
abbrev cX6_potentialOf : ByteArray := prog_8_method_12_code
def yX6_potentialOf : MethodName := ⟨RX6, "potentialOf", "(I)I"⟩
abbrev cX6_land : ByteArray := prog_8_method_13_code
def yX6_land : MethodName := ⟨RX6, "land", "(II)I"⟩
abbrev cX6_sea : ByteArray := prog_8_method_14_code
def yX6_sea : MethodName := ⟨RX6, "sea", "(I)I"⟩
abbrev cX6_climate : ByteArray := prog_8_method_15_code
def yX6_climate : MethodName := ⟨RX6, "climate", "(III)V"⟩
abbrev cX6_ice : ByteArray := prog_8_method_16_code
def yX6_ice : MethodName := ⟨RX6, "ice", "(II)I"⟩
abbrev cX6_ash : ByteArray := prog_8_method_17_code
def yX6_ash : MethodName := ⟨RX6, "ash", "()Z"⟩
abbrev cX6_snows : ByteArray := prog_8_method_18_code
def yX6_snows : MethodName := ⟨RX6, "snows", "()V"⟩
abbrev cX6_flowOf : ByteArray := prog_8_method_19_code
def yX6_flowOf : MethodName := ⟨RX6, "flowOf", "(II)I"⟩
abbrev cX6_flows : ByteArray := prog_8_method_20_code
def yX6_flows : MethodName := ⟨RX6, "flows", "()V"⟩
abbrev cX6_runs : ByteArray := prog_8_method_21_code
def yX6_runs : MethodName := ⟨RX6, "runs", "()V"⟩
abbrev cX6_least : ByteArray := prog_8_method_22_code
def yX6_least : MethodName := ⟨RX6, "least", "(I)I"⟩
abbrev cX6_breaks : ByteArray := prog_8_method_23_code
def yX6_breaks : MethodName := ⟨RX6, "breaks", "()V"⟩
abbrev cX6_calves : ByteArray := prog_8_method_24_code
def yX6_calves : MethodName := ⟨RX6, "calves", "()V"⟩
abbrev cX6_ends : ByteArray := prog_8_method_25_code
def yX6_ends : MethodName := ⟨RX6, "ends", "()V"⟩
abbrev cX6_passes : ByteArray := prog_8_method_26_code
def yX6_passes : MethodName := ⟨RX6, "passes", "(I)V"⟩
abbrev cX6_pass : ByteArray := prog_8_method_27_code
def yX6_pass : MethodName := ⟨RX6, "pass", "(I)I"⟩
abbrev cX6_tells : ByteArray := prog_8_method_28_code
def yX6_tells : MethodName := ⟨RX6, "tells", "(II)I"⟩
abbrev cX6_cellIs : ByteArray := prog_8_method_29_code
def yX6_cellIs : MethodName := ⟨RX6, "cellIs", "(II)I"⟩
abbrev cX6_layer : ByteArray := prog_8_method_30_code
def yX6_layer : MethodName := ⟨RX6, "layer", "(II)I"⟩
abbrev cX6_yearAt : ByteArray := prog_8_method_31_code
def yX6_yearAt : MethodName := ⟨RX6, "yearAt", "(II)I"⟩
abbrev cX6_common : ByteArray := prog_8_method_32_code
def yX6_common : MethodName := ⟨RX6, "common", "(II)I"⟩
abbrev cX6_floods : ByteArray := prog_8_method_33_code
def yX6_floods : MethodName := ⟨RX6, "floods", "()I"⟩
abbrev cX6_flood : ByteArray := prog_8_method_34_code
def yX6_flood : MethodName := ⟨RX6, "flood", "(II)I"⟩
abbrev cX6_front : ByteArray := prog_8_method_35_code
def yX6_front : MethodName := ⟨RX6, "front", "(I)I"⟩
abbrev cX6_total : ByteArray := prog_8_method_36_code
def yX6_total : MethodName := ⟨RX6, "total", "(I)I"⟩
abbrev cX6_iceAnew : ByteArray := prog_8_method_37_code
def yX6_iceAnew : MethodName := ⟨RX6, "iceAnew", "()I"⟩
abbrev cX6_keeps : ByteArray := prog_8_method_38_code
def yX6_keeps : MethodName := ⟨RX6, "keeps", "(Z)V"⟩
abbrev cX6_would : ByteArray := prog_8_method_39_code
def yX6_would : MethodName := ⟨RX6, "would", "(III)I"⟩
abbrev cX6_forecast : ByteArray := prog_8_method_40_code
def yX6_forecast : MethodName := ⟨RX6, "forecast", "(I)I"⟩
abbrev cX6_miss : ByteArray := prog_8_method_41_code
def yX6_miss : MethodName := ⟨RX6, "miss", "(I)I"⟩
def RJ9 : String := "java/lang/Math"
def TJ9 : u_T := fun k => match k with
  | _ => ("", "", "", false)
def tyJ9 : Nat → FieldType := fun k => match k with
  | _ => .int
abbrev wsJ90 : List Cond := u_ws RJ9 TJ9 0
theorem nmJ9 : ∀ a, a < 0 → ∀ b, b < 0 → a ≠ b → (TJ9 a).2.1 ≠ (TJ9 b).2.1 := by decide +kernel
theorem tyJ9_ok : ∀ k, k < 0 → parseFieldDescriptor (TJ9 k).2.2.1 = some (tyJ9 k) := by decide +kernel
abbrev cJ9_floorDiv_7cf53 : ByteArray := prog_13_method_47_code
def yJ9_floorDiv_7cf53 : MethodName := ⟨RJ9, "floorDiv", "(II)I"⟩
abbrev cJ9_floorDiv_f86c9 : ByteArray := prog_13_method_49_code
def yJ9_floorDiv_f86c9 : MethodName := ⟨RJ9, "floorDiv", "(JJ)J"⟩
abbrev cJ9_abs_0f7a4 : ByteArray := prog_13_method_59_code
def yJ9_abs_0f7a4 : MethodName := ⟨RJ9, "abs", "(I)I"⟩
abbrev cJ9_min_7cf53 : ByteArray := prog_13_method_69_code
def yJ9_min_7cf53 : MethodName := ⟨RJ9, "min", "(II)I"⟩
abbrev cJ9_min_f86c9 : ByteArray := prog_13_method_70_code
def yJ9_min_f86c9 : MethodName := ⟨RJ9, "min", "(JJ)J"⟩
def RJ0 : String := "java/lang/String"
def TJ0 : u_T := fun k => match k with
  | _ => ("", "", "", false)
def tyJ0 : Nat → FieldType := fun k => match k with
  | _ => .int
abbrev wsJ00 : List Cond := u_ws RJ0 TJ0 0
theorem nmJ0 : ∀ a, a < 0 → ∀ b, b < 0 → a ≠ b → (TJ0 a).2.1 ≠ (TJ0 b).2.1 := by decide +kernel
theorem tyJ0_ok : ∀ k, k < 0 → parseFieldDescriptor (TJ0 k).2.2.1 = some (tyJ0 k) := by decide +kernel
def RJ10 : String := "java/lang/System"
def TJ10 : u_T := fun k => match k with
  | _ => ("", "", "", false)
def tyJ10 : Nat → FieldType := fun k => match k with
  | _ => .int
abbrev wsJ100 : List Cond := u_ws RJ10 TJ10 0
theorem nmJ10 : ∀ a, a < 0 → ∀ b, b < 0 → a ≠ b → (TJ10 a).2.1 ≠ (TJ10 b).2.1 := by decide +kernel
theorem tyJ10_ok : ∀ k, k < 0 → parseFieldDescriptor (TJ10 k).2.2.1 = some (tyJ10 k) := by decide +kernel
def RL : String := "IceLandLaw"
abbrev cL_land : ByteArray := method_3_code
def yL_land : MethodName := ⟨RL, "land", "(LIceLand;II[J)I"⟩
abbrev cL_sea : ByteArray := method_4_code
def yL_sea : MethodName := ⟨RL, "sea", "(LIceLand;I[J)I"⟩
abbrev cL_climate : ByteArray := method_5_code
def yL_climate : MethodName := ⟨RL, "climate", "(LIceLand;III)I"⟩
abbrev cL_ice : ByteArray := method_6_code
def yL_ice : MethodName := ⟨RL, "ice", "(LIceLand;II[J)I"⟩
abbrev cL_pass : ByteArray := method_7_code
def yL_pass : MethodName := ⟨RL, "pass", "(LIceLand;I[J)I"⟩
abbrev cL_cellIs : ByteArray := method_8_code
def yL_cellIs : MethodName := ⟨RL, "cellIs", "(LIceLand;II[J)I"⟩
abbrev cL_layer : ByteArray := method_9_code
def yL_layer : MethodName := ⟨RL, "layer", "(LIceLand;II[J)I"⟩
abbrev cL_yearAt : ByteArray := method_10_code
def yL_yearAt : MethodName := ⟨RL, "yearAt", "(LIceLand;II[J)I"⟩
abbrev cL_common : ByteArray := method_11_code
def yL_common : MethodName := ⟨RL, "common", "(LIceLand;II[J)I"⟩
abbrev cL_flood : ByteArray := method_12_code
def yL_flood : MethodName := ⟨RL, "flood", "(LIceLand;II[J)I"⟩
abbrev cL_front : ByteArray := method_13_code
def yL_front : MethodName := ⟨RL, "front", "(LIceLand;I[J)I"⟩
abbrev cL_total : ByteArray := method_14_code
def yL_total : MethodName := ⟨RL, "total", "(LIceLand;I[J)I"⟩
abbrev cL_would : ByteArray := method_15_code
def yL_would : MethodName := ⟨RL, "would", "(LIceLand;III[J)I"⟩
abbrev cL_forecast : ByteArray := method_16_code
def yL_forecast : MethodName := ⟨RL, "forecast", "(LIceLand;I[J)I"⟩
abbrev cL_miss : ByteArray := method_17_code
def yL_miss : MethodName := ⟨RL, "miss", "(LIceLand;I[J)I"⟩
abbrev cL_law : ByteArray := code
def yL_law : MethodName := ⟨RL, "law", "([I)Z"⟩
def wsX0_init : List Cond := .code yX0_init cX0_init 1 none :: ([.methodLink RX0 3 objectInit, .instanceMethod objectInit, .code objectInit ⟨#[0xb1]⟩ 1 none, .arrayClass .boolean, .fieldLink RX0 9 "IceLand$Annals" "ashFell" "[Z", .arrayClass .int, .fieldLink RX0 15 "IceLand$Annals" "frontOf" "[I", .fieldLink RX0 19 "IceLand$Annals" "iceBehind" "[I", .fieldLink RX0 22 "IceLand$Annals" "floodYear" "[I", .fieldLink RX0 25 "IceLand$Annals" "floodCell" "[I", .fieldLink RX0 28 "IceLand$Annals" "floodUnits" "[I"] ++ wsX00)
def wsX1_allIce : List Cond := .code yX1_allIce cX1_allIce 3 (some .int) :: ([.fieldLink RX1 9 "IceLand$Core" "ice" "[I"] ++ wsX10)
def wsX0_note : List Cond := .code yX0_note cX0_note 3 none :: ([.fieldLink RX0 15 "IceLand$Annals" "frontOf" "[I", .fieldLink RX0 31 "IceLand$Land" "year" "I", .fieldLink RX0 37 "IceLand$Land" "frontCell" "I", .fieldLink RX0 19 "IceLand$Annals" "iceBehind" "[I", .fieldLink RX0 40 "IceLand$Land" "core" "LIceLand$Core;", .fieldLink RX0 50 "IceLand$Land" "burst" "[I", .fieldLink RX0 53 "IceLand$Annals" "floodCount" "I", .fieldLink RX0 22 "IceLand$Annals" "floodYear" "[I", .fieldLink RX0 25 "IceLand$Annals" "floodCell" "[I", .fieldLink RX0 28 "IceLand$Annals" "floodUnits" "[I", .methodLink RX0 44 yX1_allIce, .instanceMethod yX1_allIce, .selects RX1 yX1_allIce yX1_allIce, .initialized RX1, .code yX1_allIce cX1_allIce 3 (some .int), .fieldLink RX1 9 "IceLand$Core" "ice" "[I"] ++ wsX00 ++ wsX30 ++ wsX10)
def wsX1_init : List Cond := .code yX1_init cX1_init 1 none :: ([.methodLink RX1 3 objectInit, .instanceMethod objectInit, .code objectInit ⟨#[0xb1]⟩ 1 none, .arrayClass .int, .fieldLink RX1 9 "IceLand$Core" "ice" "[I", .fieldLink RX1 15 "IceLand$Core" "units" "[I"] ++ wsX10)
def wsX1_becomeLike : List Cond := .code yX1_becomeLike cX1_becomeLike 2 none :: ([.fieldLink RX1 9 "IceLand$Core" "ice" "[I", .methodLink RX1 18 arraycopyName, .native arraycopyName, .static arraycopyName, .initialized "java/lang/System", .fieldLink RX1 15 "IceLand$Core" "units" "[I"] ++ wsX10)
def wsX1_unitsOf : List Cond := .code yX1_unitsOf cX1_unitsOf 3 (some .int) :: ([.fieldLink RX1 15 "IceLand$Core" "units" "[I"] ++ wsX10)
def wsX1_lay : List Cond := .code yX1_lay cX1_lay 4 none :: ([.fieldLink RX1 15 "IceLand$Core" "units" "[I", .fieldLink RX1 9 "IceLand$Core" "ice" "[I"] ++ wsX10)
def wsX1_takeLatest : List Cond := .code yX1_takeLatest cX1_takeLatest 6 none :: ([.methodLink RX1 28 Lib.Math.min.name, .static Lib.Math.min.name, .initialized "java/lang/Math", .code Lib.Math.min.name Lib.Math.min.code 2 (some .int), .methodLink RX1 24 yX1_unitsOf, .instanceMethod yX1_unitsOf, .selects RX1 yX1_unitsOf yX1_unitsOf, .initialized RX1, .code yX1_unitsOf cX1_unitsOf 3 (some .int), .fieldLink RX1 15 "IceLand$Core" "units" "[I", .methodLink RX1 33 yX1_lay, .instanceMethod yX1_lay, .selects RX1 yX1_lay yX1_lay, .code yX1_lay cX1_lay 4 none, .fieldLink RX1 9 "IceLand$Core" "ice" "[I"] ++ wsX10)
def wsX1_carry : List Cond := .code yX1_carry cX1_carry 7 none :: ([.methodLink RX1 28 Lib.Math.min.name, .static Lib.Math.min.name, .initialized "java/lang/Math", .code Lib.Math.min.name Lib.Math.min.code 2 (some .int), .methodLink RX1 24 yX1_unitsOf, .instanceMethod yX1_unitsOf, .selects RX1 yX1_unitsOf yX1_unitsOf, .initialized RX1, .code yX1_unitsOf cX1_unitsOf 3 (some .int), .fieldLink RX1 15 "IceLand$Core" "units" "[I", .methodLink RX1 33 yX1_lay, .instanceMethod yX1_lay, .selects RX1 yX1_lay yX1_lay, .code yX1_lay cX1_lay 4 none, .fieldLink RX1 9 "IceLand$Core" "ice" "[I"] ++ wsX10)
def wsX1_yearBelow : List Cond := .code yX1_yearBelow cX1_yearBelow 6 (some .int) :: ([.methodLink RX1 24 yX1_unitsOf, .instanceMethod yX1_unitsOf, .selects RX1 yX1_unitsOf yX1_unitsOf, .initialized RX1, .code yX1_unitsOf cX1_unitsOf 3 (some .int), .fieldLink RX1 15 "IceLand$Core" "units" "[I"] ++ wsX10)
def wsX2_init : List Cond := .code yX2_init cX2_init 1 none :: ([.methodLink RX2 3 objectInit, .instanceMethod objectInit, .code objectInit ⟨#[0xb1]⟩ 1 none, .arrayClass .int, .fieldLink RX2 9 "IceLand$Forecasts" "meantYear" "[I", .fieldLink RX2 15 "IceLand$Forecasts" "expected" "[I"] ++ wsX20)
def wsX2_keep : List Cond := .code yX2_keep cX2_keep 3 none :: ([.fieldLink RX2 18 "IceLand$Forecasts" "count" "I", .fieldLink RX2 9 "IceLand$Forecasts" "meantYear" "[I", .fieldLink RX2 15 "IceLand$Forecasts" "expected" "[I"] ++ wsX20)
def wsX4_init : List Cond := .code yX4_init cX4_init 1 none :: ([.methodLink RX4 1 objectInit, .instanceMethod objectInit, .code objectInit ⟨#[0xb1]⟩ 1 none])
def wsX3_init_r1 : List Cond := [Cond.methodLink RX3 3 objectInit, Cond.instanceMethod objectInit, Cond.code objectInit ⟨#[0xb1]⟩ 1 none, Cond.classLink RX3 9 RX1, Cond.instantiable RX1 2, Cond.initialized RX1, Cond.fieldLink RX3 12 "IceLand$Land" "core" "LIceLand$Core;", Cond.classLink RX3 18 RX4, Cond.instantiable RX4 5, Cond.initialized RX4, Cond.fieldLink RX3 21 "IceLand$Land" "sums" "LIceLand$Sums;", Cond.arrayClass .int, Cond.fieldLink RX3 25 "IceLand$Land" "bed" "[I", Cond.fieldLink RX3 29 "IceLand$Land" "base" "[I", Cond.fieldLink RX3 32 "IceLand$Land" "water" "[I", Cond.fieldLink RX3 35 "IceLand$Land" "moraine" "[I", Cond.fieldLink RX3 38 "IceLand$Land" "snowed" "[I", Cond.fieldLink RX3 41 "IceLand$Land" "gain" "[I", Cond.fieldLink RX3 44 "IceLand$Land" "passing" "[I", Cond.fieldLink RX3 47 "IceLand$Land" "burst" "[I", Cond.fieldLink RX3 50 "IceLand$Land" "frontCell" "I", Cond.instanceMethod yX1_init, Cond.code yX1_init cX1_init 1 none, Cond.methodLink RX1 3 objectInit]
def wsX3_init_r2 : List Cond := [Cond.fieldLink RX1 9 "IceLand$Core" "ice" "[I", Cond.fieldLink RX1 15 "IceLand$Core" "units" "[I", Cond.instanceMethod yX4_init, Cond.code yX4_init cX4_init 1 none, Cond.methodLink RX4 1 objectInit]
def wsX3_init : List Cond := .code yX3_init cX3_init 2 none :: ((wsX3_init_r1 ++ wsX3_init_r2) ++ wsX10 ++ wsX30 ++ wsX40)
def wsX3_becomeLike : List Cond := .code yX3_becomeLike cX3_becomeLike 2 none :: ([.fieldLink RX3 54 "IceLand$Land" "year" "I", .fieldLink RX3 57 "IceLand$Land" "level" "I", .fieldLink RX3 60 "IceLand$Land" "warmth" "I", .fieldLink RX3 63 "IceLand$Land" "snow" "I", .fieldLink RX3 66 "IceLand$Land" "factor" "I", .fieldLink RX3 12 "IceLand$Land" "core" "LIceLand$Core;", .fieldLink RX3 25 "IceLand$Land" "bed" "[I", .methodLink RX3 73 arraycopyName, .native arraycopyName, .static arraycopyName, .initialized "java/lang/System", .fieldLink RX3 29 "IceLand$Land" "base" "[I", .fieldLink RX3 32 "IceLand$Land" "water" "[I", .fieldLink RX3 35 "IceLand$Land" "moraine" "[I", .methodLink RX3 69 yX1_becomeLike, .instanceMethod yX1_becomeLike, .selects RX1 yX1_becomeLike yX1_becomeLike, .initialized RX1, .code yX1_becomeLike cX1_becomeLike 2 none, .fieldLink RX1 9 "IceLand$Core" "ice" "[I", .methodLink RX1 18 arraycopyName, .fieldLink RX1 15 "IceLand$Core" "units" "[I"] ++ wsX30 ++ wsX10)
def wsX3_surface : List Cond := .code yX3_surface cX3_surface 2 (some .int) :: ([.fieldLink RX3 25 "IceLand$Land" "bed" "[I", .fieldLink RX3 12 "IceLand$Land" "core" "LIceLand$Core;", .fieldLink RX3 101 "IceLand$Core" "ice" "[I"] ++ wsX30 ++ wsX10)
def wsJ9_floorDiv_7cf53 : List Cond := .code yJ9_floorDiv_7cf53 cJ9_floorDiv_7cf53 3 (some .int) :: ([])
def wsX3_standsInSea : List Cond := .code yX3_standsInSea cX3_standsInSea 2 (some .boolean) :: ([.fieldLink RX3 25 "IceLand$Land" "bed" "[I", .fieldLink RX3 57 "IceLand$Land" "level" "I"] ++ wsX30)
def wsX3_snowOrMelt_r1 : List Cond := [Cond.fieldLink RX3 60 "IceLand$Land" "warmth" "I", Cond.fieldLink RX3 38 "IceLand$Land" "snowed" "[I", Cond.fieldLink RX3 12 "IceLand$Land" "core" "LIceLand$Core;", Cond.fieldLink RX3 101 "IceLand$Core" "ice" "[I", Cond.fieldLink RX3 63 "IceLand$Land" "snow" "I", Cond.fieldLink RX3 54 "IceLand$Land" "year" "I", Cond.fieldLink RX3 21 "IceLand$Land" "sums" "LIceLand$Sums;", Cond.fieldLink RX3 131 "IceLand$Sums" "fallen" "I", Cond.fieldLink RX3 66 "IceLand$Land" "factor" "I", Cond.methodLink RX3 134 Lib.Math.min.name, Cond.static Lib.Math.min.name, Cond.initialized "java/lang/Math", Cond.code Lib.Math.min.name Lib.Math.min.code 2 (some .int), Cond.fieldLink RX3 32 "IceLand$Land" "water" "[I", Cond.fieldLink RX3 141 "IceLand$Sums" "melted" "I", Cond.methodLink RX3 104 yX3_surface, Cond.instanceMethod yX3_surface, Cond.selects RX3 yX3_surface yX3_surface, Cond.initialized RX3, Cond.code yX3_surface cX3_surface 2 (some .int), Cond.fieldLink RX3 25 "IceLand$Land" "bed" "[I", Cond.methodLink RX3 123 yJ9_floorDiv_7cf53, Cond.static yJ9_floorDiv_7cf53, Cond.initialized RJ9]
def wsX3_snowOrMelt_r2 : List Cond := [Cond.code yJ9_floorDiv_7cf53 cJ9_floorDiv_7cf53 3 (some .int), Cond.methodLink RX3 112 yX3_standsInSea, Cond.instanceMethod yX3_standsInSea, Cond.selects RX3 yX3_standsInSea yX3_standsInSea, Cond.code yX3_standsInSea cX3_standsInSea 2 (some .boolean), Cond.fieldLink RX3 57 "IceLand$Land" "level" "I", Cond.methodLink RX3 127 yX1_lay, Cond.instanceMethod yX1_lay, Cond.selects RX1 yX1_lay yX1_lay, Cond.initialized RX1, Cond.code yX1_lay cX1_lay 4 none, Cond.fieldLink RX1 15 "IceLand$Core" "units" "[I", Cond.fieldLink RX1 9 "IceLand$Core" "ice" "[I", Cond.methodLink RX3 137 yX1_takeLatest, Cond.instanceMethod yX1_takeLatest, Cond.selects RX1 yX1_takeLatest yX1_takeLatest, Cond.code yX1_takeLatest cX1_takeLatest 6 none, Cond.methodLink RX1 28 Lib.Math.min.name, Cond.methodLink RX1 24 yX1_unitsOf, Cond.instanceMethod yX1_unitsOf, Cond.selects RX1 yX1_unitsOf yX1_unitsOf, Cond.code yX1_unitsOf cX1_unitsOf 3 (some .int), Cond.methodLink RX1 33 yX1_lay]
def wsX3_snowOrMelt : List Cond := .code yX3_snowOrMelt cX3_snowOrMelt 4 none :: ((wsX3_snowOrMelt_r1 ++ wsX3_snowOrMelt_r2) ++ wsX30 ++ wsX10 ++ wsX40)
def wsJ9_floorDiv_f86c9 : List Cond := .code yJ9_floorDiv_f86c9 cJ9_floorDiv_f86c9 6 (some .long) :: ([])
def wsX3_givenBy : List Cond := .code yX3_givenBy cX3_givenBy 5 (some .int) :: ([.fieldLink RX3 12 "IceLand$Land" "core" "LIceLand$Core;", .fieldLink RX3 101 "IceLand$Core" "ice" "[I", .constantLong RX3 153 (200), .fieldLink RX3 32 "IceLand$Land" "water" "[I", .constantLong RX3 158 (2), .methodLink RX3 160 Lib.MathLoose.min_long.x, .static Lib.MathLoose.min_long.x, .initialized "java/lang/Math", .code Lib.MathLoose.min_long.x Lib.MathLoose.min_long.code 4 (some .long), .methodLink RX3 155 yJ9_floorDiv_f86c9, .static yJ9_floorDiv_f86c9, .initialized RJ9, .code yJ9_floorDiv_f86c9 cJ9_floorDiv_f86c9 6 (some .long), .methodLink RX3 123 yJ9_floorDiv_7cf53, .static yJ9_floorDiv_7cf53, .code yJ9_floorDiv_7cf53 cJ9_floorDiv_7cf53 3 (some .int)] ++ wsX30 ++ wsX10)
def wsX3_givenToNext_r1 : List Cond := [Cond.methodLink RX3 104 yX3_surface, Cond.instanceMethod yX3_surface, Cond.selects RX3 yX3_surface yX3_surface, Cond.initialized RX3, Cond.code yX3_surface cX3_surface 2 (some .int), Cond.fieldLink RX3 25 "IceLand$Land" "bed" "[I", Cond.fieldLink RX3 12 "IceLand$Land" "core" "LIceLand$Core;", Cond.fieldLink RX3 101 "IceLand$Core" "ice" "[I", Cond.methodLink RX3 150 yX3_givenBy, Cond.instanceMethod yX3_givenBy, Cond.selects RX3 yX3_givenBy yX3_givenBy, Cond.code yX3_givenBy cX3_givenBy 5 (some .int), Cond.constantLong RX3 153 (200), Cond.fieldLink RX3 32 "IceLand$Land" "water" "[I", Cond.constantLong RX3 158 (2), Cond.methodLink RX3 160 Lib.MathLoose.min_long.x, Cond.static Lib.MathLoose.min_long.x, Cond.initialized "java/lang/Math", Cond.code Lib.MathLoose.min_long.x Lib.MathLoose.min_long.code 4 (some .long), Cond.methodLink RX3 155 yJ9_floorDiv_f86c9, Cond.static yJ9_floorDiv_f86c9, Cond.initialized RJ9, Cond.code yJ9_floorDiv_f86c9 cJ9_floorDiv_f86c9 6 (some .long), Cond.methodLink RX3 123 yJ9_floorDiv_7cf53]
def wsX3_givenToNext_r2 : List Cond := [Cond.static yJ9_floorDiv_7cf53, Cond.code yJ9_floorDiv_7cf53 cJ9_floorDiv_7cf53 3 (some .int)]
def wsX3_givenToNext : List Cond := .code yX3_givenToNext cX3_givenToNext 3 (some .int) :: ((wsX3_givenToNext_r1 ++ wsX3_givenToNext_r2) ++ wsX30 ++ wsX10)
def wsX3_flow_r1 : List Cond := [Cond.fieldLink RX3 44 "IceLand$Land" "passing" "[I", Cond.fieldLink RX3 41 "IceLand$Land" "gain" "[I", Cond.fieldLink RX3 12 "IceLand$Land" "core" "LIceLand$Core;", Cond.methodLink RX3 144 yX3_givenToNext, Cond.instanceMethod yX3_givenToNext, Cond.selects RX3 yX3_givenToNext yX3_givenToNext, Cond.initialized RX3, Cond.code yX3_givenToNext cX3_givenToNext 3 (some .int), Cond.methodLink RX3 104 yX3_surface, Cond.instanceMethod yX3_surface, Cond.selects RX3 yX3_surface yX3_surface, Cond.code yX3_surface cX3_surface 2 (some .int), Cond.fieldLink RX3 25 "IceLand$Land" "bed" "[I", Cond.fieldLink RX3 101 "IceLand$Core" "ice" "[I", Cond.methodLink RX3 150 yX3_givenBy, Cond.instanceMethod yX3_givenBy, Cond.selects RX3 yX3_givenBy yX3_givenBy, Cond.code yX3_givenBy cX3_givenBy 5 (some .int), Cond.constantLong RX3 153 (200), Cond.fieldLink RX3 32 "IceLand$Land" "water" "[I", Cond.constantLong RX3 158 (2), Cond.methodLink RX3 160 Lib.MathLoose.min_long.x, Cond.static Lib.MathLoose.min_long.x, Cond.initialized "java/lang/Math"]
def wsX3_flow_r2 : List Cond := [Cond.code Lib.MathLoose.min_long.x Lib.MathLoose.min_long.code 4 (some .long), Cond.methodLink RX3 155 yJ9_floorDiv_f86c9, Cond.static yJ9_floorDiv_f86c9, Cond.initialized RJ9, Cond.code yJ9_floorDiv_f86c9 cJ9_floorDiv_f86c9 6 (some .long), Cond.methodLink RX3 123 yJ9_floorDiv_7cf53, Cond.static yJ9_floorDiv_7cf53, Cond.code yJ9_floorDiv_7cf53 cJ9_floorDiv_7cf53 3 (some .int), Cond.methodLink RX3 147 yX1_carry, Cond.instanceMethod yX1_carry, Cond.selects RX1 yX1_carry yX1_carry, Cond.initialized RX1, Cond.code yX1_carry cX1_carry 7 none, Cond.methodLink RX1 28 Lib.Math.min.name, Cond.static Lib.Math.min.name, Cond.code Lib.Math.min.name Lib.Math.min.code 2 (some .int), Cond.methodLink RX1 24 yX1_unitsOf, Cond.instanceMethod yX1_unitsOf, Cond.selects RX1 yX1_unitsOf yX1_unitsOf, Cond.code yX1_unitsOf cX1_unitsOf 3 (some .int), Cond.fieldLink RX1 15 "IceLand$Core" "units" "[I", Cond.methodLink RX1 33 yX1_lay, Cond.instanceMethod yX1_lay, Cond.selects RX1 yX1_lay yX1_lay]
def wsX3_flow_r3 : List Cond := [Cond.code yX1_lay cX1_lay 4 none, Cond.fieldLink RX1 9 "IceLand$Core" "ice" "[I"]
def wsX3_flow : List Cond := .code yX3_flow cX3_flow 3 none :: ((wsX3_flow_r1 ++ (wsX3_flow_r2 ++ wsX3_flow_r3)) ++ wsX30 ++ wsX10)
def wsX3_potential : List Cond := .code yX3_potential cX3_potential 2 (some .int) :: ([.fieldLink RX3 25 "IceLand$Land" "bed" "[I", .fieldLink RX3 12 "IceLand$Land" "core" "LIceLand$Core;", .fieldLink RX3 101 "IceLand$Core" "ice" "[I"] ++ wsX30 ++ wsX10)
def wsX3_runOff : List Cond := .code yX3_runOff cX3_runOff 3 none :: ([.fieldLink RX3 21 "IceLand$Land" "sums" "LIceLand$Sums;", .fieldLink RX3 162 "IceLand$Sums" "toSea" "I", .fieldLink RX3 32 "IceLand$Land" "water" "[I", .methodLink RX3 112 yX3_standsInSea, .instanceMethod yX3_standsInSea, .selects RX3 yX3_standsInSea yX3_standsInSea, .initialized RX3, .code yX3_standsInSea cX3_standsInSea 2 (some .boolean), .fieldLink RX3 25 "IceLand$Land" "bed" "[I", .fieldLink RX3 57 "IceLand$Land" "level" "I", .methodLink RX3 115 yX3_potential, .instanceMethod yX3_potential, .selects RX3 yX3_potential yX3_potential, .code yX3_potential cX3_potential 2 (some .int), .fieldLink RX3 12 "IceLand$Land" "core" "LIceLand$Core;", .fieldLink RX3 101 "IceLand$Core" "ice" "[I"] ++ wsX30 ++ wsX40 ++ wsX10)
def wsX3_leastIceBeside : List Cond := .code yX3_leastIceBeside cX3_leastIceBeside 4 (some .int) :: ([.fieldLink RX3 12 "IceLand$Land" "core" "LIceLand$Core;", .fieldLink RX3 101 "IceLand$Core" "ice" "[I", .methodLink RX3 134 Lib.Math.min.name, .static Lib.Math.min.name, .initialized "java/lang/Math", .code Lib.Math.min.name Lib.Math.min.code 2 (some .int)] ++ wsX30 ++ wsX10)
def wsX3_breakOut : List Cond := .code yX3_breakOut cX3_breakOut 3 none :: ([.fieldLink RX3 47 "IceLand$Land" "burst" "[I", .fieldLink RX3 32 "IceLand$Land" "water" "[I", .fieldLink RX3 21 "IceLand$Land" "sums" "LIceLand$Sums;", .fieldLink RX3 162 "IceLand$Sums" "toSea" "I", .methodLink RX3 165 yX3_leastIceBeside, .instanceMethod yX3_leastIceBeside, .selects RX3 yX3_leastIceBeside yX3_leastIceBeside, .initialized RX3, .code yX3_leastIceBeside cX3_leastIceBeside 4 (some .int), .fieldLink RX3 12 "IceLand$Land" "core" "LIceLand$Core;", .fieldLink RX3 101 "IceLand$Core" "ice" "[I", .methodLink RX3 134 Lib.Math.min.name, .static Lib.Math.min.name, .initialized "java/lang/Math", .code Lib.Math.min.name Lib.Math.min.code 2 (some .int)] ++ wsX30 ++ wsX40 ++ wsX10)
def wsX3_calve_r1 : List Cond := [Cond.fieldLink RX3 12 "IceLand$Land" "core" "LIceLand$Core;", Cond.fieldLink RX3 101 "IceLand$Core" "ice" "[I", Cond.fieldLink RX3 57 "IceLand$Land" "level" "I", Cond.fieldLink RX3 25 "IceLand$Land" "bed" "[I", Cond.fieldLink RX3 21 "IceLand$Land" "sums" "LIceLand$Sums;", Cond.fieldLink RX3 168 "IceLand$Sums" "bergs" "I", Cond.methodLink RX3 112 yX3_standsInSea, Cond.instanceMethod yX3_standsInSea, Cond.selects RX3 yX3_standsInSea yX3_standsInSea, Cond.initialized RX3, Cond.code yX3_standsInSea cX3_standsInSea 2 (some .boolean), Cond.methodLink RX3 137 yX1_takeLatest, Cond.instanceMethod yX1_takeLatest, Cond.selects RX1 yX1_takeLatest yX1_takeLatest, Cond.initialized RX1, Cond.code yX1_takeLatest cX1_takeLatest 6 none, Cond.methodLink RX1 28 Lib.Math.min.name, Cond.static Lib.Math.min.name, Cond.initialized "java/lang/Math", Cond.code Lib.Math.min.name Lib.Math.min.code 2 (some .int), Cond.methodLink RX1 24 yX1_unitsOf, Cond.instanceMethod yX1_unitsOf, Cond.selects RX1 yX1_unitsOf yX1_unitsOf, Cond.code yX1_unitsOf cX1_unitsOf 3 (some .int)]
def wsX3_calve_r2 : List Cond := [Cond.fieldLink RX1 15 "IceLand$Core" "units" "[I", Cond.methodLink RX1 33 yX1_lay, Cond.instanceMethod yX1_lay, Cond.selects RX1 yX1_lay yX1_lay, Cond.code yX1_lay cX1_lay 4 none, Cond.fieldLink RX1 9 "IceLand$Core" "ice" "[I"]
def wsX3_calve : List Cond := .code yX3_calve cX3_calve 4 none :: ((wsX3_calve_r1 ++ wsX3_calve_r2) ++ wsX30 ++ wsX10 ++ wsX40)
def wsX3_moveBed : List Cond := .code yX3_moveBed cX3_moveBed 3 none :: ([.fieldLink RX3 29 "IceLand$Land" "base" "[I", .fieldLink RX3 12 "IceLand$Land" "core" "LIceLand$Core;", .fieldLink RX3 101 "IceLand$Core" "ice" "[I", .fieldLink RX3 25 "IceLand$Land" "bed" "[I", .methodLink RX3 123 yJ9_floorDiv_7cf53, .static yJ9_floorDiv_7cf53, .initialized RJ9, .code yJ9_floorDiv_7cf53 cJ9_floorDiv_7cf53 3 (some .int)] ++ wsX30 ++ wsX10)
def wsX3_markFront : List Cond := .code yX3_markFront cX3_markFront 2 none :: ([.fieldLink RX3 50 "IceLand$Land" "frontCell" "I", .fieldLink RX3 12 "IceLand$Land" "core" "LIceLand$Core;", .fieldLink RX3 101 "IceLand$Core" "ice" "[I", .fieldLink RX3 35 "IceLand$Land" "moraine" "[I"] ++ wsX30 ++ wsX10)
def wsX3_goThroughYear_r1 : List Cond := [Cond.fieldLink RX3 54 "IceLand$Land" "year" "I", Cond.methodLink RX3 79 yX3_snowOrMelt, Cond.instanceMethod yX3_snowOrMelt, Cond.selects RX3 yX3_snowOrMelt yX3_snowOrMelt, Cond.initialized RX3, Cond.code yX3_snowOrMelt cX3_snowOrMelt 4 none, Cond.fieldLink RX3 60 "IceLand$Land" "warmth" "I", Cond.fieldLink RX3 38 "IceLand$Land" "snowed" "[I", Cond.fieldLink RX3 12 "IceLand$Land" "core" "LIceLand$Core;", Cond.fieldLink RX3 101 "IceLand$Core" "ice" "[I", Cond.fieldLink RX3 63 "IceLand$Land" "snow" "I", Cond.fieldLink RX3 21 "IceLand$Land" "sums" "LIceLand$Sums;", Cond.fieldLink RX3 131 "IceLand$Sums" "fallen" "I", Cond.fieldLink RX3 66 "IceLand$Land" "factor" "I", Cond.methodLink RX3 134 Lib.Math.min.name, Cond.static Lib.Math.min.name, Cond.initialized "java/lang/Math", Cond.code Lib.Math.min.name Lib.Math.min.code 2 (some .int), Cond.fieldLink RX3 32 "IceLand$Land" "water" "[I", Cond.fieldLink RX3 141 "IceLand$Sums" "melted" "I", Cond.methodLink RX3 104 yX3_surface, Cond.instanceMethod yX3_surface, Cond.selects RX3 yX3_surface yX3_surface, Cond.code yX3_surface cX3_surface 2 (some .int)]
def wsX3_goThroughYear_r2 : List Cond := [Cond.fieldLink RX3 25 "IceLand$Land" "bed" "[I", Cond.methodLink RX3 123 yJ9_floorDiv_7cf53, Cond.static yJ9_floorDiv_7cf53, Cond.initialized RJ9, Cond.code yJ9_floorDiv_7cf53 cJ9_floorDiv_7cf53 3 (some .int), Cond.methodLink RX3 112 yX3_standsInSea, Cond.instanceMethod yX3_standsInSea, Cond.selects RX3 yX3_standsInSea yX3_standsInSea, Cond.code yX3_standsInSea cX3_standsInSea 2 (some .boolean), Cond.fieldLink RX3 57 "IceLand$Land" "level" "I", Cond.methodLink RX3 127 yX1_lay, Cond.instanceMethod yX1_lay, Cond.selects RX1 yX1_lay yX1_lay, Cond.initialized RX1, Cond.code yX1_lay cX1_lay 4 none, Cond.fieldLink RX1 15 "IceLand$Core" "units" "[I", Cond.fieldLink RX1 9 "IceLand$Core" "ice" "[I", Cond.methodLink RX3 137 yX1_takeLatest, Cond.instanceMethod yX1_takeLatest, Cond.selects RX1 yX1_takeLatest yX1_takeLatest, Cond.code yX1_takeLatest cX1_takeLatest 6 none, Cond.methodLink RX1 28 Lib.Math.min.name, Cond.methodLink RX1 24 yX1_unitsOf, Cond.instanceMethod yX1_unitsOf]
def wsX3_goThroughYear_r3 : List Cond := [Cond.selects RX1 yX1_unitsOf yX1_unitsOf, Cond.code yX1_unitsOf cX1_unitsOf 3 (some .int), Cond.methodLink RX1 33 yX1_lay, Cond.methodLink RX3 83 yX3_flow, Cond.instanceMethod yX3_flow, Cond.selects RX3 yX3_flow yX3_flow, Cond.code yX3_flow cX3_flow 3 none, Cond.fieldLink RX3 44 "IceLand$Land" "passing" "[I", Cond.fieldLink RX3 41 "IceLand$Land" "gain" "[I", Cond.methodLink RX3 144 yX3_givenToNext, Cond.instanceMethod yX3_givenToNext, Cond.selects RX3 yX3_givenToNext yX3_givenToNext, Cond.code yX3_givenToNext cX3_givenToNext 3 (some .int), Cond.methodLink RX3 150 yX3_givenBy, Cond.instanceMethod yX3_givenBy, Cond.selects RX3 yX3_givenBy yX3_givenBy, Cond.code yX3_givenBy cX3_givenBy 5 (some .int), Cond.constantLong RX3 153 (200), Cond.constantLong RX3 158 (2), Cond.methodLink RX3 160 Lib.MathLoose.min_long.x, Cond.static Lib.MathLoose.min_long.x, Cond.code Lib.MathLoose.min_long.x Lib.MathLoose.min_long.code 4 (some .long), Cond.methodLink RX3 155 yJ9_floorDiv_f86c9, Cond.static yJ9_floorDiv_f86c9]
def wsX3_goThroughYear_r4 : List Cond := [Cond.code yJ9_floorDiv_f86c9 cJ9_floorDiv_f86c9 6 (some .long), Cond.methodLink RX3 147 yX1_carry, Cond.instanceMethod yX1_carry, Cond.selects RX1 yX1_carry yX1_carry, Cond.code yX1_carry cX1_carry 7 none, Cond.methodLink RX3 86 yX3_runOff, Cond.instanceMethod yX3_runOff, Cond.selects RX3 yX3_runOff yX3_runOff, Cond.code yX3_runOff cX3_runOff 3 none, Cond.fieldLink RX3 162 "IceLand$Sums" "toSea" "I", Cond.methodLink RX3 115 yX3_potential, Cond.instanceMethod yX3_potential, Cond.selects RX3 yX3_potential yX3_potential, Cond.code yX3_potential cX3_potential 2 (some .int), Cond.methodLink RX3 89 yX3_breakOut, Cond.instanceMethod yX3_breakOut, Cond.selects RX3 yX3_breakOut yX3_breakOut, Cond.code yX3_breakOut cX3_breakOut 3 none, Cond.fieldLink RX3 47 "IceLand$Land" "burst" "[I", Cond.methodLink RX3 165 yX3_leastIceBeside, Cond.instanceMethod yX3_leastIceBeside, Cond.selects RX3 yX3_leastIceBeside yX3_leastIceBeside, Cond.code yX3_leastIceBeside cX3_leastIceBeside 4 (some .int), Cond.methodLink RX3 92 yX3_calve]
def wsX3_goThroughYear_r5 : List Cond := [Cond.instanceMethod yX3_calve, Cond.selects RX3 yX3_calve yX3_calve, Cond.code yX3_calve cX3_calve 4 none, Cond.fieldLink RX3 168 "IceLand$Sums" "bergs" "I", Cond.methodLink RX3 95 yX3_moveBed, Cond.instanceMethod yX3_moveBed, Cond.selects RX3 yX3_moveBed yX3_moveBed, Cond.code yX3_moveBed cX3_moveBed 3 none, Cond.fieldLink RX3 29 "IceLand$Land" "base" "[I", Cond.methodLink RX3 98 yX3_markFront, Cond.instanceMethod yX3_markFront, Cond.selects RX3 yX3_markFront yX3_markFront, Cond.code yX3_markFront cX3_markFront 2 none, Cond.fieldLink RX3 50 "IceLand$Land" "frontCell" "I", Cond.fieldLink RX3 35 "IceLand$Land" "moraine" "[I"]
def wsX3_goThroughYear : List Cond := .code yX3_goThroughYear cX3_goThroughYear 2 none :: ((wsX3_goThroughYear_r1 ++ (wsX3_goThroughYear_r2 ++ (wsX3_goThroughYear_r3 ++ (wsX3_goThroughYear_r4 ++ wsX3_goThroughYear_r5)))) ++ wsX30 ++ wsX10 ++ wsX40)
def wsX3_hasCrevasse : List Cond := .code yX3_hasCrevasse cX3_hasCrevasse 2 (some .boolean) :: ([.fieldLink RX3 41 "IceLand$Land" "gain" "[I", .methodLink RX3 118 Lib.Math.abs.name, .static Lib.Math.abs.name, .initialized "java/lang/Math", .code Lib.Math.abs.name Lib.Math.abs.code 1 (some .int)] ++ wsX30)
def wsX3_tellOf_r1 : List Cond := [Cond.fieldLink RX3 25 "IceLand$Land" "bed" "[I", Cond.fieldLink RX3 12 "IceLand$Land" "core" "LIceLand$Core;", Cond.fieldLink RX3 101 "IceLand$Core" "ice" "[I", Cond.fieldLink RX3 32 "IceLand$Land" "water" "[I", Cond.fieldLink RX3 35 "IceLand$Land" "moraine" "[I", Cond.fieldLink RX3 38 "IceLand$Land" "snowed" "[I", Cond.fieldLink RX3 29 "IceLand$Land" "base" "[I", Cond.methodLink RX3 104 yX3_surface, Cond.instanceMethod yX3_surface, Cond.selects RX3 yX3_surface yX3_surface, Cond.initialized RX3, Cond.code yX3_surface cX3_surface 2 (some .int), Cond.methodLink RX3 108 yX3_hasCrevasse, Cond.instanceMethod yX3_hasCrevasse, Cond.selects RX3 yX3_hasCrevasse yX3_hasCrevasse, Cond.code yX3_hasCrevasse cX3_hasCrevasse 2 (some .boolean), Cond.fieldLink RX3 41 "IceLand$Land" "gain" "[I", Cond.methodLink RX3 118 Lib.Math.abs.name, Cond.static Lib.Math.abs.name, Cond.initialized "java/lang/Math", Cond.code Lib.Math.abs.name Lib.Math.abs.code 1 (some .int), Cond.methodLink RX3 112 yX3_standsInSea, Cond.instanceMethod yX3_standsInSea, Cond.selects RX3 yX3_standsInSea yX3_standsInSea]
def wsX3_tellOf_r2 : List Cond := [Cond.code yX3_standsInSea cX3_standsInSea 2 (some .boolean), Cond.fieldLink RX3 57 "IceLand$Land" "level" "I", Cond.methodLink RX3 115 yX3_potential, Cond.instanceMethod yX3_potential, Cond.selects RX3 yX3_potential yX3_potential, Cond.code yX3_potential cX3_potential 2 (some .int)]
def wsX3_tellOf : List Cond := .code yX3_tellOf cX3_tellOf 3 (some .int) :: ((wsX3_tellOf_r1 ++ wsX3_tellOf_r2) ++ wsX30 ++ wsX10)
def wsX3_allWater : List Cond := .code yX3_allWater cX3_allWater 3 (some .int) :: ([.fieldLink RX3 32 "IceLand$Land" "water" "[I"] ++ wsX30)
def wsX5_init_r1 : List Cond := [Cond.methodLink RX5 1 objectInit, Cond.instanceMethod objectInit, Cond.code objectInit ⟨#[0xb1]⟩ 1 none, Cond.classLink RX5 7 RX3, Cond.instantiable RX3 16, Cond.initialized RX3, Cond.fieldLink RX5 10 "IceLand" "present" "LIceLand$Land;", Cond.fieldLink RX5 16 "IceLand" "trial" "LIceLand$Land;", Cond.classLink RX5 19 RX0, Cond.instantiable RX0 7, Cond.initialized RX0, Cond.fieldLink RX5 22 "IceLand" "annals" "LIceLand$Annals;", Cond.classLink RX5 26 RX2, Cond.instantiable RX2 3, Cond.initialized RX2, Cond.fieldLink RX5 29 "IceLand" "forecasts" "LIceLand$Forecasts;", Cond.methodLink RX5 9 yX3_init, Cond.instanceMethod yX3_init, Cond.code yX3_init cX3_init 2 none, Cond.methodLink RX3 3 objectInit, Cond.classLink RX3 9 RX1, Cond.instantiable RX1 2, Cond.initialized RX1, Cond.fieldLink RX3 12 "IceLand$Land" "core" "LIceLand$Core;"]
def wsX5_init_r2 : List Cond := [Cond.classLink RX3 18 RX4, Cond.instantiable RX4 5, Cond.initialized RX4, Cond.fieldLink RX3 21 "IceLand$Land" "sums" "LIceLand$Sums;", Cond.arrayClass .int, Cond.fieldLink RX3 25 "IceLand$Land" "bed" "[I", Cond.fieldLink RX3 29 "IceLand$Land" "base" "[I", Cond.fieldLink RX3 32 "IceLand$Land" "water" "[I", Cond.fieldLink RX3 35 "IceLand$Land" "moraine" "[I", Cond.fieldLink RX3 38 "IceLand$Land" "snowed" "[I", Cond.fieldLink RX3 41 "IceLand$Land" "gain" "[I", Cond.fieldLink RX3 44 "IceLand$Land" "passing" "[I", Cond.fieldLink RX3 47 "IceLand$Land" "burst" "[I", Cond.fieldLink RX3 50 "IceLand$Land" "frontCell" "I", Cond.instanceMethod yX1_init, Cond.code yX1_init cX1_init 1 none, Cond.methodLink RX1 3 objectInit, Cond.fieldLink RX1 9 "IceLand$Core" "ice" "[I", Cond.fieldLink RX1 15 "IceLand$Core" "units" "[I", Cond.instanceMethod yX4_init, Cond.code yX4_init cX4_init 1 none, Cond.methodLink RX4 1 objectInit, Cond.methodLink RX5 21 yX0_init, Cond.instanceMethod yX0_init]
def wsX5_init_r3 : List Cond := [Cond.code yX0_init cX0_init 1 none, Cond.methodLink RX0 3 objectInit, Cond.arrayClass .boolean, Cond.fieldLink RX0 9 "IceLand$Annals" "ashFell" "[Z", Cond.fieldLink RX0 15 "IceLand$Annals" "frontOf" "[I", Cond.fieldLink RX0 19 "IceLand$Annals" "iceBehind" "[I", Cond.fieldLink RX0 22 "IceLand$Annals" "floodYear" "[I", Cond.fieldLink RX0 25 "IceLand$Annals" "floodCell" "[I", Cond.fieldLink RX0 28 "IceLand$Annals" "floodUnits" "[I", Cond.instanceMethod yX2_init, Cond.code yX2_init cX2_init 1 none, Cond.methodLink RX2 3 objectInit, Cond.fieldLink RX2 9 "IceLand$Forecasts" "meantYear" "[I", Cond.fieldLink RX2 15 "IceLand$Forecasts" "expected" "[I"]
def wsX5_init : List Cond := .code yX5_init cX5_init 1 none :: ((wsX5_init_r1 ++ (wsX5_init_r2 ++ wsX5_init_r3)) ++ wsX30 ++ wsX50 ++ wsX00 ++ wsX20 ++ wsX10 ++ wsX40)
def wsX5_needCell : List Cond := .code yX5_needCell cX5_needCell 1 none :: ([.classLink RX5 127 "java/lang/IndexOutOfBoundsException", .initialized "java/lang/IndexOutOfBoundsException"] ++ (vx_atS RX5 131 "java/lang/IndexOutOfBoundsException" ["java/lang/RuntimeException", "java/lang/Exception"]).filter goodWord)
def wsX5_needWithin : List Cond := .code yX5_needWithin cX5_needWithin 3 none :: ([.classLink RX5 199 "java/lang/IllegalArgumentException", .initialized "java/lang/IllegalArgumentException"] ++ (vx_atS RX5 203 "java/lang/IllegalArgumentException" ["java/lang/RuntimeException", "java/lang/Exception"]).filter goodWord)
def wsX5_land : List Cond := .code yX5_land cX5_land 4 (some .int) :: ([.classLink RX5 54 "java/lang/IllegalStateException", .initialized "java/lang/IllegalStateException", .fieldLink RX5 10 "IceLand" "present" "LIceLand$Land;", .fieldLink RX5 41 "IceLand$Land" "core" "LIceLand$Core;", .fieldLink RX5 45 "IceLand$Core" "ice" "[I", .fieldLink RX5 51 "IceLand$Land" "water" "[I", .fieldLink RX5 61 "IceLand$Land" "bed" "[I", .fieldLink RX5 64 "IceLand$Land" "base" "[I", .methodLink RX5 33 yX5_needCell, .static yX5_needCell, .initialized RX5, .code yX5_needCell cX5_needCell 1 none, .classLink RX5 127 "java/lang/IndexOutOfBoundsException", .initialized "java/lang/IndexOutOfBoundsException", .methodLink RX5 37 yX5_needWithin, .static yX5_needWithin, .code yX5_needWithin cX5_needWithin 3 none, .classLink RX5 199 "java/lang/IllegalArgumentException", .initialized "java/lang/IllegalArgumentException"] ++ wsX50 ++ wsX30 ++ wsX10 ++ (vx_atS RX5 58 "java/lang/IllegalStateException" ["java/lang/RuntimeException", "java/lang/Exception"]).filter goodWord ++ (vx_atS RX5 131 "java/lang/IndexOutOfBoundsException" ["java/lang/RuntimeException", "java/lang/Exception"]).filter goodWord ++ (vx_atS RX5 203 "java/lang/IllegalArgumentException" ["java/lang/RuntimeException", "java/lang/Exception"]).filter goodWord)
def wsX5_sea : List Cond := .code yX5_sea cX5_sea 3 (some .int) :: ([.fieldLink RX5 10 "IceLand" "present" "LIceLand$Land;", .fieldLink RX5 67 "IceLand$Land" "level" "I", .methodLink RX5 37 yX5_needWithin, .static yX5_needWithin, .initialized RX5, .code yX5_needWithin cX5_needWithin 3 none, .classLink RX5 199 "java/lang/IllegalArgumentException", .initialized "java/lang/IllegalArgumentException"] ++ wsX50 ++ wsX30 ++ (vx_atS RX5 203 "java/lang/IllegalArgumentException" ["java/lang/RuntimeException", "java/lang/Exception"]).filter goodWord)
def wsX5_climate : List Cond := .code yX5_climate cX5_climate 4 none :: ([.fieldLink RX5 10 "IceLand" "present" "LIceLand$Land;", .fieldLink RX5 71 "IceLand$Land" "warmth" "I", .fieldLink RX5 74 "IceLand$Land" "snow" "I", .fieldLink RX5 77 "IceLand$Land" "factor" "I", .methodLink RX5 37 yX5_needWithin, .static yX5_needWithin, .initialized RX5, .code yX5_needWithin cX5_needWithin 3 none, .classLink RX5 199 "java/lang/IllegalArgumentException", .initialized "java/lang/IllegalArgumentException"] ++ wsX50 ++ wsX30 ++ (vx_atS RX5 203 "java/lang/IllegalArgumentException" ["java/lang/RuntimeException", "java/lang/Exception"]).filter goodWord)
def wsX5_ice_r1 : List Cond := [Cond.classLink RX5 54 "java/lang/IllegalStateException", Cond.initialized "java/lang/IllegalStateException", Cond.fieldLink RX5 10 "IceLand" "present" "LIceLand$Land;", Cond.fieldLink RX5 41 "IceLand$Land" "core" "LIceLand$Core;", Cond.fieldLink RX5 45 "IceLand$Core" "ice" "[I", Cond.fieldLink RX5 82 "IceLand$Land" "year" "I", Cond.fieldLink RX5 88 "IceLand$Land" "sums" "LIceLand$Sums;", Cond.fieldLink RX5 92 "IceLand$Sums" "told" "I", Cond.methodLink RX5 33 yX5_needCell, Cond.static yX5_needCell, Cond.initialized RX5, Cond.code yX5_needCell cX5_needCell 1 none, Cond.classLink RX5 127 "java/lang/IndexOutOfBoundsException", Cond.initialized "java/lang/IndexOutOfBoundsException", Cond.methodLink RX5 37 yX5_needWithin, Cond.static yX5_needWithin, Cond.code yX5_needWithin cX5_needWithin 3 none, Cond.classLink RX5 199 "java/lang/IllegalArgumentException", Cond.initialized "java/lang/IllegalArgumentException", Cond.methodLink RX5 85 yX1_lay, Cond.instanceMethod yX1_lay, Cond.selects RX1 yX1_lay yX1_lay, Cond.initialized RX1, Cond.code yX1_lay cX1_lay 4 none]
def wsX5_ice_r2 : List Cond := [Cond.fieldLink RX1 15 "IceLand$Core" "units" "[I", Cond.fieldLink RX1 9 "IceLand$Core" "ice" "[I"]
def wsX5_ice : List Cond := .code yX5_ice cX5_ice 3 (some .int) :: ((wsX5_ice_r1 ++ wsX5_ice_r2) ++ wsX50 ++ wsX30 ++ wsX10 ++ wsX40 ++ (vx_atS RX5 58 "java/lang/IllegalStateException" ["java/lang/RuntimeException", "java/lang/Exception"]).filter goodWord ++ (vx_atS RX5 131 "java/lang/IndexOutOfBoundsException" ["java/lang/RuntimeException", "java/lang/Exception"]).filter goodWord ++ (vx_atS RX5 203 "java/lang/IllegalArgumentException" ["java/lang/RuntimeException", "java/lang/Exception"]).filter goodWord)
def wsX5_ash : List Cond := .code yX5_ash cX5_ash 2 (some .boolean) :: ([.fieldLink RX5 22 "IceLand" "annals" "LIceLand$Annals;", .fieldLink RX5 97 "IceLand$Annals" "ashFell" "[Z", .fieldLink RX5 10 "IceLand" "present" "LIceLand$Land;", .fieldLink RX5 82 "IceLand$Land" "year" "I"] ++ wsX50 ++ wsX00 ++ wsX30)
def wsX5_needNotTooLate : List Cond := .code yX5_needNotTooLate cX5_needNotTooLate 2 none :: ([.classLink RX5 54 "java/lang/IllegalStateException", .initialized "java/lang/IllegalStateException", .fieldLink RX5 10 "IceLand" "present" "LIceLand$Land;", .fieldLink RX5 82 "IceLand$Land" "year" "I"] ++ wsX50 ++ wsX30 ++ (vx_atS RX5 58 "java/lang/IllegalStateException" ["java/lang/RuntimeException", "java/lang/Exception"]).filter goodWord)
def wsX5_pass_r1 : List Cond := [Cond.fieldLink RX5 10 "IceLand" "present" "LIceLand$Land;", Cond.fieldLink RX5 22 "IceLand" "annals" "LIceLand$Annals;", Cond.fieldLink RX5 82 "IceLand$Land" "year" "I", Cond.methodLink RX5 37 yX5_needWithin, Cond.static yX5_needWithin, Cond.initialized RX5, Cond.code yX5_needWithin cX5_needWithin 3 none, Cond.classLink RX5 199 "java/lang/IllegalArgumentException", Cond.initialized "java/lang/IllegalArgumentException", Cond.methodLink RX5 101 yX5_needNotTooLate, Cond.instanceMethod yX5_needNotTooLate, Cond.selects RX5 yX5_needNotTooLate yX5_needNotTooLate, Cond.code yX5_needNotTooLate cX5_needNotTooLate 2 none, Cond.classLink RX5 54 "java/lang/IllegalStateException", Cond.initialized "java/lang/IllegalStateException", Cond.methodLink RX5 104 yX3_goThroughYear, Cond.instanceMethod yX3_goThroughYear, Cond.selects RX3 yX3_goThroughYear yX3_goThroughYear, Cond.initialized RX3, Cond.code yX3_goThroughYear cX3_goThroughYear 2 none, Cond.fieldLink RX3 54 "IceLand$Land" "year" "I", Cond.methodLink RX3 79 yX3_snowOrMelt, Cond.instanceMethod yX3_snowOrMelt, Cond.selects RX3 yX3_snowOrMelt yX3_snowOrMelt]
def wsX5_pass_r2 : List Cond := [Cond.code yX3_snowOrMelt cX3_snowOrMelt 4 none, Cond.fieldLink RX3 60 "IceLand$Land" "warmth" "I", Cond.fieldLink RX3 38 "IceLand$Land" "snowed" "[I", Cond.fieldLink RX3 12 "IceLand$Land" "core" "LIceLand$Core;", Cond.fieldLink RX3 101 "IceLand$Core" "ice" "[I", Cond.fieldLink RX3 63 "IceLand$Land" "snow" "I", Cond.fieldLink RX3 21 "IceLand$Land" "sums" "LIceLand$Sums;", Cond.fieldLink RX3 131 "IceLand$Sums" "fallen" "I", Cond.fieldLink RX3 66 "IceLand$Land" "factor" "I", Cond.methodLink RX3 134 Lib.Math.min.name, Cond.static Lib.Math.min.name, Cond.initialized "java/lang/Math", Cond.code Lib.Math.min.name Lib.Math.min.code 2 (some .int), Cond.fieldLink RX3 32 "IceLand$Land" "water" "[I", Cond.fieldLink RX3 141 "IceLand$Sums" "melted" "I", Cond.methodLink RX3 104 yX3_surface, Cond.instanceMethod yX3_surface, Cond.selects RX3 yX3_surface yX3_surface, Cond.code yX3_surface cX3_surface 2 (some .int), Cond.fieldLink RX3 25 "IceLand$Land" "bed" "[I", Cond.methodLink RX3 123 yJ9_floorDiv_7cf53, Cond.static yJ9_floorDiv_7cf53, Cond.initialized RJ9, Cond.code yJ9_floorDiv_7cf53 cJ9_floorDiv_7cf53 3 (some .int)]
def wsX5_pass_r3 : List Cond := [Cond.methodLink RX3 112 yX3_standsInSea, Cond.instanceMethod yX3_standsInSea, Cond.selects RX3 yX3_standsInSea yX3_standsInSea, Cond.code yX3_standsInSea cX3_standsInSea 2 (some .boolean), Cond.fieldLink RX3 57 "IceLand$Land" "level" "I", Cond.methodLink RX3 127 yX1_lay, Cond.instanceMethod yX1_lay, Cond.selects RX1 yX1_lay yX1_lay, Cond.initialized RX1, Cond.code yX1_lay cX1_lay 4 none, Cond.fieldLink RX1 15 "IceLand$Core" "units" "[I", Cond.fieldLink RX1 9 "IceLand$Core" "ice" "[I", Cond.methodLink RX3 137 yX1_takeLatest, Cond.instanceMethod yX1_takeLatest, Cond.selects RX1 yX1_takeLatest yX1_takeLatest, Cond.code yX1_takeLatest cX1_takeLatest 6 none, Cond.methodLink RX1 28 Lib.Math.min.name, Cond.methodLink RX1 24 yX1_unitsOf, Cond.instanceMethod yX1_unitsOf, Cond.selects RX1 yX1_unitsOf yX1_unitsOf, Cond.code yX1_unitsOf cX1_unitsOf 3 (some .int), Cond.methodLink RX1 33 yX1_lay, Cond.methodLink RX3 83 yX3_flow, Cond.instanceMethod yX3_flow]
def wsX5_pass_r4 : List Cond := [Cond.selects RX3 yX3_flow yX3_flow, Cond.code yX3_flow cX3_flow 3 none, Cond.fieldLink RX3 44 "IceLand$Land" "passing" "[I", Cond.fieldLink RX3 41 "IceLand$Land" "gain" "[I", Cond.methodLink RX3 144 yX3_givenToNext, Cond.instanceMethod yX3_givenToNext, Cond.selects RX3 yX3_givenToNext yX3_givenToNext, Cond.code yX3_givenToNext cX3_givenToNext 3 (some .int), Cond.methodLink RX3 150 yX3_givenBy, Cond.instanceMethod yX3_givenBy, Cond.selects RX3 yX3_givenBy yX3_givenBy, Cond.code yX3_givenBy cX3_givenBy 5 (some .int), Cond.constantLong RX3 153 (200), Cond.constantLong RX3 158 (2), Cond.methodLink RX3 160 Lib.MathLoose.min_long.x, Cond.static Lib.MathLoose.min_long.x, Cond.code Lib.MathLoose.min_long.x Lib.MathLoose.min_long.code 4 (some .long), Cond.methodLink RX3 155 yJ9_floorDiv_f86c9, Cond.static yJ9_floorDiv_f86c9, Cond.code yJ9_floorDiv_f86c9 cJ9_floorDiv_f86c9 6 (some .long), Cond.methodLink RX3 147 yX1_carry, Cond.instanceMethod yX1_carry, Cond.selects RX1 yX1_carry yX1_carry, Cond.code yX1_carry cX1_carry 7 none]
def wsX5_pass_r5 : List Cond := [Cond.methodLink RX3 86 yX3_runOff, Cond.instanceMethod yX3_runOff, Cond.selects RX3 yX3_runOff yX3_runOff, Cond.code yX3_runOff cX3_runOff 3 none, Cond.fieldLink RX3 162 "IceLand$Sums" "toSea" "I", Cond.methodLink RX3 115 yX3_potential, Cond.instanceMethod yX3_potential, Cond.selects RX3 yX3_potential yX3_potential, Cond.code yX3_potential cX3_potential 2 (some .int), Cond.methodLink RX3 89 yX3_breakOut, Cond.instanceMethod yX3_breakOut, Cond.selects RX3 yX3_breakOut yX3_breakOut, Cond.code yX3_breakOut cX3_breakOut 3 none, Cond.fieldLink RX3 47 "IceLand$Land" "burst" "[I", Cond.methodLink RX3 165 yX3_leastIceBeside, Cond.instanceMethod yX3_leastIceBeside, Cond.selects RX3 yX3_leastIceBeside yX3_leastIceBeside, Cond.code yX3_leastIceBeside cX3_leastIceBeside 4 (some .int), Cond.methodLink RX3 92 yX3_calve, Cond.instanceMethod yX3_calve, Cond.selects RX3 yX3_calve yX3_calve, Cond.code yX3_calve cX3_calve 4 none, Cond.fieldLink RX3 168 "IceLand$Sums" "bergs" "I", Cond.methodLink RX3 95 yX3_moveBed]
def wsX5_pass_r6 : List Cond := [Cond.instanceMethod yX3_moveBed, Cond.selects RX3 yX3_moveBed yX3_moveBed, Cond.code yX3_moveBed cX3_moveBed 3 none, Cond.fieldLink RX3 29 "IceLand$Land" "base" "[I", Cond.methodLink RX3 98 yX3_markFront, Cond.instanceMethod yX3_markFront, Cond.selects RX3 yX3_markFront yX3_markFront, Cond.code yX3_markFront cX3_markFront 2 none, Cond.fieldLink RX3 50 "IceLand$Land" "frontCell" "I", Cond.fieldLink RX3 35 "IceLand$Land" "moraine" "[I", Cond.methodLink RX5 107 yX0_note, Cond.instanceMethod yX0_note, Cond.selects RX0 yX0_note yX0_note, Cond.initialized RX0, Cond.code yX0_note cX0_note 3 none, Cond.fieldLink RX0 15 "IceLand$Annals" "frontOf" "[I", Cond.fieldLink RX0 31 "IceLand$Land" "year" "I", Cond.fieldLink RX0 37 "IceLand$Land" "frontCell" "I", Cond.fieldLink RX0 19 "IceLand$Annals" "iceBehind" "[I", Cond.fieldLink RX0 40 "IceLand$Land" "core" "LIceLand$Core;", Cond.fieldLink RX0 50 "IceLand$Land" "burst" "[I", Cond.fieldLink RX0 53 "IceLand$Annals" "floodCount" "I", Cond.fieldLink RX0 22 "IceLand$Annals" "floodYear" "[I", Cond.fieldLink RX0 25 "IceLand$Annals" "floodCell" "[I"]
def wsX5_pass_r7 : List Cond := [Cond.fieldLink RX0 28 "IceLand$Annals" "floodUnits" "[I", Cond.methodLink RX0 44 yX1_allIce, Cond.instanceMethod yX1_allIce, Cond.selects RX1 yX1_allIce yX1_allIce, Cond.code yX1_allIce cX1_allIce 3 (some .int)]
def wsX5_pass : List Cond := .code yX5_pass cX5_pass 3 (some .int) :: ((wsX5_pass_r1 ++ (wsX5_pass_r2 ++ (wsX5_pass_r3 ++ (wsX5_pass_r4 ++ (wsX5_pass_r5 ++ (wsX5_pass_r6 ++ wsX5_pass_r7)))))) ++ wsX50 ++ wsX30 ++ wsX10 ++ wsX40 ++ wsX00 ++ (vx_atS RX5 203 "java/lang/IllegalArgumentException" ["java/lang/RuntimeException", "java/lang/Exception"]).filter goodWord ++ (vx_atS RX5 58 "java/lang/IllegalStateException" ["java/lang/RuntimeException", "java/lang/Exception"]).filter goodWord)
def wsX5_cellIs_r1 : List Cond := [Cond.fieldLink RX5 10 "IceLand" "present" "LIceLand$Land;", Cond.methodLink RX5 33 yX5_needCell, Cond.static yX5_needCell, Cond.initialized RX5, Cond.code yX5_needCell cX5_needCell 1 none, Cond.classLink RX5 127 "java/lang/IndexOutOfBoundsException", Cond.initialized "java/lang/IndexOutOfBoundsException", Cond.methodLink RX5 37 yX5_needWithin, Cond.static yX5_needWithin, Cond.code yX5_needWithin cX5_needWithin 3 none, Cond.classLink RX5 199 "java/lang/IllegalArgumentException", Cond.initialized "java/lang/IllegalArgumentException", Cond.methodLink RX5 111 yX3_tellOf, Cond.instanceMethod yX3_tellOf, Cond.selects RX3 yX3_tellOf yX3_tellOf, Cond.initialized RX3, Cond.code yX3_tellOf cX3_tellOf 3 (some .int), Cond.fieldLink RX3 25 "IceLand$Land" "bed" "[I", Cond.fieldLink RX3 12 "IceLand$Land" "core" "LIceLand$Core;", Cond.fieldLink RX3 101 "IceLand$Core" "ice" "[I", Cond.fieldLink RX3 32 "IceLand$Land" "water" "[I", Cond.fieldLink RX3 35 "IceLand$Land" "moraine" "[I", Cond.fieldLink RX3 38 "IceLand$Land" "snowed" "[I", Cond.fieldLink RX3 29 "IceLand$Land" "base" "[I"]
def wsX5_cellIs_r2 : List Cond := [Cond.methodLink RX3 104 yX3_surface, Cond.instanceMethod yX3_surface, Cond.selects RX3 yX3_surface yX3_surface, Cond.code yX3_surface cX3_surface 2 (some .int), Cond.methodLink RX3 108 yX3_hasCrevasse, Cond.instanceMethod yX3_hasCrevasse, Cond.selects RX3 yX3_hasCrevasse yX3_hasCrevasse, Cond.code yX3_hasCrevasse cX3_hasCrevasse 2 (some .boolean), Cond.fieldLink RX3 41 "IceLand$Land" "gain" "[I", Cond.methodLink RX3 118 Lib.Math.abs.name, Cond.static Lib.Math.abs.name, Cond.initialized "java/lang/Math", Cond.code Lib.Math.abs.name Lib.Math.abs.code 1 (some .int), Cond.methodLink RX3 112 yX3_standsInSea, Cond.instanceMethod yX3_standsInSea, Cond.selects RX3 yX3_standsInSea yX3_standsInSea, Cond.code yX3_standsInSea cX3_standsInSea 2 (some .boolean), Cond.fieldLink RX3 57 "IceLand$Land" "level" "I", Cond.methodLink RX3 115 yX3_potential, Cond.instanceMethod yX3_potential, Cond.selects RX3 yX3_potential yX3_potential, Cond.code yX3_potential cX3_potential 2 (some .int)]
def wsX5_cellIs : List Cond := .code yX5_cellIs cX5_cellIs 3 (some .int) :: ((wsX5_cellIs_r1 ++ wsX5_cellIs_r2) ++ wsX50 ++ wsX30 ++ wsX10 ++ (vx_atS RX5 131 "java/lang/IndexOutOfBoundsException" ["java/lang/RuntimeException", "java/lang/Exception"]).filter goodWord ++ (vx_atS RX5 203 "java/lang/IllegalArgumentException" ["java/lang/RuntimeException", "java/lang/Exception"]).filter goodWord)
def wsX5_layer : List Cond := .code yX5_layer cX5_layer 3 (some .int) :: ([.fieldLink RX5 10 "IceLand" "present" "LIceLand$Land;", .fieldLink RX5 41 "IceLand$Land" "core" "LIceLand$Core;", .methodLink RX5 33 yX5_needCell, .static yX5_needCell, .initialized RX5, .code yX5_needCell cX5_needCell 1 none, .classLink RX5 127 "java/lang/IndexOutOfBoundsException", .initialized "java/lang/IndexOutOfBoundsException", .methodLink RX5 37 yX5_needWithin, .static yX5_needWithin, .code yX5_needWithin cX5_needWithin 3 none, .classLink RX5 199 "java/lang/IllegalArgumentException", .initialized "java/lang/IllegalArgumentException", .methodLink RX5 115 yX1_unitsOf, .instanceMethod yX1_unitsOf, .selects RX1 yX1_unitsOf yX1_unitsOf, .initialized RX1, .code yX1_unitsOf cX1_unitsOf 3 (some .int), .fieldLink RX1 15 "IceLand$Core" "units" "[I"] ++ wsX50 ++ wsX30 ++ wsX10 ++ (vx_atS RX5 131 "java/lang/IndexOutOfBoundsException" ["java/lang/RuntimeException", "java/lang/Exception"]).filter goodWord ++ (vx_atS RX5 203 "java/lang/IllegalArgumentException" ["java/lang/RuntimeException", "java/lang/Exception"]).filter goodWord)
def wsX5_yearAt : List Cond := .code yX5_yearAt cX5_yearAt 3 (some .int) :: ([.constant RX5 120 (2147483647), .fieldLink RX5 10 "IceLand" "present" "LIceLand$Land;", .fieldLink RX5 41 "IceLand$Land" "core" "LIceLand$Core;", .methodLink RX5 33 yX5_needCell, .static yX5_needCell, .initialized RX5, .code yX5_needCell cX5_needCell 1 none, .classLink RX5 127 "java/lang/IndexOutOfBoundsException", .initialized "java/lang/IndexOutOfBoundsException", .methodLink RX5 37 yX5_needWithin, .static yX5_needWithin, .code yX5_needWithin cX5_needWithin 3 none, .classLink RX5 199 "java/lang/IllegalArgumentException", .initialized "java/lang/IllegalArgumentException", .methodLink RX5 121 yX1_yearBelow, .instanceMethod yX1_yearBelow, .selects RX1 yX1_yearBelow yX1_yearBelow, .initialized RX1, .code yX1_yearBelow cX1_yearBelow 6 (some .int), .methodLink RX1 24 yX1_unitsOf, .instanceMethod yX1_unitsOf, .selects RX1 yX1_unitsOf yX1_unitsOf, .code yX1_unitsOf cX1_unitsOf 3 (some .int), .fieldLink RX1 15 "IceLand$Core" "units" "[I"] ++ wsX50 ++ wsX30 ++ wsX10 ++ (vx_atS RX5 131 "java/lang/IndexOutOfBoundsException" ["java/lang/RuntimeException", "java/lang/Exception"]).filter goodWord ++ (vx_atS RX5 203 "java/lang/IllegalArgumentException" ["java/lang/RuntimeException", "java/lang/Exception"]).filter goodWord)
def wsX5_common : List Cond := .code yX5_common cX5_common 5 (some .int) :: ([.fieldLink RX5 22 "IceLand" "annals" "LIceLand$Annals;", .fieldLink RX5 97 "IceLand$Annals" "ashFell" "[Z", .fieldLink RX5 10 "IceLand" "present" "LIceLand$Land;", .fieldLink RX5 41 "IceLand$Land" "core" "LIceLand$Core;", .methodLink RX5 33 yX5_needCell, .static yX5_needCell, .initialized RX5, .code yX5_needCell cX5_needCell 1 none, .classLink RX5 127 "java/lang/IndexOutOfBoundsException", .initialized "java/lang/IndexOutOfBoundsException", .methodLink RX5 115 yX1_unitsOf, .instanceMethod yX1_unitsOf, .selects RX1 yX1_unitsOf yX1_unitsOf, .initialized RX1, .code yX1_unitsOf cX1_unitsOf 3 (some .int), .fieldLink RX1 15 "IceLand$Core" "units" "[I"] ++ wsX50 ++ wsX00 ++ wsX30 ++ wsX10 ++ (vx_atS RX5 131 "java/lang/IndexOutOfBoundsException" ["java/lang/RuntimeException", "java/lang/Exception"]).filter goodWord)
def wsX5_floods : List Cond := .code yX5_floods cX5_floods 1 (some .int) :: ([.fieldLink RX5 22 "IceLand" "annals" "LIceLand$Annals;", .fieldLink RX5 124 "IceLand$Annals" "floodCount" "I"] ++ wsX50 ++ wsX00)
def wsX5_flood : List Cond := .code yX5_flood cX5_flood 3 (some .int) :: ([.classLink RX5 127 "java/lang/IndexOutOfBoundsException", .initialized "java/lang/IndexOutOfBoundsException", .fieldLink RX5 22 "IceLand" "annals" "LIceLand$Annals;", .fieldLink RX5 124 "IceLand$Annals" "floodCount" "I", .fieldLink RX5 132 "IceLand$Annals" "floodYear" "[I", .fieldLink RX5 135 "IceLand$Annals" "floodCell" "[I", .fieldLink RX5 138 "IceLand$Annals" "floodUnits" "[I", .methodLink RX5 37 yX5_needWithin, .static yX5_needWithin, .initialized RX5, .code yX5_needWithin cX5_needWithin 3 none, .classLink RX5 199 "java/lang/IllegalArgumentException", .initialized "java/lang/IllegalArgumentException"] ++ wsX50 ++ wsX00 ++ (vx_atS RX5 131 "java/lang/IndexOutOfBoundsException" ["java/lang/RuntimeException", "java/lang/Exception"]).filter goodWord ++ (vx_atS RX5 203 "java/lang/IllegalArgumentException" ["java/lang/RuntimeException", "java/lang/Exception"]).filter goodWord)
def wsX5_front : List Cond := .code yX5_front cX5_front 2 (some .int) :: ([.fieldLink RX5 10 "IceLand" "present" "LIceLand$Land;", .fieldLink RX5 82 "IceLand$Land" "year" "I", .fieldLink RX5 22 "IceLand" "annals" "LIceLand$Annals;", .fieldLink RX5 141 "IceLand$Annals" "frontOf" "[I", .methodLink RX5 37 yX5_needWithin, .static yX5_needWithin, .initialized RX5, .code yX5_needWithin cX5_needWithin 3 none, .classLink RX5 199 "java/lang/IllegalArgumentException", .initialized "java/lang/IllegalArgumentException"] ++ wsX50 ++ wsX30 ++ wsX00 ++ (vx_atS RX5 203 "java/lang/IllegalArgumentException" ["java/lang/RuntimeException", "java/lang/Exception"]).filter goodWord)
def wsX5_total_r1 : List Cond := [Cond.fieldLink RX5 10 "IceLand" "present" "LIceLand$Land;", Cond.fieldLink RX5 41 "IceLand$Land" "core" "LIceLand$Core;", Cond.fieldLink RX5 88 "IceLand$Land" "sums" "LIceLand$Sums;", Cond.fieldLink RX5 151 "IceLand$Sums" "toSea" "I", Cond.fieldLink RX5 154 "IceLand$Sums" "bergs" "I", Cond.fieldLink RX5 157 "IceLand$Sums" "fallen" "I", Cond.fieldLink RX5 92 "IceLand$Sums" "told" "I", Cond.methodLink RX5 37 yX5_needWithin, Cond.static yX5_needWithin, Cond.initialized RX5, Cond.code yX5_needWithin cX5_needWithin 3 none, Cond.classLink RX5 199 "java/lang/IllegalArgumentException", Cond.initialized "java/lang/IllegalArgumentException", Cond.methodLink RX5 144 yX1_allIce, Cond.instanceMethod yX1_allIce, Cond.selects RX1 yX1_allIce yX1_allIce, Cond.initialized RX1, Cond.code yX1_allIce cX1_allIce 3 (some .int), Cond.fieldLink RX1 9 "IceLand$Core" "ice" "[I", Cond.methodLink RX5 148 yX3_allWater, Cond.instanceMethod yX3_allWater, Cond.selects RX3 yX3_allWater yX3_allWater, Cond.initialized RX3, Cond.code yX3_allWater cX3_allWater 3 (some .int)]
def wsX5_total_r2 : List Cond := [Cond.fieldLink RX3 32 "IceLand$Land" "water" "[I"]
def wsX5_total : List Cond := .code yX5_total cX5_total 2 (some .int) :: ((wsX5_total_r1 ++ wsX5_total_r2) ++ wsX50 ++ wsX30 ++ wsX40 ++ wsX10 ++ (vx_atS RX5 203 "java/lang/IllegalArgumentException" ["java/lang/RuntimeException", "java/lang/Exception"]).filter goodWord)
def wsX5_iceAnew : List Cond := .code yX5_iceAnew cX5_iceAnew 2 (some .int) :: ([.fieldLink RX5 10 "IceLand" "present" "LIceLand$Land;", .fieldLink RX5 88 "IceLand$Land" "sums" "LIceLand$Sums;", .fieldLink RX5 157 "IceLand$Sums" "fallen" "I", .fieldLink RX5 92 "IceLand$Sums" "told" "I", .fieldLink RX5 160 "IceLand$Sums" "melted" "I", .fieldLink RX5 154 "IceLand$Sums" "bergs" "I"] ++ wsX50 ++ wsX30 ++ wsX40)
def wsX5_tryOut_r1 : List Cond := [Cond.fieldLink RX5 16 "IceLand" "trial" "LIceLand$Land;", Cond.fieldLink RX5 10 "IceLand" "present" "LIceLand$Land;", Cond.methodLink RX5 192 yX3_becomeLike, Cond.instanceMethod yX3_becomeLike, Cond.selects RX3 yX3_becomeLike yX3_becomeLike, Cond.initialized RX3, Cond.code yX3_becomeLike cX3_becomeLike 2 none, Cond.fieldLink RX3 54 "IceLand$Land" "year" "I", Cond.fieldLink RX3 57 "IceLand$Land" "level" "I", Cond.fieldLink RX3 60 "IceLand$Land" "warmth" "I", Cond.fieldLink RX3 63 "IceLand$Land" "snow" "I", Cond.fieldLink RX3 66 "IceLand$Land" "factor" "I", Cond.fieldLink RX3 12 "IceLand$Land" "core" "LIceLand$Core;", Cond.fieldLink RX3 25 "IceLand$Land" "bed" "[I", Cond.methodLink RX3 73 arraycopyName, Cond.native arraycopyName, Cond.static arraycopyName, Cond.initialized "java/lang/System", Cond.fieldLink RX3 29 "IceLand$Land" "base" "[I", Cond.fieldLink RX3 32 "IceLand$Land" "water" "[I", Cond.fieldLink RX3 35 "IceLand$Land" "moraine" "[I", Cond.methodLink RX3 69 yX1_becomeLike, Cond.instanceMethod yX1_becomeLike, Cond.selects RX1 yX1_becomeLike yX1_becomeLike]
def wsX5_tryOut_r2 : List Cond := [Cond.initialized RX1, Cond.code yX1_becomeLike cX1_becomeLike 2 none, Cond.fieldLink RX1 9 "IceLand$Core" "ice" "[I", Cond.methodLink RX1 18 arraycopyName, Cond.fieldLink RX1 15 "IceLand$Core" "units" "[I", Cond.methodLink RX5 104 yX3_goThroughYear, Cond.instanceMethod yX3_goThroughYear, Cond.selects RX3 yX3_goThroughYear yX3_goThroughYear, Cond.code yX3_goThroughYear cX3_goThroughYear 2 none, Cond.methodLink RX3 79 yX3_snowOrMelt, Cond.instanceMethod yX3_snowOrMelt, Cond.selects RX3 yX3_snowOrMelt yX3_snowOrMelt, Cond.code yX3_snowOrMelt cX3_snowOrMelt 4 none, Cond.fieldLink RX3 38 "IceLand$Land" "snowed" "[I", Cond.fieldLink RX3 101 "IceLand$Core" "ice" "[I", Cond.fieldLink RX3 21 "IceLand$Land" "sums" "LIceLand$Sums;", Cond.fieldLink RX3 131 "IceLand$Sums" "fallen" "I", Cond.methodLink RX3 134 Lib.Math.min.name, Cond.static Lib.Math.min.name, Cond.initialized "java/lang/Math", Cond.code Lib.Math.min.name Lib.Math.min.code 2 (some .int), Cond.fieldLink RX3 141 "IceLand$Sums" "melted" "I", Cond.methodLink RX3 104 yX3_surface, Cond.instanceMethod yX3_surface]
def wsX5_tryOut_r3 : List Cond := [Cond.selects RX3 yX3_surface yX3_surface, Cond.code yX3_surface cX3_surface 2 (some .int), Cond.methodLink RX3 123 yJ9_floorDiv_7cf53, Cond.static yJ9_floorDiv_7cf53, Cond.initialized RJ9, Cond.code yJ9_floorDiv_7cf53 cJ9_floorDiv_7cf53 3 (some .int), Cond.methodLink RX3 112 yX3_standsInSea, Cond.instanceMethod yX3_standsInSea, Cond.selects RX3 yX3_standsInSea yX3_standsInSea, Cond.code yX3_standsInSea cX3_standsInSea 2 (some .boolean), Cond.methodLink RX3 127 yX1_lay, Cond.instanceMethod yX1_lay, Cond.selects RX1 yX1_lay yX1_lay, Cond.code yX1_lay cX1_lay 4 none, Cond.methodLink RX3 137 yX1_takeLatest, Cond.instanceMethod yX1_takeLatest, Cond.selects RX1 yX1_takeLatest yX1_takeLatest, Cond.code yX1_takeLatest cX1_takeLatest 6 none, Cond.methodLink RX1 28 Lib.Math.min.name, Cond.methodLink RX1 24 yX1_unitsOf, Cond.instanceMethod yX1_unitsOf, Cond.selects RX1 yX1_unitsOf yX1_unitsOf, Cond.code yX1_unitsOf cX1_unitsOf 3 (some .int), Cond.methodLink RX1 33 yX1_lay]
def wsX5_tryOut_r4 : List Cond := [Cond.methodLink RX3 83 yX3_flow, Cond.instanceMethod yX3_flow, Cond.selects RX3 yX3_flow yX3_flow, Cond.code yX3_flow cX3_flow 3 none, Cond.fieldLink RX3 44 "IceLand$Land" "passing" "[I", Cond.fieldLink RX3 41 "IceLand$Land" "gain" "[I", Cond.methodLink RX3 144 yX3_givenToNext, Cond.instanceMethod yX3_givenToNext, Cond.selects RX3 yX3_givenToNext yX3_givenToNext, Cond.code yX3_givenToNext cX3_givenToNext 3 (some .int), Cond.methodLink RX3 150 yX3_givenBy, Cond.instanceMethod yX3_givenBy, Cond.selects RX3 yX3_givenBy yX3_givenBy, Cond.code yX3_givenBy cX3_givenBy 5 (some .int), Cond.constantLong RX3 153 (200), Cond.constantLong RX3 158 (2), Cond.methodLink RX3 160 Lib.MathLoose.min_long.x, Cond.static Lib.MathLoose.min_long.x, Cond.code Lib.MathLoose.min_long.x Lib.MathLoose.min_long.code 4 (some .long), Cond.methodLink RX3 155 yJ9_floorDiv_f86c9, Cond.static yJ9_floorDiv_f86c9, Cond.code yJ9_floorDiv_f86c9 cJ9_floorDiv_f86c9 6 (some .long), Cond.methodLink RX3 147 yX1_carry, Cond.instanceMethod yX1_carry]
def wsX5_tryOut_r5 : List Cond := [Cond.selects RX1 yX1_carry yX1_carry, Cond.code yX1_carry cX1_carry 7 none, Cond.methodLink RX3 86 yX3_runOff, Cond.instanceMethod yX3_runOff, Cond.selects RX3 yX3_runOff yX3_runOff, Cond.code yX3_runOff cX3_runOff 3 none, Cond.fieldLink RX3 162 "IceLand$Sums" "toSea" "I", Cond.methodLink RX3 115 yX3_potential, Cond.instanceMethod yX3_potential, Cond.selects RX3 yX3_potential yX3_potential, Cond.code yX3_potential cX3_potential 2 (some .int), Cond.methodLink RX3 89 yX3_breakOut, Cond.instanceMethod yX3_breakOut, Cond.selects RX3 yX3_breakOut yX3_breakOut, Cond.code yX3_breakOut cX3_breakOut 3 none, Cond.fieldLink RX3 47 "IceLand$Land" "burst" "[I", Cond.methodLink RX3 165 yX3_leastIceBeside, Cond.instanceMethod yX3_leastIceBeside, Cond.selects RX3 yX3_leastIceBeside yX3_leastIceBeside, Cond.code yX3_leastIceBeside cX3_leastIceBeside 4 (some .int), Cond.methodLink RX3 92 yX3_calve, Cond.instanceMethod yX3_calve, Cond.selects RX3 yX3_calve yX3_calve, Cond.code yX3_calve cX3_calve 4 none]
def wsX5_tryOut_r6 : List Cond := [Cond.fieldLink RX3 168 "IceLand$Sums" "bergs" "I", Cond.methodLink RX3 95 yX3_moveBed, Cond.instanceMethod yX3_moveBed, Cond.selects RX3 yX3_moveBed yX3_moveBed, Cond.code yX3_moveBed cX3_moveBed 3 none, Cond.methodLink RX3 98 yX3_markFront, Cond.instanceMethod yX3_markFront, Cond.selects RX3 yX3_markFront yX3_markFront, Cond.code yX3_markFront cX3_markFront 2 none, Cond.fieldLink RX3 50 "IceLand$Land" "frontCell" "I"]
def wsX5_tryOut : List Cond := .code yX5_tryOut cX5_tryOut 3 none :: ((wsX5_tryOut_r1 ++ (wsX5_tryOut_r2 ++ (wsX5_tryOut_r3 ++ (wsX5_tryOut_r4 ++ (wsX5_tryOut_r5 ++ wsX5_tryOut_r6))))) ++ wsX50 ++ wsX30 ++ wsX10 ++ wsX40)
def wsX5_would_r1 : List Cond := [Cond.fieldLink RX5 16 "IceLand" "trial" "LIceLand$Land;", Cond.methodLink RX5 33 yX5_needCell, Cond.static yX5_needCell, Cond.initialized RX5, Cond.code yX5_needCell cX5_needCell 1 none, Cond.classLink RX5 127 "java/lang/IndexOutOfBoundsException", Cond.initialized "java/lang/IndexOutOfBoundsException", Cond.methodLink RX5 37 yX5_needWithin, Cond.static yX5_needWithin, Cond.code yX5_needWithin cX5_needWithin 3 none, Cond.classLink RX5 199 "java/lang/IllegalArgumentException", Cond.initialized "java/lang/IllegalArgumentException", Cond.methodLink RX5 101 yX5_needNotTooLate, Cond.instanceMethod yX5_needNotTooLate, Cond.selects RX5 yX5_needNotTooLate yX5_needNotTooLate, Cond.code yX5_needNotTooLate cX5_needNotTooLate 2 none, Cond.classLink RX5 54 "java/lang/IllegalStateException", Cond.initialized "java/lang/IllegalStateException", Cond.fieldLink RX5 10 "IceLand" "present" "LIceLand$Land;", Cond.fieldLink RX5 82 "IceLand$Land" "year" "I", Cond.methodLink RX5 163 yX5_tryOut, Cond.instanceMethod yX5_tryOut, Cond.selects RX5 yX5_tryOut yX5_tryOut, Cond.code yX5_tryOut cX5_tryOut 3 none]
def wsX5_would_r2 : List Cond := [Cond.methodLink RX5 192 yX3_becomeLike, Cond.instanceMethod yX3_becomeLike, Cond.selects RX3 yX3_becomeLike yX3_becomeLike, Cond.initialized RX3, Cond.code yX3_becomeLike cX3_becomeLike 2 none, Cond.fieldLink RX3 54 "IceLand$Land" "year" "I", Cond.fieldLink RX3 57 "IceLand$Land" "level" "I", Cond.fieldLink RX3 60 "IceLand$Land" "warmth" "I", Cond.fieldLink RX3 63 "IceLand$Land" "snow" "I", Cond.fieldLink RX3 66 "IceLand$Land" "factor" "I", Cond.fieldLink RX3 12 "IceLand$Land" "core" "LIceLand$Core;", Cond.fieldLink RX3 25 "IceLand$Land" "bed" "[I", Cond.methodLink RX3 73 arraycopyName, Cond.native arraycopyName, Cond.static arraycopyName, Cond.initialized "java/lang/System", Cond.fieldLink RX3 29 "IceLand$Land" "base" "[I", Cond.fieldLink RX3 32 "IceLand$Land" "water" "[I", Cond.fieldLink RX3 35 "IceLand$Land" "moraine" "[I", Cond.methodLink RX3 69 yX1_becomeLike, Cond.instanceMethod yX1_becomeLike, Cond.selects RX1 yX1_becomeLike yX1_becomeLike, Cond.initialized RX1, Cond.code yX1_becomeLike cX1_becomeLike 2 none]
def wsX5_would_r3 : List Cond := [Cond.fieldLink RX1 9 "IceLand$Core" "ice" "[I", Cond.methodLink RX1 18 arraycopyName, Cond.fieldLink RX1 15 "IceLand$Core" "units" "[I", Cond.methodLink RX5 104 yX3_goThroughYear, Cond.instanceMethod yX3_goThroughYear, Cond.selects RX3 yX3_goThroughYear yX3_goThroughYear, Cond.code yX3_goThroughYear cX3_goThroughYear 2 none, Cond.methodLink RX3 79 yX3_snowOrMelt, Cond.instanceMethod yX3_snowOrMelt, Cond.selects RX3 yX3_snowOrMelt yX3_snowOrMelt, Cond.code yX3_snowOrMelt cX3_snowOrMelt 4 none, Cond.fieldLink RX3 38 "IceLand$Land" "snowed" "[I", Cond.fieldLink RX3 101 "IceLand$Core" "ice" "[I", Cond.fieldLink RX3 21 "IceLand$Land" "sums" "LIceLand$Sums;", Cond.fieldLink RX3 131 "IceLand$Sums" "fallen" "I", Cond.methodLink RX3 134 Lib.Math.min.name, Cond.static Lib.Math.min.name, Cond.initialized "java/lang/Math", Cond.code Lib.Math.min.name Lib.Math.min.code 2 (some .int), Cond.fieldLink RX3 141 "IceLand$Sums" "melted" "I", Cond.methodLink RX3 104 yX3_surface, Cond.instanceMethod yX3_surface, Cond.selects RX3 yX3_surface yX3_surface, Cond.code yX3_surface cX3_surface 2 (some .int)]
def wsX5_would_r4 : List Cond := [Cond.methodLink RX3 123 yJ9_floorDiv_7cf53, Cond.static yJ9_floorDiv_7cf53, Cond.initialized RJ9, Cond.code yJ9_floorDiv_7cf53 cJ9_floorDiv_7cf53 3 (some .int), Cond.methodLink RX3 112 yX3_standsInSea, Cond.instanceMethod yX3_standsInSea, Cond.selects RX3 yX3_standsInSea yX3_standsInSea, Cond.code yX3_standsInSea cX3_standsInSea 2 (some .boolean), Cond.methodLink RX3 127 yX1_lay, Cond.instanceMethod yX1_lay, Cond.selects RX1 yX1_lay yX1_lay, Cond.code yX1_lay cX1_lay 4 none, Cond.methodLink RX3 137 yX1_takeLatest, Cond.instanceMethod yX1_takeLatest, Cond.selects RX1 yX1_takeLatest yX1_takeLatest, Cond.code yX1_takeLatest cX1_takeLatest 6 none, Cond.methodLink RX1 28 Lib.Math.min.name, Cond.methodLink RX1 24 yX1_unitsOf, Cond.instanceMethod yX1_unitsOf, Cond.selects RX1 yX1_unitsOf yX1_unitsOf, Cond.code yX1_unitsOf cX1_unitsOf 3 (some .int), Cond.methodLink RX1 33 yX1_lay, Cond.methodLink RX3 83 yX3_flow, Cond.instanceMethod yX3_flow]
def wsX5_would_r5 : List Cond := [Cond.selects RX3 yX3_flow yX3_flow, Cond.code yX3_flow cX3_flow 3 none, Cond.fieldLink RX3 44 "IceLand$Land" "passing" "[I", Cond.fieldLink RX3 41 "IceLand$Land" "gain" "[I", Cond.methodLink RX3 144 yX3_givenToNext, Cond.instanceMethod yX3_givenToNext, Cond.selects RX3 yX3_givenToNext yX3_givenToNext, Cond.code yX3_givenToNext cX3_givenToNext 3 (some .int), Cond.methodLink RX3 150 yX3_givenBy, Cond.instanceMethod yX3_givenBy, Cond.selects RX3 yX3_givenBy yX3_givenBy, Cond.code yX3_givenBy cX3_givenBy 5 (some .int), Cond.constantLong RX3 153 (200), Cond.constantLong RX3 158 (2), Cond.methodLink RX3 160 Lib.MathLoose.min_long.x, Cond.static Lib.MathLoose.min_long.x, Cond.code Lib.MathLoose.min_long.x Lib.MathLoose.min_long.code 4 (some .long), Cond.methodLink RX3 155 yJ9_floorDiv_f86c9, Cond.static yJ9_floorDiv_f86c9, Cond.code yJ9_floorDiv_f86c9 cJ9_floorDiv_f86c9 6 (some .long), Cond.methodLink RX3 147 yX1_carry, Cond.instanceMethod yX1_carry, Cond.selects RX1 yX1_carry yX1_carry, Cond.code yX1_carry cX1_carry 7 none]
def wsX5_would_r6 : List Cond := [Cond.methodLink RX3 86 yX3_runOff, Cond.instanceMethod yX3_runOff, Cond.selects RX3 yX3_runOff yX3_runOff, Cond.code yX3_runOff cX3_runOff 3 none, Cond.fieldLink RX3 162 "IceLand$Sums" "toSea" "I", Cond.methodLink RX3 115 yX3_potential, Cond.instanceMethod yX3_potential, Cond.selects RX3 yX3_potential yX3_potential, Cond.code yX3_potential cX3_potential 2 (some .int), Cond.methodLink RX3 89 yX3_breakOut, Cond.instanceMethod yX3_breakOut, Cond.selects RX3 yX3_breakOut yX3_breakOut, Cond.code yX3_breakOut cX3_breakOut 3 none, Cond.fieldLink RX3 47 "IceLand$Land" "burst" "[I", Cond.methodLink RX3 165 yX3_leastIceBeside, Cond.instanceMethod yX3_leastIceBeside, Cond.selects RX3 yX3_leastIceBeside yX3_leastIceBeside, Cond.code yX3_leastIceBeside cX3_leastIceBeside 4 (some .int), Cond.methodLink RX3 92 yX3_calve, Cond.instanceMethod yX3_calve, Cond.selects RX3 yX3_calve yX3_calve, Cond.code yX3_calve cX3_calve 4 none, Cond.fieldLink RX3 168 "IceLand$Sums" "bergs" "I", Cond.methodLink RX3 95 yX3_moveBed]
def wsX5_would_r7 : List Cond := [Cond.instanceMethod yX3_moveBed, Cond.selects RX3 yX3_moveBed yX3_moveBed, Cond.code yX3_moveBed cX3_moveBed 3 none, Cond.methodLink RX3 98 yX3_markFront, Cond.instanceMethod yX3_markFront, Cond.selects RX3 yX3_markFront yX3_markFront, Cond.code yX3_markFront cX3_markFront 2 none, Cond.fieldLink RX3 50 "IceLand$Land" "frontCell" "I", Cond.methodLink RX5 111 yX3_tellOf, Cond.instanceMethod yX3_tellOf, Cond.selects RX3 yX3_tellOf yX3_tellOf, Cond.code yX3_tellOf cX3_tellOf 3 (some .int), Cond.methodLink RX3 108 yX3_hasCrevasse, Cond.instanceMethod yX3_hasCrevasse, Cond.selects RX3 yX3_hasCrevasse yX3_hasCrevasse, Cond.code yX3_hasCrevasse cX3_hasCrevasse 2 (some .boolean), Cond.methodLink RX3 118 Lib.Math.abs.name, Cond.static Lib.Math.abs.name, Cond.code Lib.Math.abs.name Lib.Math.abs.code 1 (some .int)]
def wsX5_would : List Cond := .code yX5_would cX5_would 4 (some .int) :: ((wsX5_would_r1 ++ (wsX5_would_r2 ++ (wsX5_would_r3 ++ (wsX5_would_r4 ++ (wsX5_would_r5 ++ (wsX5_would_r6 ++ wsX5_would_r7)))))) ++ wsX50 ++ wsX30 ++ wsX10 ++ wsX40 ++ (vx_atS RX5 131 "java/lang/IndexOutOfBoundsException" ["java/lang/RuntimeException", "java/lang/Exception"]).filter goodWord ++ (vx_atS RX5 203 "java/lang/IllegalArgumentException" ["java/lang/RuntimeException", "java/lang/Exception"]).filter goodWord ++ (vx_atS RX5 58 "java/lang/IllegalStateException" ["java/lang/RuntimeException", "java/lang/Exception"]).filter goodWord)
def wsX5_forecast_r1 : List Cond := [Cond.classLink RX5 54 "java/lang/IllegalStateException", Cond.initialized "java/lang/IllegalStateException", Cond.fieldLink RX5 29 "IceLand" "forecasts" "LIceLand$Forecasts;", Cond.fieldLink RX5 166 "IceLand$Forecasts" "count" "I", Cond.fieldLink RX5 16 "IceLand" "trial" "LIceLand$Land;", Cond.fieldLink RX5 41 "IceLand$Land" "core" "LIceLand$Core;", Cond.fieldLink RX5 82 "IceLand$Land" "year" "I", Cond.methodLink RX5 37 yX5_needWithin, Cond.static yX5_needWithin, Cond.initialized RX5, Cond.code yX5_needWithin cX5_needWithin 3 none, Cond.classLink RX5 199 "java/lang/IllegalArgumentException", Cond.initialized "java/lang/IllegalArgumentException", Cond.methodLink RX5 101 yX5_needNotTooLate, Cond.instanceMethod yX5_needNotTooLate, Cond.selects RX5 yX5_needNotTooLate yX5_needNotTooLate, Cond.code yX5_needNotTooLate cX5_needNotTooLate 2 none, Cond.fieldLink RX5 10 "IceLand" "present" "LIceLand$Land;", Cond.methodLink RX5 163 yX5_tryOut, Cond.instanceMethod yX5_tryOut, Cond.selects RX5 yX5_tryOut yX5_tryOut, Cond.code yX5_tryOut cX5_tryOut 3 none, Cond.methodLink RX5 192 yX3_becomeLike, Cond.instanceMethod yX3_becomeLike]
def wsX5_forecast_r2 : List Cond := [Cond.selects RX3 yX3_becomeLike yX3_becomeLike, Cond.initialized RX3, Cond.code yX3_becomeLike cX3_becomeLike 2 none, Cond.fieldLink RX3 54 "IceLand$Land" "year" "I", Cond.fieldLink RX3 57 "IceLand$Land" "level" "I", Cond.fieldLink RX3 60 "IceLand$Land" "warmth" "I", Cond.fieldLink RX3 63 "IceLand$Land" "snow" "I", Cond.fieldLink RX3 66 "IceLand$Land" "factor" "I", Cond.fieldLink RX3 12 "IceLand$Land" "core" "LIceLand$Core;", Cond.fieldLink RX3 25 "IceLand$Land" "bed" "[I", Cond.methodLink RX3 73 arraycopyName, Cond.native arraycopyName, Cond.static arraycopyName, Cond.initialized "java/lang/System", Cond.fieldLink RX3 29 "IceLand$Land" "base" "[I", Cond.fieldLink RX3 32 "IceLand$Land" "water" "[I", Cond.fieldLink RX3 35 "IceLand$Land" "moraine" "[I", Cond.methodLink RX3 69 yX1_becomeLike, Cond.instanceMethod yX1_becomeLike, Cond.selects RX1 yX1_becomeLike yX1_becomeLike, Cond.initialized RX1, Cond.code yX1_becomeLike cX1_becomeLike 2 none, Cond.fieldLink RX1 9 "IceLand$Core" "ice" "[I", Cond.methodLink RX1 18 arraycopyName]
def wsX5_forecast_r3 : List Cond := [Cond.fieldLink RX1 15 "IceLand$Core" "units" "[I", Cond.methodLink RX5 104 yX3_goThroughYear, Cond.instanceMethod yX3_goThroughYear, Cond.selects RX3 yX3_goThroughYear yX3_goThroughYear, Cond.code yX3_goThroughYear cX3_goThroughYear 2 none, Cond.methodLink RX3 79 yX3_snowOrMelt, Cond.instanceMethod yX3_snowOrMelt, Cond.selects RX3 yX3_snowOrMelt yX3_snowOrMelt, Cond.code yX3_snowOrMelt cX3_snowOrMelt 4 none, Cond.fieldLink RX3 38 "IceLand$Land" "snowed" "[I", Cond.fieldLink RX3 101 "IceLand$Core" "ice" "[I", Cond.fieldLink RX3 21 "IceLand$Land" "sums" "LIceLand$Sums;", Cond.fieldLink RX3 131 "IceLand$Sums" "fallen" "I", Cond.methodLink RX3 134 Lib.Math.min.name, Cond.static Lib.Math.min.name, Cond.initialized "java/lang/Math", Cond.code Lib.Math.min.name Lib.Math.min.code 2 (some .int), Cond.fieldLink RX3 141 "IceLand$Sums" "melted" "I", Cond.methodLink RX3 104 yX3_surface, Cond.instanceMethod yX3_surface, Cond.selects RX3 yX3_surface yX3_surface, Cond.code yX3_surface cX3_surface 2 (some .int), Cond.methodLink RX3 123 yJ9_floorDiv_7cf53, Cond.static yJ9_floorDiv_7cf53]
def wsX5_forecast_r4 : List Cond := [Cond.initialized RJ9, Cond.code yJ9_floorDiv_7cf53 cJ9_floorDiv_7cf53 3 (some .int), Cond.methodLink RX3 112 yX3_standsInSea, Cond.instanceMethod yX3_standsInSea, Cond.selects RX3 yX3_standsInSea yX3_standsInSea, Cond.code yX3_standsInSea cX3_standsInSea 2 (some .boolean), Cond.methodLink RX3 127 yX1_lay, Cond.instanceMethod yX1_lay, Cond.selects RX1 yX1_lay yX1_lay, Cond.code yX1_lay cX1_lay 4 none, Cond.methodLink RX3 137 yX1_takeLatest, Cond.instanceMethod yX1_takeLatest, Cond.selects RX1 yX1_takeLatest yX1_takeLatest, Cond.code yX1_takeLatest cX1_takeLatest 6 none, Cond.methodLink RX1 28 Lib.Math.min.name, Cond.methodLink RX1 24 yX1_unitsOf, Cond.instanceMethod yX1_unitsOf, Cond.selects RX1 yX1_unitsOf yX1_unitsOf, Cond.code yX1_unitsOf cX1_unitsOf 3 (some .int), Cond.methodLink RX1 33 yX1_lay, Cond.methodLink RX3 83 yX3_flow, Cond.instanceMethod yX3_flow, Cond.selects RX3 yX3_flow yX3_flow, Cond.code yX3_flow cX3_flow 3 none]
def wsX5_forecast_r5 : List Cond := [Cond.fieldLink RX3 44 "IceLand$Land" "passing" "[I", Cond.fieldLink RX3 41 "IceLand$Land" "gain" "[I", Cond.methodLink RX3 144 yX3_givenToNext, Cond.instanceMethod yX3_givenToNext, Cond.selects RX3 yX3_givenToNext yX3_givenToNext, Cond.code yX3_givenToNext cX3_givenToNext 3 (some .int), Cond.methodLink RX3 150 yX3_givenBy, Cond.instanceMethod yX3_givenBy, Cond.selects RX3 yX3_givenBy yX3_givenBy, Cond.code yX3_givenBy cX3_givenBy 5 (some .int), Cond.constantLong RX3 153 (200), Cond.constantLong RX3 158 (2), Cond.methodLink RX3 160 Lib.MathLoose.min_long.x, Cond.static Lib.MathLoose.min_long.x, Cond.code Lib.MathLoose.min_long.x Lib.MathLoose.min_long.code 4 (some .long), Cond.methodLink RX3 155 yJ9_floorDiv_f86c9, Cond.static yJ9_floorDiv_f86c9, Cond.code yJ9_floorDiv_f86c9 cJ9_floorDiv_f86c9 6 (some .long), Cond.methodLink RX3 147 yX1_carry, Cond.instanceMethod yX1_carry, Cond.selects RX1 yX1_carry yX1_carry, Cond.code yX1_carry cX1_carry 7 none, Cond.methodLink RX3 86 yX3_runOff, Cond.instanceMethod yX3_runOff]
def wsX5_forecast_r6 : List Cond := [Cond.selects RX3 yX3_runOff yX3_runOff, Cond.code yX3_runOff cX3_runOff 3 none, Cond.fieldLink RX3 162 "IceLand$Sums" "toSea" "I", Cond.methodLink RX3 115 yX3_potential, Cond.instanceMethod yX3_potential, Cond.selects RX3 yX3_potential yX3_potential, Cond.code yX3_potential cX3_potential 2 (some .int), Cond.methodLink RX3 89 yX3_breakOut, Cond.instanceMethod yX3_breakOut, Cond.selects RX3 yX3_breakOut yX3_breakOut, Cond.code yX3_breakOut cX3_breakOut 3 none, Cond.fieldLink RX3 47 "IceLand$Land" "burst" "[I", Cond.methodLink RX3 165 yX3_leastIceBeside, Cond.instanceMethod yX3_leastIceBeside, Cond.selects RX3 yX3_leastIceBeside yX3_leastIceBeside, Cond.code yX3_leastIceBeside cX3_leastIceBeside 4 (some .int), Cond.methodLink RX3 92 yX3_calve, Cond.instanceMethod yX3_calve, Cond.selects RX3 yX3_calve yX3_calve, Cond.code yX3_calve cX3_calve 4 none, Cond.fieldLink RX3 168 "IceLand$Sums" "bergs" "I", Cond.methodLink RX3 95 yX3_moveBed, Cond.instanceMethod yX3_moveBed, Cond.selects RX3 yX3_moveBed yX3_moveBed]
def wsX5_forecast_r7 : List Cond := [Cond.code yX3_moveBed cX3_moveBed 3 none, Cond.methodLink RX3 98 yX3_markFront, Cond.instanceMethod yX3_markFront, Cond.selects RX3 yX3_markFront yX3_markFront, Cond.code yX3_markFront cX3_markFront 2 none, Cond.fieldLink RX3 50 "IceLand$Land" "frontCell" "I", Cond.methodLink RX5 144 yX1_allIce, Cond.instanceMethod yX1_allIce, Cond.selects RX1 yX1_allIce yX1_allIce, Cond.code yX1_allIce cX1_allIce 3 (some .int), Cond.methodLink RX5 171 yX2_keep, Cond.instanceMethod yX2_keep, Cond.selects RX2 yX2_keep yX2_keep, Cond.initialized RX2, Cond.code yX2_keep cX2_keep 3 none, Cond.fieldLink RX2 18 "IceLand$Forecasts" "count" "I", Cond.fieldLink RX2 9 "IceLand$Forecasts" "meantYear" "[I", Cond.fieldLink RX2 15 "IceLand$Forecasts" "expected" "[I"]
def wsX5_forecast : List Cond := .code yX5_forecast cX5_forecast 3 (some .int) :: ((wsX5_forecast_r1 ++ (wsX5_forecast_r2 ++ (wsX5_forecast_r3 ++ (wsX5_forecast_r4 ++ (wsX5_forecast_r5 ++ (wsX5_forecast_r6 ++ wsX5_forecast_r7)))))) ++ wsX50 ++ wsX20 ++ wsX30 ++ wsX10 ++ wsX40 ++ (vx_atS RX5 58 "java/lang/IllegalStateException" ["java/lang/RuntimeException", "java/lang/Exception"]).filter goodWord ++ (vx_atS RX5 203 "java/lang/IllegalArgumentException" ["java/lang/RuntimeException", "java/lang/Exception"]).filter goodWord)
def wsX5_miss : List Cond := .code yX5_miss cX5_miss 3 (some .int) :: ([.classLink RX5 127 "java/lang/IndexOutOfBoundsException", .initialized "java/lang/IndexOutOfBoundsException", .fieldLink RX5 29 "IceLand" "forecasts" "LIceLand$Forecasts;", .fieldLink RX5 166 "IceLand$Forecasts" "count" "I", .fieldLink RX5 177 "IceLand$Forecasts" "meantYear" "[I", .fieldLink RX5 10 "IceLand" "present" "LIceLand$Land;", .fieldLink RX5 82 "IceLand$Land" "year" "I", .fieldLink RX5 180 "IceLand$Forecasts" "expected" "[I", .fieldLink RX5 22 "IceLand" "annals" "LIceLand$Annals;", .fieldLink RX5 183 "IceLand$Annals" "iceBehind" "[I", .methodLink RX5 186 Lib.Math.abs.name, .static Lib.Math.abs.name, .initialized "java/lang/Math", .code Lib.Math.abs.name Lib.Math.abs.code 1 (some .int)] ++ wsX50 ++ wsX20 ++ wsX30 ++ wsX00 ++ (vx_atS RX5 131 "java/lang/IndexOutOfBoundsException" ["java/lang/RuntimeException", "java/lang/Exception"]).filter goodWord)
def wsX6_init : List Cond := .code yX6_init cX6_init 2 none :: ([.methodLink RX6 1 objectInit, .instanceMethod objectInit, .code objectInit ⟨#[0xb1]⟩ 1 none, .arrayClass .int, .fieldLink RX6 7 "IceLandModel" "s" "[I", .fieldLink RX6 13 "IceLandModel" "kept" "[I", .arrayClass .boolean, .fieldLink RX6 16 "IceLandModel" "ash" "[Z", .fieldLink RX6 20 "IceLandModel" "when" "[I", .fieldLink RX6 23 "IceLandModel" "where" "[I", .fieldLink RX6 26 "IceLandModel" "units" "[I", .fieldLink RX6 29 "IceLandModel" "aims" "[I", .fieldLink RX6 32 "IceLandModel" "noted" "[I", .fieldLink RX6 35 "IceLandModel" "misses" "[I", .fieldLink RX6 38 "IceLandModel" "flows" "[I"] ++ wsX60)
def wsX6_thrown : List Cond := .code yX6_thrown cX6_thrown 1 (some .int) :: ([.fieldLink RX6 41 "IceLandModel" "thrown" "I"] ++ wsX60)
def wsX6_asked : List Cond := .code yX6_asked cX6_asked 2 (some .boolean) :: ([.fieldLink RX6 41 "IceLandModel" "thrown" "I"] ++ wsX60)
def wsX6_asked_ : List Cond := .code yX6_asked_ cX6_asked_ 3 (some .boolean) :: ([.fieldLink RX6 41 "IceLandModel" "thrown" "I"] ++ wsX60)
def wsX6_asked__ : List Cond := .code yX6_asked__ cX6_asked__ 4 (some .boolean) :: ([.fieldLink RX6 41 "IceLandModel" "thrown" "I"] ++ wsX60)
def wsX6_in : List Cond := .code yX6_in cX6_in 3 (some .boolean) :: ([])
def wsX6_isCell : List Cond := .code yX6_isCell cX6_isCell 1 (some .boolean) :: ([.methodLink RX6 45 yX6_in, .static yX6_in, .initialized RX6, .code yX6_in cX6_in 3 (some .boolean)])
def wsX6_iceOf : List Cond := .code yX6_iceOf cX6_iceOf 4 (some .int) :: ([.fieldLink RX6 7 "IceLandModel" "s" "[I"] ++ wsX60)
def wsX6_allIce : List Cond := .code yX6_allIce cX6_allIce 3 (some .int) :: ([.methodLink RX6 49 yX6_iceOf, .instanceMethod yX6_iceOf, .selects RX6 yX6_iceOf yX6_iceOf, .initialized RX6, .code yX6_iceOf cX6_iceOf 4 (some .int), .fieldLink RX6 7 "IceLandModel" "s" "[I"] ++ wsX60)
def wsX6_surfaceOf : List Cond := .code yX6_surfaceOf cX6_surfaceOf 2 (some .int) :: ([.fieldLink RX6 7 "IceLandModel" "s" "[I", .methodLink RX6 49 yX6_iceOf, .instanceMethod yX6_iceOf, .selects RX6 yX6_iceOf yX6_iceOf, .initialized RX6, .code yX6_iceOf cX6_iceOf 4 (some .int)] ++ wsX60)
def wsX6_isInSea : List Cond := .code yX6_isInSea cX6_isInSea 2 (some .boolean) :: ([.fieldLink RX6 7 "IceLandModel" "s" "[I", .fieldLink RX6 53 "IceLandModel" "level" "I"] ++ wsX60)
def wsX6_potentialOf : List Cond := .code yX6_potentialOf cX6_potentialOf 2 (some .int) :: ([.fieldLink RX6 7 "IceLandModel" "s" "[I", .methodLink RX6 49 yX6_iceOf, .instanceMethod yX6_iceOf, .selects RX6 yX6_iceOf yX6_iceOf, .initialized RX6, .code yX6_iceOf cX6_iceOf 4 (some .int)] ++ wsX60)
def wsX6_land : List Cond := .code yX6_land cX6_land 5 (some .int) :: ([.fieldLink RX6 7 "IceLandModel" "s" "[I", .methodLink RX6 56 yX6_isCell, .static yX6_isCell, .initialized RX6, .code yX6_isCell cX6_isCell 1 (some .boolean), .methodLink RX6 45 yX6_in, .static yX6_in, .code yX6_in cX6_in 3 (some .boolean), .methodLink RX6 49 yX6_iceOf, .instanceMethod yX6_iceOf, .selects RX6 yX6_iceOf yX6_iceOf, .code yX6_iceOf cX6_iceOf 4 (some .int), .methodLink RX6 60 yX6_asked__, .instanceMethod yX6_asked__, .selects RX6 yX6_asked__ yX6_asked__, .code yX6_asked__ cX6_asked__ 4 (some .boolean), .fieldLink RX6 41 "IceLandModel" "thrown" "I"] ++ wsX60)
def wsX6_sea : List Cond := .code yX6_sea cX6_sea 3 (some .int) :: ([.fieldLink RX6 53 "IceLandModel" "level" "I", .methodLink RX6 45 yX6_in, .static yX6_in, .initialized RX6, .code yX6_in cX6_in 3 (some .boolean), .methodLink RX6 64 yX6_asked, .instanceMethod yX6_asked, .selects RX6 yX6_asked yX6_asked, .code yX6_asked cX6_asked 2 (some .boolean), .fieldLink RX6 41 "IceLandModel" "thrown" "I"] ++ wsX60)
def wsX6_climate : List Cond := .code yX6_climate cX6_climate 4 none :: ([.fieldLink RX6 67 "IceLandModel" "warmth" "I", .fieldLink RX6 70 "IceLandModel" "snow" "I", .fieldLink RX6 73 "IceLandModel" "factor" "I", .methodLink RX6 45 yX6_in, .static yX6_in, .initialized RX6, .code yX6_in cX6_in 3 (some .boolean), .methodLink RX6 64 yX6_asked, .instanceMethod yX6_asked, .selects RX6 yX6_asked yX6_asked, .code yX6_asked cX6_asked 2 (some .boolean), .fieldLink RX6 41 "IceLandModel" "thrown" "I"] ++ wsX60)
def wsX6_ice : List Cond := .code yX6_ice cX6_ice 5 (some .int) :: ([.fieldLink RX6 7 "IceLandModel" "s" "[I", .methodLink RX6 56 yX6_isCell, .static yX6_isCell, .initialized RX6, .code yX6_isCell cX6_isCell 1 (some .boolean), .methodLink RX6 45 yX6_in, .static yX6_in, .code yX6_in cX6_in 3 (some .boolean), .methodLink RX6 49 yX6_iceOf, .instanceMethod yX6_iceOf, .selects RX6 yX6_iceOf yX6_iceOf, .code yX6_iceOf cX6_iceOf 4 (some .int), .methodLink RX6 60 yX6_asked__, .instanceMethod yX6_asked__, .selects RX6 yX6_asked__ yX6_asked__, .code yX6_asked__ cX6_asked__ 4 (some .boolean), .fieldLink RX6 41 "IceLandModel" "thrown" "I"] ++ wsX60)
def wsX6_ash : List Cond := .code yX6_ash cX6_ash 2 (some .boolean) :: ([.fieldLink RX6 41 "IceLandModel" "thrown" "I", .fieldLink RX6 16 "IceLandModel" "ash" "[Z", .fieldLink RX6 7 "IceLandModel" "s" "[I"] ++ wsX60)
def wsX6_snows : List Cond := .code yX6_snows cX6_snows 8 none :: ([.fieldLink RX6 67 "IceLandModel" "warmth" "I", .fieldLink RX6 7 "IceLandModel" "s" "[I", .fieldLink RX6 70 "IceLandModel" "snow" "I", .fieldLink RX6 73 "IceLandModel" "factor" "I", .methodLink RX6 49 yX6_iceOf, .instanceMethod yX6_iceOf, .selects RX6 yX6_iceOf yX6_iceOf, .initialized RX6, .code yX6_iceOf cX6_iceOf 4 (some .int), .methodLink RX6 76 yX6_surfaceOf, .instanceMethod yX6_surfaceOf, .selects RX6 yX6_surfaceOf yX6_surfaceOf, .code yX6_surfaceOf cX6_surfaceOf 2 (some .int), .methodLink RX6 79 yX6_isInSea, .instanceMethod yX6_isInSea, .selects RX6 yX6_isInSea yX6_isInSea, .code yX6_isInSea cX6_isInSea 2 (some .boolean), .fieldLink RX6 53 "IceLandModel" "level" "I"] ++ wsX60)
def wsX6_flowOf : List Cond := .code yX6_flowOf cX6_flowOf 6 (some .int) :: ([.constantLong RX6 82 (200), .fieldLink RX6 7 "IceLandModel" "s" "[I", .constantLong RX6 84 (2), .methodLink RX6 49 yX6_iceOf, .instanceMethod yX6_iceOf, .selects RX6 yX6_iceOf yX6_iceOf, .initialized RX6, .code yX6_iceOf cX6_iceOf 4 (some .int), .methodLink RX6 76 yX6_surfaceOf, .instanceMethod yX6_surfaceOf, .selects RX6 yX6_surfaceOf yX6_surfaceOf, .code yX6_surfaceOf cX6_surfaceOf 2 (some .int)] ++ wsX60)
def wsX6_flows : List Cond := .code yX6_flows cX6_flows 7 none :: ([.fieldLink RX6 7 "IceLandModel" "s" "[I", .fieldLink RX6 38 "IceLandModel" "flows" "[I", .methodLink RX6 76 yX6_surfaceOf, .instanceMethod yX6_surfaceOf, .selects RX6 yX6_surfaceOf yX6_surfaceOf, .initialized RX6, .code yX6_surfaceOf cX6_surfaceOf 2 (some .int), .methodLink RX6 49 yX6_iceOf, .instanceMethod yX6_iceOf, .selects RX6 yX6_iceOf yX6_iceOf, .code yX6_iceOf cX6_iceOf 4 (some .int), .methodLink RX6 86 yX6_flowOf, .instanceMethod yX6_flowOf, .selects RX6 yX6_flowOf yX6_flowOf, .code yX6_flowOf cX6_flowOf 6 (some .int), .constantLong RX6 82 (200), .constantLong RX6 84 (2)] ++ wsX60)
def wsX6_runs : List Cond := .code yX6_runs cX6_runs 5 none :: ([.fieldLink RX6 7 "IceLandModel" "s" "[I", .methodLink RX6 79 yX6_isInSea, .instanceMethod yX6_isInSea, .selects RX6 yX6_isInSea yX6_isInSea, .initialized RX6, .code yX6_isInSea cX6_isInSea 2 (some .boolean), .fieldLink RX6 53 "IceLandModel" "level" "I", .methodLink RX6 90 yX6_potentialOf, .instanceMethod yX6_potentialOf, .selects RX6 yX6_potentialOf yX6_potentialOf, .code yX6_potentialOf cX6_potentialOf 2 (some .int), .methodLink RX6 49 yX6_iceOf, .instanceMethod yX6_iceOf, .selects RX6 yX6_iceOf yX6_iceOf, .code yX6_iceOf cX6_iceOf 4 (some .int)] ++ wsX60)
def wsX6_least : List Cond := .code yX6_least cX6_least 4 (some .int) :: ([.methodLink RX6 49 yX6_iceOf, .instanceMethod yX6_iceOf, .selects RX6 yX6_iceOf yX6_iceOf, .initialized RX6, .code yX6_iceOf cX6_iceOf 4 (some .int), .fieldLink RX6 7 "IceLandModel" "s" "[I"] ++ wsX60)
def wsX6_breaks : List Cond := .code yX6_breaks cX6_breaks 4 none :: ([.fieldLink RX6 7 "IceLandModel" "s" "[I", .fieldLink RX6 20 "IceLandModel" "when" "[I", .fieldLink RX6 23 "IceLandModel" "where" "[I", .fieldLink RX6 26 "IceLandModel" "units" "[I", .methodLink RX6 93 yX6_least, .instanceMethod yX6_least, .selects RX6 yX6_least yX6_least, .initialized RX6, .code yX6_least cX6_least 4 (some .int), .methodLink RX6 49 yX6_iceOf, .instanceMethod yX6_iceOf, .selects RX6 yX6_iceOf yX6_iceOf, .code yX6_iceOf cX6_iceOf 4 (some .int)] ++ wsX60)
def wsX6_calves : List Cond := .code yX6_calves cX6_calves 5 none :: ([.fieldLink RX6 53 "IceLandModel" "level" "I", .fieldLink RX6 7 "IceLandModel" "s" "[I", .methodLink RX6 49 yX6_iceOf, .instanceMethod yX6_iceOf, .selects RX6 yX6_iceOf yX6_iceOf, .initialized RX6, .code yX6_iceOf cX6_iceOf 4 (some .int), .methodLink RX6 79 yX6_isInSea, .instanceMethod yX6_isInSea, .selects RX6 yX6_isInSea yX6_isInSea, .code yX6_isInSea cX6_isInSea 2 (some .boolean)] ++ wsX60)
def wsX6_ends : List Cond := .code yX6_ends cX6_ends 5 none :: ([.fieldLink RX6 7 "IceLandModel" "s" "[I", .methodLink RX6 49 yX6_iceOf, .instanceMethod yX6_iceOf, .selects RX6 yX6_iceOf yX6_iceOf, .initialized RX6, .code yX6_iceOf cX6_iceOf 4 (some .int)] ++ wsX60)
def wsX6_passes_r1 : List Cond := [Cond.fieldLink RX6 7 "IceLandModel" "s" "[I", Cond.methodLink RX6 96 yX6_snows, Cond.instanceMethod yX6_snows, Cond.selects RX6 yX6_snows yX6_snows, Cond.initialized RX6, Cond.code yX6_snows cX6_snows 8 none, Cond.fieldLink RX6 67 "IceLandModel" "warmth" "I", Cond.fieldLink RX6 70 "IceLandModel" "snow" "I", Cond.fieldLink RX6 73 "IceLandModel" "factor" "I", Cond.methodLink RX6 49 yX6_iceOf, Cond.instanceMethod yX6_iceOf, Cond.selects RX6 yX6_iceOf yX6_iceOf, Cond.code yX6_iceOf cX6_iceOf 4 (some .int), Cond.methodLink RX6 76 yX6_surfaceOf, Cond.instanceMethod yX6_surfaceOf, Cond.selects RX6 yX6_surfaceOf yX6_surfaceOf, Cond.code yX6_surfaceOf cX6_surfaceOf 2 (some .int), Cond.methodLink RX6 79 yX6_isInSea, Cond.instanceMethod yX6_isInSea, Cond.selects RX6 yX6_isInSea yX6_isInSea, Cond.code yX6_isInSea cX6_isInSea 2 (some .boolean), Cond.fieldLink RX6 53 "IceLandModel" "level" "I", Cond.methodLink RX6 99 yX6_flows, Cond.instanceMethod yX6_flows]
def wsX6_passes_r2 : List Cond := [Cond.selects RX6 yX6_flows yX6_flows, Cond.code yX6_flows cX6_flows 7 none, Cond.fieldLink RX6 38 "IceLandModel" "flows" "[I", Cond.methodLink RX6 86 yX6_flowOf, Cond.instanceMethod yX6_flowOf, Cond.selects RX6 yX6_flowOf yX6_flowOf, Cond.code yX6_flowOf cX6_flowOf 6 (some .int), Cond.constantLong RX6 82 (200), Cond.constantLong RX6 84 (2), Cond.methodLink RX6 101 yX6_runs, Cond.instanceMethod yX6_runs, Cond.selects RX6 yX6_runs yX6_runs, Cond.code yX6_runs cX6_runs 5 none, Cond.methodLink RX6 90 yX6_potentialOf, Cond.instanceMethod yX6_potentialOf, Cond.selects RX6 yX6_potentialOf yX6_potentialOf, Cond.code yX6_potentialOf cX6_potentialOf 2 (some .int), Cond.methodLink RX6 104 yX6_breaks, Cond.instanceMethod yX6_breaks, Cond.selects RX6 yX6_breaks yX6_breaks, Cond.code yX6_breaks cX6_breaks 4 none, Cond.fieldLink RX6 20 "IceLandModel" "when" "[I", Cond.fieldLink RX6 23 "IceLandModel" "where" "[I", Cond.fieldLink RX6 26 "IceLandModel" "units" "[I"]
def wsX6_passes_r3 : List Cond := [Cond.methodLink RX6 93 yX6_least, Cond.instanceMethod yX6_least, Cond.selects RX6 yX6_least yX6_least, Cond.code yX6_least cX6_least 4 (some .int), Cond.methodLink RX6 107 yX6_calves, Cond.instanceMethod yX6_calves, Cond.selects RX6 yX6_calves yX6_calves, Cond.code yX6_calves cX6_calves 5 none, Cond.methodLink RX6 110 yX6_ends, Cond.instanceMethod yX6_ends, Cond.selects RX6 yX6_ends yX6_ends, Cond.code yX6_ends cX6_ends 5 none]
def wsX6_passes : List Cond := .code yX6_passes cX6_passes 3 none :: ((wsX6_passes_r1 ++ (wsX6_passes_r2 ++ wsX6_passes_r3)) ++ wsX60)
def wsX6_pass_r1 : List Cond := [Cond.fieldLink RX6 7 "IceLandModel" "s" "[I", Cond.fieldLink RX6 120 "IceLandModel" "forecasts" "I", Cond.fieldLink RX6 32 "IceLandModel" "noted" "[I", Cond.fieldLink RX6 35 "IceLandModel" "misses" "[I", Cond.fieldLink RX6 29 "IceLandModel" "aims" "[I", Cond.methodLink RX6 45 yX6_in, Cond.static yX6_in, Cond.initialized RX6, Cond.code yX6_in cX6_in 3 (some .boolean), Cond.methodLink RX6 113 yX6_asked_, Cond.instanceMethod yX6_asked_, Cond.selects RX6 yX6_asked_ yX6_asked_, Cond.code yX6_asked_ cX6_asked_ 3 (some .boolean), Cond.fieldLink RX6 41 "IceLandModel" "thrown" "I", Cond.methodLink RX6 116 yX6_passes, Cond.instanceMethod yX6_passes, Cond.selects RX6 yX6_passes yX6_passes, Cond.code yX6_passes cX6_passes 3 none, Cond.methodLink RX6 96 yX6_snows, Cond.instanceMethod yX6_snows, Cond.selects RX6 yX6_snows yX6_snows, Cond.code yX6_snows cX6_snows 8 none, Cond.fieldLink RX6 67 "IceLandModel" "warmth" "I", Cond.fieldLink RX6 70 "IceLandModel" "snow" "I"]
def wsX6_pass_r2 : List Cond := [Cond.fieldLink RX6 73 "IceLandModel" "factor" "I", Cond.methodLink RX6 49 yX6_iceOf, Cond.instanceMethod yX6_iceOf, Cond.selects RX6 yX6_iceOf yX6_iceOf, Cond.code yX6_iceOf cX6_iceOf 4 (some .int), Cond.methodLink RX6 76 yX6_surfaceOf, Cond.instanceMethod yX6_surfaceOf, Cond.selects RX6 yX6_surfaceOf yX6_surfaceOf, Cond.code yX6_surfaceOf cX6_surfaceOf 2 (some .int), Cond.methodLink RX6 79 yX6_isInSea, Cond.instanceMethod yX6_isInSea, Cond.selects RX6 yX6_isInSea yX6_isInSea, Cond.code yX6_isInSea cX6_isInSea 2 (some .boolean), Cond.fieldLink RX6 53 "IceLandModel" "level" "I", Cond.methodLink RX6 99 yX6_flows, Cond.instanceMethod yX6_flows, Cond.selects RX6 yX6_flows yX6_flows, Cond.code yX6_flows cX6_flows 7 none, Cond.fieldLink RX6 38 "IceLandModel" "flows" "[I", Cond.methodLink RX6 86 yX6_flowOf, Cond.instanceMethod yX6_flowOf, Cond.selects RX6 yX6_flowOf yX6_flowOf, Cond.code yX6_flowOf cX6_flowOf 6 (some .int), Cond.constantLong RX6 82 (200)]
def wsX6_pass_r3 : List Cond := [Cond.constantLong RX6 84 (2), Cond.methodLink RX6 101 yX6_runs, Cond.instanceMethod yX6_runs, Cond.selects RX6 yX6_runs yX6_runs, Cond.code yX6_runs cX6_runs 5 none, Cond.methodLink RX6 90 yX6_potentialOf, Cond.instanceMethod yX6_potentialOf, Cond.selects RX6 yX6_potentialOf yX6_potentialOf, Cond.code yX6_potentialOf cX6_potentialOf 2 (some .int), Cond.methodLink RX6 104 yX6_breaks, Cond.instanceMethod yX6_breaks, Cond.selects RX6 yX6_breaks yX6_breaks, Cond.code yX6_breaks cX6_breaks 4 none, Cond.fieldLink RX6 20 "IceLandModel" "when" "[I", Cond.fieldLink RX6 23 "IceLandModel" "where" "[I", Cond.fieldLink RX6 26 "IceLandModel" "units" "[I", Cond.methodLink RX6 93 yX6_least, Cond.instanceMethod yX6_least, Cond.selects RX6 yX6_least yX6_least, Cond.code yX6_least cX6_least 4 (some .int), Cond.methodLink RX6 107 yX6_calves, Cond.instanceMethod yX6_calves, Cond.selects RX6 yX6_calves yX6_calves, Cond.code yX6_calves cX6_calves 5 none]
def wsX6_pass_r4 : List Cond := [Cond.methodLink RX6 110 yX6_ends, Cond.instanceMethod yX6_ends, Cond.selects RX6 yX6_ends yX6_ends, Cond.code yX6_ends cX6_ends 5 none, Cond.methodLink RX6 123 yX6_allIce, Cond.instanceMethod yX6_allIce, Cond.selects RX6 yX6_allIce yX6_allIce, Cond.code yX6_allIce cX6_allIce 3 (some .int)]
def wsX6_pass : List Cond := .code yX6_pass cX6_pass 6 (some .int) :: ((wsX6_pass_r1 ++ (wsX6_pass_r2 ++ (wsX6_pass_r3 ++ wsX6_pass_r4))) ++ wsX60)
def wsX6_tells : List Cond := .code yX6_tells cX6_tells 5 (some .int) :: ([.fieldLink RX6 7 "IceLandModel" "s" "[I", .methodLink RX6 49 yX6_iceOf, .instanceMethod yX6_iceOf, .selects RX6 yX6_iceOf yX6_iceOf, .initialized RX6, .code yX6_iceOf cX6_iceOf 4 (some .int), .methodLink RX6 76 yX6_surfaceOf, .instanceMethod yX6_surfaceOf, .selects RX6 yX6_surfaceOf yX6_surfaceOf, .code yX6_surfaceOf cX6_surfaceOf 2 (some .int), .methodLink RX6 79 yX6_isInSea, .instanceMethod yX6_isInSea, .selects RX6 yX6_isInSea yX6_isInSea, .code yX6_isInSea cX6_isInSea 2 (some .boolean), .fieldLink RX6 53 "IceLandModel" "level" "I", .methodLink RX6 90 yX6_potentialOf, .instanceMethod yX6_potentialOf, .selects RX6 yX6_potentialOf yX6_potentialOf, .code yX6_potentialOf cX6_potentialOf 2 (some .int)] ++ wsX60)
def wsX6_cellIs_r1 : List Cond := [Cond.methodLink RX6 56 yX6_isCell, Cond.static yX6_isCell, Cond.initialized RX6, Cond.code yX6_isCell cX6_isCell 1 (some .boolean), Cond.methodLink RX6 45 yX6_in, Cond.static yX6_in, Cond.code yX6_in cX6_in 3 (some .boolean), Cond.methodLink RX6 113 yX6_asked_, Cond.instanceMethod yX6_asked_, Cond.selects RX6 yX6_asked_ yX6_asked_, Cond.code yX6_asked_ cX6_asked_ 3 (some .boolean), Cond.fieldLink RX6 41 "IceLandModel" "thrown" "I", Cond.methodLink RX6 127 yX6_tells, Cond.instanceMethod yX6_tells, Cond.selects RX6 yX6_tells yX6_tells, Cond.code yX6_tells cX6_tells 5 (some .int), Cond.fieldLink RX6 7 "IceLandModel" "s" "[I", Cond.methodLink RX6 49 yX6_iceOf, Cond.instanceMethod yX6_iceOf, Cond.selects RX6 yX6_iceOf yX6_iceOf, Cond.code yX6_iceOf cX6_iceOf 4 (some .int), Cond.methodLink RX6 76 yX6_surfaceOf, Cond.instanceMethod yX6_surfaceOf, Cond.selects RX6 yX6_surfaceOf yX6_surfaceOf]
def wsX6_cellIs_r2 : List Cond := [Cond.code yX6_surfaceOf cX6_surfaceOf 2 (some .int), Cond.methodLink RX6 79 yX6_isInSea, Cond.instanceMethod yX6_isInSea, Cond.selects RX6 yX6_isInSea yX6_isInSea, Cond.code yX6_isInSea cX6_isInSea 2 (some .boolean), Cond.fieldLink RX6 53 "IceLandModel" "level" "I", Cond.methodLink RX6 90 yX6_potentialOf, Cond.instanceMethod yX6_potentialOf, Cond.selects RX6 yX6_potentialOf yX6_potentialOf, Cond.code yX6_potentialOf cX6_potentialOf 2 (some .int)]
def wsX6_cellIs : List Cond := .code yX6_cellIs cX6_cellIs 3 (some .int) :: ((wsX6_cellIs_r1 ++ wsX6_cellIs_r2) ++ wsX60)
def wsX6_layer : List Cond := .code yX6_layer cX6_layer 3 (some .int) :: ([.fieldLink RX6 7 "IceLandModel" "s" "[I", .methodLink RX6 56 yX6_isCell, .static yX6_isCell, .initialized RX6, .code yX6_isCell cX6_isCell 1 (some .boolean), .methodLink RX6 45 yX6_in, .static yX6_in, .code yX6_in cX6_in 3 (some .boolean), .methodLink RX6 113 yX6_asked_, .instanceMethod yX6_asked_, .selects RX6 yX6_asked_ yX6_asked_, .code yX6_asked_ cX6_asked_ 3 (some .boolean), .fieldLink RX6 41 "IceLandModel" "thrown" "I"] ++ wsX60)
def wsX6_yearAt : List Cond := .code yX6_yearAt cX6_yearAt 5 (some .int) :: ([.fieldLink RX6 7 "IceLandModel" "s" "[I", .methodLink RX6 56 yX6_isCell, .static yX6_isCell, .initialized RX6, .code yX6_isCell cX6_isCell 1 (some .boolean), .methodLink RX6 45 yX6_in, .static yX6_in, .code yX6_in cX6_in 3 (some .boolean), .methodLink RX6 113 yX6_asked_, .instanceMethod yX6_asked_, .selects RX6 yX6_asked_ yX6_asked_, .code yX6_asked_ cX6_asked_ 3 (some .boolean), .fieldLink RX6 41 "IceLandModel" "thrown" "I"] ++ wsX60)
def wsX6_common : List Cond := .code yX6_common cX6_common 5 (some .int) :: ([.fieldLink RX6 16 "IceLandModel" "ash" "[Z", .fieldLink RX6 7 "IceLandModel" "s" "[I", .methodLink RX6 56 yX6_isCell, .static yX6_isCell, .initialized RX6, .code yX6_isCell cX6_isCell 1 (some .boolean), .methodLink RX6 45 yX6_in, .static yX6_in, .code yX6_in cX6_in 3 (some .boolean), .methodLink RX6 64 yX6_asked, .instanceMethod yX6_asked, .selects RX6 yX6_asked yX6_asked, .code yX6_asked cX6_asked 2 (some .boolean), .fieldLink RX6 41 "IceLandModel" "thrown" "I"] ++ wsX60)
def wsX6_floods : List Cond := .code yX6_floods cX6_floods 1 (some .int) :: ([.fieldLink RX6 41 "IceLandModel" "thrown" "I", .fieldLink RX6 7 "IceLandModel" "s" "[I"] ++ wsX60)
def wsX6_flood : List Cond := .code yX6_flood cX6_flood 3 (some .int) :: ([.fieldLink RX6 7 "IceLandModel" "s" "[I", .fieldLink RX6 20 "IceLandModel" "when" "[I", .fieldLink RX6 23 "IceLandModel" "where" "[I", .fieldLink RX6 26 "IceLandModel" "units" "[I", .methodLink RX6 45 yX6_in, .static yX6_in, .initialized RX6, .code yX6_in cX6_in 3 (some .boolean), .methodLink RX6 113 yX6_asked_, .instanceMethod yX6_asked_, .selects RX6 yX6_asked_ yX6_asked_, .code yX6_asked_ cX6_asked_ 3 (some .boolean), .fieldLink RX6 41 "IceLandModel" "thrown" "I"] ++ wsX60)
def wsX6_front : List Cond := .code yX6_front cX6_front 2 (some .int) :: ([.fieldLink RX6 7 "IceLandModel" "s" "[I", .methodLink RX6 45 yX6_in, .static yX6_in, .initialized RX6, .code yX6_in cX6_in 3 (some .boolean), .methodLink RX6 64 yX6_asked, .instanceMethod yX6_asked, .selects RX6 yX6_asked yX6_asked, .code yX6_asked cX6_asked 2 (some .boolean), .fieldLink RX6 41 "IceLandModel" "thrown" "I"] ++ wsX60)
def wsX6_total : List Cond := .code yX6_total cX6_total 4 (some .int) :: ([.fieldLink RX6 7 "IceLandModel" "s" "[I", .methodLink RX6 45 yX6_in, .static yX6_in, .initialized RX6, .code yX6_in cX6_in 3 (some .boolean), .methodLink RX6 64 yX6_asked, .instanceMethod yX6_asked, .selects RX6 yX6_asked yX6_asked, .code yX6_asked cX6_asked 2 (some .boolean), .fieldLink RX6 41 "IceLandModel" "thrown" "I", .methodLink RX6 123 yX6_allIce, .instanceMethod yX6_allIce, .selects RX6 yX6_allIce yX6_allIce, .code yX6_allIce cX6_allIce 3 (some .int), .methodLink RX6 49 yX6_iceOf, .instanceMethod yX6_iceOf, .selects RX6 yX6_iceOf yX6_iceOf, .code yX6_iceOf cX6_iceOf 4 (some .int)] ++ wsX60)
def wsX6_iceAnew : List Cond := .code yX6_iceAnew cX6_iceAnew 1 (some .int) :: ([.fieldLink RX6 41 "IceLandModel" "thrown" "I", .fieldLink RX6 7 "IceLandModel" "s" "[I"] ++ wsX60)
def wsX6_keeps : List Cond := .code yX6_keeps cX6_keeps 4 none :: ([.fieldLink RX6 7 "IceLandModel" "s" "[I", .fieldLink RX6 13 "IceLandModel" "kept" "[I"] ++ wsX60)
def wsX6_would_r1 : List Cond := [Cond.fieldLink RX6 7 "IceLandModel" "s" "[I", Cond.methodLink RX6 45 yX6_in, Cond.static yX6_in, Cond.initialized RX6, Cond.code yX6_in cX6_in 3 (some .boolean), Cond.methodLink RX6 56 yX6_isCell, Cond.static yX6_isCell, Cond.code yX6_isCell cX6_isCell 1 (some .boolean), Cond.methodLink RX6 60 yX6_asked__, Cond.instanceMethod yX6_asked__, Cond.selects RX6 yX6_asked__ yX6_asked__, Cond.code yX6_asked__ cX6_asked__ 4 (some .boolean), Cond.fieldLink RX6 41 "IceLandModel" "thrown" "I", Cond.methodLink RX6 130 yX6_keeps, Cond.instanceMethod yX6_keeps, Cond.selects RX6 yX6_keeps yX6_keeps, Cond.code yX6_keeps cX6_keeps 4 none, Cond.fieldLink RX6 13 "IceLandModel" "kept" "[I", Cond.methodLink RX6 116 yX6_passes, Cond.instanceMethod yX6_passes, Cond.selects RX6 yX6_passes yX6_passes, Cond.code yX6_passes cX6_passes 3 none, Cond.methodLink RX6 96 yX6_snows, Cond.instanceMethod yX6_snows]
def wsX6_would_r2 : List Cond := [Cond.selects RX6 yX6_snows yX6_snows, Cond.code yX6_snows cX6_snows 8 none, Cond.fieldLink RX6 67 "IceLandModel" "warmth" "I", Cond.fieldLink RX6 70 "IceLandModel" "snow" "I", Cond.fieldLink RX6 73 "IceLandModel" "factor" "I", Cond.methodLink RX6 49 yX6_iceOf, Cond.instanceMethod yX6_iceOf, Cond.selects RX6 yX6_iceOf yX6_iceOf, Cond.code yX6_iceOf cX6_iceOf 4 (some .int), Cond.methodLink RX6 76 yX6_surfaceOf, Cond.instanceMethod yX6_surfaceOf, Cond.selects RX6 yX6_surfaceOf yX6_surfaceOf, Cond.code yX6_surfaceOf cX6_surfaceOf 2 (some .int), Cond.methodLink RX6 79 yX6_isInSea, Cond.instanceMethod yX6_isInSea, Cond.selects RX6 yX6_isInSea yX6_isInSea, Cond.code yX6_isInSea cX6_isInSea 2 (some .boolean), Cond.fieldLink RX6 53 "IceLandModel" "level" "I", Cond.methodLink RX6 99 yX6_flows, Cond.instanceMethod yX6_flows, Cond.selects RX6 yX6_flows yX6_flows, Cond.code yX6_flows cX6_flows 7 none, Cond.fieldLink RX6 38 "IceLandModel" "flows" "[I", Cond.methodLink RX6 86 yX6_flowOf]
def wsX6_would_r3 : List Cond := [Cond.instanceMethod yX6_flowOf, Cond.selects RX6 yX6_flowOf yX6_flowOf, Cond.code yX6_flowOf cX6_flowOf 6 (some .int), Cond.constantLong RX6 82 (200), Cond.constantLong RX6 84 (2), Cond.methodLink RX6 101 yX6_runs, Cond.instanceMethod yX6_runs, Cond.selects RX6 yX6_runs yX6_runs, Cond.code yX6_runs cX6_runs 5 none, Cond.methodLink RX6 90 yX6_potentialOf, Cond.instanceMethod yX6_potentialOf, Cond.selects RX6 yX6_potentialOf yX6_potentialOf, Cond.code yX6_potentialOf cX6_potentialOf 2 (some .int), Cond.methodLink RX6 104 yX6_breaks, Cond.instanceMethod yX6_breaks, Cond.selects RX6 yX6_breaks yX6_breaks, Cond.code yX6_breaks cX6_breaks 4 none, Cond.fieldLink RX6 20 "IceLandModel" "when" "[I", Cond.fieldLink RX6 23 "IceLandModel" "where" "[I", Cond.fieldLink RX6 26 "IceLandModel" "units" "[I", Cond.methodLink RX6 93 yX6_least, Cond.instanceMethod yX6_least, Cond.selects RX6 yX6_least yX6_least, Cond.code yX6_least cX6_least 4 (some .int)]
def wsX6_would_r4 : List Cond := [Cond.methodLink RX6 107 yX6_calves, Cond.instanceMethod yX6_calves, Cond.selects RX6 yX6_calves yX6_calves, Cond.code yX6_calves cX6_calves 5 none, Cond.methodLink RX6 110 yX6_ends, Cond.instanceMethod yX6_ends, Cond.selects RX6 yX6_ends yX6_ends, Cond.code yX6_ends cX6_ends 5 none, Cond.methodLink RX6 127 yX6_tells, Cond.instanceMethod yX6_tells, Cond.selects RX6 yX6_tells yX6_tells, Cond.code yX6_tells cX6_tells 5 (some .int)]
def wsX6_would : List Cond := .code yX6_would cX6_would 6 (some .int) :: ((wsX6_would_r1 ++ (wsX6_would_r2 ++ (wsX6_would_r3 ++ wsX6_would_r4))) ++ wsX60)
def wsX6_forecast_r1 : List Cond := [Cond.fieldLink RX6 7 "IceLandModel" "s" "[I", Cond.fieldLink RX6 120 "IceLandModel" "forecasts" "I", Cond.fieldLink RX6 29 "IceLandModel" "aims" "[I", Cond.fieldLink RX6 32 "IceLandModel" "noted" "[I", Cond.fieldLink RX6 35 "IceLandModel" "misses" "[I", Cond.methodLink RX6 45 yX6_in, Cond.static yX6_in, Cond.initialized RX6, Cond.code yX6_in cX6_in 3 (some .boolean), Cond.methodLink RX6 113 yX6_asked_, Cond.instanceMethod yX6_asked_, Cond.selects RX6 yX6_asked_ yX6_asked_, Cond.code yX6_asked_ cX6_asked_ 3 (some .boolean), Cond.fieldLink RX6 41 "IceLandModel" "thrown" "I", Cond.methodLink RX6 130 yX6_keeps, Cond.instanceMethod yX6_keeps, Cond.selects RX6 yX6_keeps yX6_keeps, Cond.code yX6_keeps cX6_keeps 4 none, Cond.fieldLink RX6 13 "IceLandModel" "kept" "[I", Cond.methodLink RX6 116 yX6_passes, Cond.instanceMethod yX6_passes, Cond.selects RX6 yX6_passes yX6_passes, Cond.code yX6_passes cX6_passes 3 none, Cond.methodLink RX6 96 yX6_snows]
def wsX6_forecast_r2 : List Cond := [Cond.instanceMethod yX6_snows, Cond.selects RX6 yX6_snows yX6_snows, Cond.code yX6_snows cX6_snows 8 none, Cond.fieldLink RX6 67 "IceLandModel" "warmth" "I", Cond.fieldLink RX6 70 "IceLandModel" "snow" "I", Cond.fieldLink RX6 73 "IceLandModel" "factor" "I", Cond.methodLink RX6 49 yX6_iceOf, Cond.instanceMethod yX6_iceOf, Cond.selects RX6 yX6_iceOf yX6_iceOf, Cond.code yX6_iceOf cX6_iceOf 4 (some .int), Cond.methodLink RX6 76 yX6_surfaceOf, Cond.instanceMethod yX6_surfaceOf, Cond.selects RX6 yX6_surfaceOf yX6_surfaceOf, Cond.code yX6_surfaceOf cX6_surfaceOf 2 (some .int), Cond.methodLink RX6 79 yX6_isInSea, Cond.instanceMethod yX6_isInSea, Cond.selects RX6 yX6_isInSea yX6_isInSea, Cond.code yX6_isInSea cX6_isInSea 2 (some .boolean), Cond.fieldLink RX6 53 "IceLandModel" "level" "I", Cond.methodLink RX6 99 yX6_flows, Cond.instanceMethod yX6_flows, Cond.selects RX6 yX6_flows yX6_flows, Cond.code yX6_flows cX6_flows 7 none, Cond.fieldLink RX6 38 "IceLandModel" "flows" "[I"]
def wsX6_forecast_r3 : List Cond := [Cond.methodLink RX6 86 yX6_flowOf, Cond.instanceMethod yX6_flowOf, Cond.selects RX6 yX6_flowOf yX6_flowOf, Cond.code yX6_flowOf cX6_flowOf 6 (some .int), Cond.constantLong RX6 82 (200), Cond.constantLong RX6 84 (2), Cond.methodLink RX6 101 yX6_runs, Cond.instanceMethod yX6_runs, Cond.selects RX6 yX6_runs yX6_runs, Cond.code yX6_runs cX6_runs 5 none, Cond.methodLink RX6 90 yX6_potentialOf, Cond.instanceMethod yX6_potentialOf, Cond.selects RX6 yX6_potentialOf yX6_potentialOf, Cond.code yX6_potentialOf cX6_potentialOf 2 (some .int), Cond.methodLink RX6 104 yX6_breaks, Cond.instanceMethod yX6_breaks, Cond.selects RX6 yX6_breaks yX6_breaks, Cond.code yX6_breaks cX6_breaks 4 none, Cond.fieldLink RX6 20 "IceLandModel" "when" "[I", Cond.fieldLink RX6 23 "IceLandModel" "where" "[I", Cond.fieldLink RX6 26 "IceLandModel" "units" "[I", Cond.methodLink RX6 93 yX6_least, Cond.instanceMethod yX6_least, Cond.selects RX6 yX6_least yX6_least]
def wsX6_forecast_r4 : List Cond := [Cond.code yX6_least cX6_least 4 (some .int), Cond.methodLink RX6 107 yX6_calves, Cond.instanceMethod yX6_calves, Cond.selects RX6 yX6_calves yX6_calves, Cond.code yX6_calves cX6_calves 5 none, Cond.methodLink RX6 110 yX6_ends, Cond.instanceMethod yX6_ends, Cond.selects RX6 yX6_ends yX6_ends, Cond.code yX6_ends cX6_ends 5 none, Cond.methodLink RX6 123 yX6_allIce, Cond.instanceMethod yX6_allIce, Cond.selects RX6 yX6_allIce yX6_allIce, Cond.code yX6_allIce cX6_allIce 3 (some .int)]
def wsX6_forecast : List Cond := .code yX6_forecast cX6_forecast 3 (some .int) :: ((wsX6_forecast_r1 ++ (wsX6_forecast_r2 ++ (wsX6_forecast_r3 ++ wsX6_forecast_r4))) ++ wsX60)
def wsX6_miss : List Cond := .code yX6_miss cX6_miss 2 (some .int) :: ([.fieldLink RX6 120 "IceLandModel" "forecasts" "I", .fieldLink RX6 35 "IceLandModel" "misses" "[I", .methodLink RX6 45 yX6_in, .static yX6_in, .initialized RX6, .code yX6_in cX6_in 3 (some .boolean), .methodLink RX6 64 yX6_asked, .instanceMethod yX6_asked, .selects RX6 yX6_asked yX6_asked, .code yX6_asked cX6_asked 2 (some .boolean), .fieldLink RX6 41 "IceLandModel" "thrown" "I"] ++ wsX60)
def wsJ9_abs_0f7a4 : List Cond := .code yJ9_abs_0f7a4 cJ9_abs_0f7a4 1 (some .int) :: ([])
def wsJ9_min_7cf53 : List Cond := .code yJ9_min_7cf53 cJ9_min_7cf53 2 (some .int) :: ([])
def wsJ9_min_f86c9 : List Cond := .code yJ9_min_f86c9 cJ9_min_f86c9 4 (some .long) :: ([])
def wsL_land_r1 : List Cond := [Cond.classLink RL 13 "java/lang/IndexOutOfBoundsException", Cond.classLink RL 15 "java/lang/IllegalArgumentException", Cond.classLink RL 17 "java/lang/IllegalStateException", Cond.methodLink RL 7 yX5_land, Cond.instanceMethod yX5_land, Cond.selects RX5 yX5_land yX5_land, Cond.initialized RX5, Cond.code yX5_land cX5_land 4 (some .int), Cond.classLink RX5 54 "java/lang/IllegalStateException", Cond.initialized "java/lang/IllegalStateException", Cond.fieldLink RX5 10 "IceLand" "present" "LIceLand$Land;", Cond.fieldLink RX5 41 "IceLand$Land" "core" "LIceLand$Core;", Cond.fieldLink RX5 45 "IceLand$Core" "ice" "[I", Cond.fieldLink RX5 51 "IceLand$Land" "water" "[I", Cond.fieldLink RX5 61 "IceLand$Land" "bed" "[I", Cond.fieldLink RX5 64 "IceLand$Land" "base" "[I", Cond.methodLink RX5 33 yX5_needCell, Cond.static yX5_needCell, Cond.code yX5_needCell cX5_needCell 1 none, Cond.classLink RX5 127 "java/lang/IndexOutOfBoundsException", Cond.initialized "java/lang/IndexOutOfBoundsException", Cond.methodLink RX5 37 yX5_needWithin, Cond.static yX5_needWithin, Cond.code yX5_needWithin cX5_needWithin 3 none]
def wsL_land_r2 : List Cond := [Cond.classLink RX5 199 "java/lang/IllegalArgumentException", Cond.initialized "java/lang/IllegalArgumentException"]
def wsL_land : List Cond := .codeWith yL_land cL_land 5 (some .int) [(0, 10, 13, 13), (0, 10, 17, 15), (0, 10, 21, 17)] :: ((wsL_land_r1 ++ wsL_land_r2) ++ wsX50 ++ wsX30 ++ wsX10 ++ (vx_atS RX5 58 "java/lang/IllegalStateException" ["java/lang/RuntimeException", "java/lang/Exception"]).filter goodWord ++ (vx_atS RX5 131 "java/lang/IndexOutOfBoundsException" ["java/lang/RuntimeException", "java/lang/Exception"]).filter goodWord ++ (vx_atS RX5 203 "java/lang/IllegalArgumentException" ["java/lang/RuntimeException", "java/lang/Exception"]).filter goodWord)
def wsL_sea : List Cond := .codeWith yL_sea cL_sea 4 (some .int) [(0, 9, 12, 15)] :: ([.classLink RL 15 "java/lang/IllegalArgumentException", .methodLink RL 19 yX5_sea, .instanceMethod yX5_sea, .selects RX5 yX5_sea yX5_sea, .initialized RX5, .code yX5_sea cX5_sea 3 (some .int), .fieldLink RX5 10 "IceLand" "present" "LIceLand$Land;", .fieldLink RX5 67 "IceLand$Land" "level" "I", .methodLink RX5 37 yX5_needWithin, .static yX5_needWithin, .code yX5_needWithin cX5_needWithin 3 none, .classLink RX5 199 "java/lang/IllegalArgumentException", .initialized "java/lang/IllegalArgumentException"] ++ wsX50 ++ wsX30 ++ (vx_atS RX5 203 "java/lang/IllegalArgumentException" ["java/lang/RuntimeException", "java/lang/Exception"]).filter goodWord)
def wsL_climate : List Cond := .codeWith yL_climate cL_climate 5 (some .int) [(0, 7, 10, 15)] :: ([.classLink RL 15 "java/lang/IllegalArgumentException", .methodLink RL 23 yX5_climate, .instanceMethod yX5_climate, .selects RX5 yX5_climate yX5_climate, .initialized RX5, .code yX5_climate cX5_climate 4 none, .fieldLink RX5 10 "IceLand" "present" "LIceLand$Land;", .fieldLink RX5 71 "IceLand$Land" "warmth" "I", .fieldLink RX5 74 "IceLand$Land" "snow" "I", .fieldLink RX5 77 "IceLand$Land" "factor" "I", .methodLink RX5 37 yX5_needWithin, .static yX5_needWithin, .code yX5_needWithin cX5_needWithin 3 none, .classLink RX5 199 "java/lang/IllegalArgumentException", .initialized "java/lang/IllegalArgumentException"] ++ wsX50 ++ wsX30 ++ (vx_atS RX5 203 "java/lang/IllegalArgumentException" ["java/lang/RuntimeException", "java/lang/Exception"]).filter goodWord)
def wsL_ice_r1 : List Cond := [Cond.classLink RL 13 "java/lang/IndexOutOfBoundsException", Cond.classLink RL 15 "java/lang/IllegalArgumentException", Cond.classLink RL 17 "java/lang/IllegalStateException", Cond.methodLink RL 27 yX5_ice, Cond.instanceMethod yX5_ice, Cond.selects RX5 yX5_ice yX5_ice, Cond.initialized RX5, Cond.code yX5_ice cX5_ice 3 (some .int), Cond.classLink RX5 54 "java/lang/IllegalStateException", Cond.initialized "java/lang/IllegalStateException", Cond.fieldLink RX5 10 "IceLand" "present" "LIceLand$Land;", Cond.fieldLink RX5 41 "IceLand$Land" "core" "LIceLand$Core;", Cond.fieldLink RX5 45 "IceLand$Core" "ice" "[I", Cond.fieldLink RX5 82 "IceLand$Land" "year" "I", Cond.fieldLink RX5 88 "IceLand$Land" "sums" "LIceLand$Sums;", Cond.fieldLink RX5 92 "IceLand$Sums" "told" "I", Cond.methodLink RX5 33 yX5_needCell, Cond.static yX5_needCell, Cond.code yX5_needCell cX5_needCell 1 none, Cond.classLink RX5 127 "java/lang/IndexOutOfBoundsException", Cond.initialized "java/lang/IndexOutOfBoundsException", Cond.methodLink RX5 37 yX5_needWithin, Cond.static yX5_needWithin, Cond.code yX5_needWithin cX5_needWithin 3 none]
def wsL_ice_r2 : List Cond := [Cond.classLink RX5 199 "java/lang/IllegalArgumentException", Cond.initialized "java/lang/IllegalArgumentException", Cond.methodLink RX5 85 yX1_lay, Cond.instanceMethod yX1_lay, Cond.selects RX1 yX1_lay yX1_lay, Cond.initialized RX1, Cond.code yX1_lay cX1_lay 4 none, Cond.fieldLink RX1 15 "IceLand$Core" "units" "[I", Cond.fieldLink RX1 9 "IceLand$Core" "ice" "[I"]
def wsL_ice : List Cond := .codeWith yL_ice cL_ice 5 (some .int) [(0, 10, 13, 13), (0, 10, 17, 15), (0, 10, 21, 17)] :: ((wsL_ice_r1 ++ wsL_ice_r2) ++ wsX50 ++ wsX30 ++ wsX10 ++ wsX40 ++ (vx_atS RX5 58 "java/lang/IllegalStateException" ["java/lang/RuntimeException", "java/lang/Exception"]).filter goodWord ++ (vx_atS RX5 131 "java/lang/IndexOutOfBoundsException" ["java/lang/RuntimeException", "java/lang/Exception"]).filter goodWord ++ (vx_atS RX5 203 "java/lang/IllegalArgumentException" ["java/lang/RuntimeException", "java/lang/Exception"]).filter goodWord)
def wsL_pass_r1 : List Cond := [Cond.classLink RL 15 "java/lang/IllegalArgumentException", Cond.classLink RL 17 "java/lang/IllegalStateException", Cond.methodLink RL 30 yX5_pass, Cond.instanceMethod yX5_pass, Cond.selects RX5 yX5_pass yX5_pass, Cond.initialized RX5, Cond.code yX5_pass cX5_pass 3 (some .int), Cond.fieldLink RX5 10 "IceLand" "present" "LIceLand$Land;", Cond.fieldLink RX5 22 "IceLand" "annals" "LIceLand$Annals;", Cond.fieldLink RX5 82 "IceLand$Land" "year" "I", Cond.methodLink RX5 37 yX5_needWithin, Cond.static yX5_needWithin, Cond.code yX5_needWithin cX5_needWithin 3 none, Cond.classLink RX5 199 "java/lang/IllegalArgumentException", Cond.initialized "java/lang/IllegalArgumentException", Cond.methodLink RX5 101 yX5_needNotTooLate, Cond.instanceMethod yX5_needNotTooLate, Cond.selects RX5 yX5_needNotTooLate yX5_needNotTooLate, Cond.code yX5_needNotTooLate cX5_needNotTooLate 2 none, Cond.classLink RX5 54 "java/lang/IllegalStateException", Cond.initialized "java/lang/IllegalStateException", Cond.methodLink RX5 104 yX3_goThroughYear, Cond.instanceMethod yX3_goThroughYear, Cond.selects RX3 yX3_goThroughYear yX3_goThroughYear]
def wsL_pass_r2 : List Cond := [Cond.initialized RX3, Cond.code yX3_goThroughYear cX3_goThroughYear 2 none, Cond.fieldLink RX3 54 "IceLand$Land" "year" "I", Cond.methodLink RX3 79 yX3_snowOrMelt, Cond.instanceMethod yX3_snowOrMelt, Cond.selects RX3 yX3_snowOrMelt yX3_snowOrMelt, Cond.code yX3_snowOrMelt cX3_snowOrMelt 4 none, Cond.fieldLink RX3 60 "IceLand$Land" "warmth" "I", Cond.fieldLink RX3 38 "IceLand$Land" "snowed" "[I", Cond.fieldLink RX3 12 "IceLand$Land" "core" "LIceLand$Core;", Cond.fieldLink RX3 101 "IceLand$Core" "ice" "[I", Cond.fieldLink RX3 63 "IceLand$Land" "snow" "I", Cond.fieldLink RX3 21 "IceLand$Land" "sums" "LIceLand$Sums;", Cond.fieldLink RX3 131 "IceLand$Sums" "fallen" "I", Cond.fieldLink RX3 66 "IceLand$Land" "factor" "I", Cond.methodLink RX3 134 Lib.Math.min.name, Cond.static Lib.Math.min.name, Cond.initialized "java/lang/Math", Cond.code Lib.Math.min.name Lib.Math.min.code 2 (some .int), Cond.fieldLink RX3 32 "IceLand$Land" "water" "[I", Cond.fieldLink RX3 141 "IceLand$Sums" "melted" "I", Cond.methodLink RX3 104 yX3_surface, Cond.instanceMethod yX3_surface, Cond.selects RX3 yX3_surface yX3_surface]
def wsL_pass_r3 : List Cond := [Cond.code yX3_surface cX3_surface 2 (some .int), Cond.fieldLink RX3 25 "IceLand$Land" "bed" "[I", Cond.methodLink RX3 123 yJ9_floorDiv_7cf53, Cond.static yJ9_floorDiv_7cf53, Cond.initialized RJ9, Cond.code yJ9_floorDiv_7cf53 cJ9_floorDiv_7cf53 3 (some .int), Cond.methodLink RX3 112 yX3_standsInSea, Cond.instanceMethod yX3_standsInSea, Cond.selects RX3 yX3_standsInSea yX3_standsInSea, Cond.code yX3_standsInSea cX3_standsInSea 2 (some .boolean), Cond.fieldLink RX3 57 "IceLand$Land" "level" "I", Cond.methodLink RX3 127 yX1_lay, Cond.instanceMethod yX1_lay, Cond.selects RX1 yX1_lay yX1_lay, Cond.initialized RX1, Cond.code yX1_lay cX1_lay 4 none, Cond.fieldLink RX1 15 "IceLand$Core" "units" "[I", Cond.fieldLink RX1 9 "IceLand$Core" "ice" "[I", Cond.methodLink RX3 137 yX1_takeLatest, Cond.instanceMethod yX1_takeLatest, Cond.selects RX1 yX1_takeLatest yX1_takeLatest, Cond.code yX1_takeLatest cX1_takeLatest 6 none, Cond.methodLink RX1 28 Lib.Math.min.name, Cond.methodLink RX1 24 yX1_unitsOf]
def wsL_pass_r4 : List Cond := [Cond.instanceMethod yX1_unitsOf, Cond.selects RX1 yX1_unitsOf yX1_unitsOf, Cond.code yX1_unitsOf cX1_unitsOf 3 (some .int), Cond.methodLink RX1 33 yX1_lay, Cond.methodLink RX3 83 yX3_flow, Cond.instanceMethod yX3_flow, Cond.selects RX3 yX3_flow yX3_flow, Cond.code yX3_flow cX3_flow 3 none, Cond.fieldLink RX3 44 "IceLand$Land" "passing" "[I", Cond.fieldLink RX3 41 "IceLand$Land" "gain" "[I", Cond.methodLink RX3 144 yX3_givenToNext, Cond.instanceMethod yX3_givenToNext, Cond.selects RX3 yX3_givenToNext yX3_givenToNext, Cond.code yX3_givenToNext cX3_givenToNext 3 (some .int), Cond.methodLink RX3 150 yX3_givenBy, Cond.instanceMethod yX3_givenBy, Cond.selects RX3 yX3_givenBy yX3_givenBy, Cond.code yX3_givenBy cX3_givenBy 5 (some .int), Cond.constantLong RX3 153 (200), Cond.constantLong RX3 158 (2), Cond.methodLink RX3 160 Lib.MathLoose.min_long.x, Cond.static Lib.MathLoose.min_long.x, Cond.code Lib.MathLoose.min_long.x Lib.MathLoose.min_long.code 4 (some .long), Cond.methodLink RX3 155 yJ9_floorDiv_f86c9]
def wsL_pass_r5 : List Cond := [Cond.static yJ9_floorDiv_f86c9, Cond.code yJ9_floorDiv_f86c9 cJ9_floorDiv_f86c9 6 (some .long), Cond.methodLink RX3 147 yX1_carry, Cond.instanceMethod yX1_carry, Cond.selects RX1 yX1_carry yX1_carry, Cond.code yX1_carry cX1_carry 7 none, Cond.methodLink RX3 86 yX3_runOff, Cond.instanceMethod yX3_runOff, Cond.selects RX3 yX3_runOff yX3_runOff, Cond.code yX3_runOff cX3_runOff 3 none, Cond.fieldLink RX3 162 "IceLand$Sums" "toSea" "I", Cond.methodLink RX3 115 yX3_potential, Cond.instanceMethod yX3_potential, Cond.selects RX3 yX3_potential yX3_potential, Cond.code yX3_potential cX3_potential 2 (some .int), Cond.methodLink RX3 89 yX3_breakOut, Cond.instanceMethod yX3_breakOut, Cond.selects RX3 yX3_breakOut yX3_breakOut, Cond.code yX3_breakOut cX3_breakOut 3 none, Cond.fieldLink RX3 47 "IceLand$Land" "burst" "[I", Cond.methodLink RX3 165 yX3_leastIceBeside, Cond.instanceMethod yX3_leastIceBeside, Cond.selects RX3 yX3_leastIceBeside yX3_leastIceBeside, Cond.code yX3_leastIceBeside cX3_leastIceBeside 4 (some .int)]
def wsL_pass_r6 : List Cond := [Cond.methodLink RX3 92 yX3_calve, Cond.instanceMethod yX3_calve, Cond.selects RX3 yX3_calve yX3_calve, Cond.code yX3_calve cX3_calve 4 none, Cond.fieldLink RX3 168 "IceLand$Sums" "bergs" "I", Cond.methodLink RX3 95 yX3_moveBed, Cond.instanceMethod yX3_moveBed, Cond.selects RX3 yX3_moveBed yX3_moveBed, Cond.code yX3_moveBed cX3_moveBed 3 none, Cond.fieldLink RX3 29 "IceLand$Land" "base" "[I", Cond.methodLink RX3 98 yX3_markFront, Cond.instanceMethod yX3_markFront, Cond.selects RX3 yX3_markFront yX3_markFront, Cond.code yX3_markFront cX3_markFront 2 none, Cond.fieldLink RX3 50 "IceLand$Land" "frontCell" "I", Cond.fieldLink RX3 35 "IceLand$Land" "moraine" "[I", Cond.methodLink RX5 107 yX0_note, Cond.instanceMethod yX0_note, Cond.selects RX0 yX0_note yX0_note, Cond.initialized RX0, Cond.code yX0_note cX0_note 3 none, Cond.fieldLink RX0 15 "IceLand$Annals" "frontOf" "[I", Cond.fieldLink RX0 31 "IceLand$Land" "year" "I", Cond.fieldLink RX0 37 "IceLand$Land" "frontCell" "I"]
def wsL_pass_r7 : List Cond := [Cond.fieldLink RX0 19 "IceLand$Annals" "iceBehind" "[I", Cond.fieldLink RX0 40 "IceLand$Land" "core" "LIceLand$Core;", Cond.fieldLink RX0 50 "IceLand$Land" "burst" "[I", Cond.fieldLink RX0 53 "IceLand$Annals" "floodCount" "I", Cond.fieldLink RX0 22 "IceLand$Annals" "floodYear" "[I", Cond.fieldLink RX0 25 "IceLand$Annals" "floodCell" "[I", Cond.fieldLink RX0 28 "IceLand$Annals" "floodUnits" "[I", Cond.methodLink RX0 44 yX1_allIce, Cond.instanceMethod yX1_allIce, Cond.selects RX1 yX1_allIce yX1_allIce, Cond.code yX1_allIce cX1_allIce 3 (some .int)]
def wsL_pass : List Cond := .codeWith yL_pass cL_pass 4 (some .int) [(0, 9, 12, 15), (0, 9, 15, 17)] :: ((wsL_pass_r1 ++ (wsL_pass_r2 ++ (wsL_pass_r3 ++ (wsL_pass_r4 ++ (wsL_pass_r5 ++ (wsL_pass_r6 ++ wsL_pass_r7)))))) ++ wsX50 ++ wsX30 ++ wsX10 ++ wsX40 ++ wsX00 ++ (vx_atS RX5 203 "java/lang/IllegalArgumentException" ["java/lang/RuntimeException", "java/lang/Exception"]).filter goodWord ++ (vx_atS RX5 58 "java/lang/IllegalStateException" ["java/lang/RuntimeException", "java/lang/Exception"]).filter goodWord)
def wsL_cellIs_r1 : List Cond := [Cond.classLink RL 13 "java/lang/IndexOutOfBoundsException", Cond.classLink RL 15 "java/lang/IllegalArgumentException", Cond.methodLink RL 33 yX5_cellIs, Cond.instanceMethod yX5_cellIs, Cond.selects RX5 yX5_cellIs yX5_cellIs, Cond.initialized RX5, Cond.code yX5_cellIs cX5_cellIs 3 (some .int), Cond.fieldLink RX5 10 "IceLand" "present" "LIceLand$Land;", Cond.methodLink RX5 33 yX5_needCell, Cond.static yX5_needCell, Cond.code yX5_needCell cX5_needCell 1 none, Cond.classLink RX5 127 "java/lang/IndexOutOfBoundsException", Cond.initialized "java/lang/IndexOutOfBoundsException", Cond.methodLink RX5 37 yX5_needWithin, Cond.static yX5_needWithin, Cond.code yX5_needWithin cX5_needWithin 3 none, Cond.classLink RX5 199 "java/lang/IllegalArgumentException", Cond.initialized "java/lang/IllegalArgumentException", Cond.methodLink RX5 111 yX3_tellOf, Cond.instanceMethod yX3_tellOf, Cond.selects RX3 yX3_tellOf yX3_tellOf, Cond.initialized RX3, Cond.code yX3_tellOf cX3_tellOf 3 (some .int), Cond.fieldLink RX3 25 "IceLand$Land" "bed" "[I"]
def wsL_cellIs_r2 : List Cond := [Cond.fieldLink RX3 12 "IceLand$Land" "core" "LIceLand$Core;", Cond.fieldLink RX3 101 "IceLand$Core" "ice" "[I", Cond.fieldLink RX3 32 "IceLand$Land" "water" "[I", Cond.fieldLink RX3 35 "IceLand$Land" "moraine" "[I", Cond.fieldLink RX3 38 "IceLand$Land" "snowed" "[I", Cond.fieldLink RX3 29 "IceLand$Land" "base" "[I", Cond.methodLink RX3 104 yX3_surface, Cond.instanceMethod yX3_surface, Cond.selects RX3 yX3_surface yX3_surface, Cond.code yX3_surface cX3_surface 2 (some .int), Cond.methodLink RX3 108 yX3_hasCrevasse, Cond.instanceMethod yX3_hasCrevasse, Cond.selects RX3 yX3_hasCrevasse yX3_hasCrevasse, Cond.code yX3_hasCrevasse cX3_hasCrevasse 2 (some .boolean), Cond.fieldLink RX3 41 "IceLand$Land" "gain" "[I", Cond.methodLink RX3 118 Lib.Math.abs.name, Cond.static Lib.Math.abs.name, Cond.initialized "java/lang/Math", Cond.code Lib.Math.abs.name Lib.Math.abs.code 1 (some .int), Cond.methodLink RX3 112 yX3_standsInSea, Cond.instanceMethod yX3_standsInSea, Cond.selects RX3 yX3_standsInSea yX3_standsInSea, Cond.code yX3_standsInSea cX3_standsInSea 2 (some .boolean), Cond.fieldLink RX3 57 "IceLand$Land" "level" "I"]
def wsL_cellIs_r3 : List Cond := [Cond.methodLink RX3 115 yX3_potential, Cond.instanceMethod yX3_potential, Cond.selects RX3 yX3_potential yX3_potential, Cond.code yX3_potential cX3_potential 2 (some .int)]
def wsL_cellIs : List Cond := .codeWith yL_cellIs cL_cellIs 5 (some .int) [(0, 10, 13, 13), (0, 10, 17, 15)] :: ((wsL_cellIs_r1 ++ (wsL_cellIs_r2 ++ wsL_cellIs_r3)) ++ wsX50 ++ wsX30 ++ wsX10 ++ (vx_atS RX5 131 "java/lang/IndexOutOfBoundsException" ["java/lang/RuntimeException", "java/lang/Exception"]).filter goodWord ++ (vx_atS RX5 203 "java/lang/IllegalArgumentException" ["java/lang/RuntimeException", "java/lang/Exception"]).filter goodWord)
def wsL_layer_r1 : List Cond := [Cond.classLink RL 13 "java/lang/IndexOutOfBoundsException", Cond.classLink RL 15 "java/lang/IllegalArgumentException", Cond.methodLink RL 36 yX5_layer, Cond.instanceMethod yX5_layer, Cond.selects RX5 yX5_layer yX5_layer, Cond.initialized RX5, Cond.code yX5_layer cX5_layer 3 (some .int), Cond.fieldLink RX5 10 "IceLand" "present" "LIceLand$Land;", Cond.fieldLink RX5 41 "IceLand$Land" "core" "LIceLand$Core;", Cond.methodLink RX5 33 yX5_needCell, Cond.static yX5_needCell, Cond.code yX5_needCell cX5_needCell 1 none, Cond.classLink RX5 127 "java/lang/IndexOutOfBoundsException", Cond.initialized "java/lang/IndexOutOfBoundsException", Cond.methodLink RX5 37 yX5_needWithin, Cond.static yX5_needWithin, Cond.code yX5_needWithin cX5_needWithin 3 none, Cond.classLink RX5 199 "java/lang/IllegalArgumentException", Cond.initialized "java/lang/IllegalArgumentException", Cond.methodLink RX5 115 yX1_unitsOf, Cond.instanceMethod yX1_unitsOf, Cond.selects RX1 yX1_unitsOf yX1_unitsOf, Cond.initialized RX1, Cond.code yX1_unitsOf cX1_unitsOf 3 (some .int)]
def wsL_layer_r2 : List Cond := [Cond.fieldLink RX1 15 "IceLand$Core" "units" "[I"]
def wsL_layer : List Cond := .codeWith yL_layer cL_layer 5 (some .int) [(0, 10, 13, 13), (0, 10, 17, 15)] :: ((wsL_layer_r1 ++ wsL_layer_r2) ++ wsX50 ++ wsX30 ++ wsX10 ++ (vx_atS RX5 131 "java/lang/IndexOutOfBoundsException" ["java/lang/RuntimeException", "java/lang/Exception"]).filter goodWord ++ (vx_atS RX5 203 "java/lang/IllegalArgumentException" ["java/lang/RuntimeException", "java/lang/Exception"]).filter goodWord)
def wsL_yearAt_r1 : List Cond := [Cond.classLink RL 13 "java/lang/IndexOutOfBoundsException", Cond.classLink RL 15 "java/lang/IllegalArgumentException", Cond.methodLink RL 39 yX5_yearAt, Cond.instanceMethod yX5_yearAt, Cond.selects RX5 yX5_yearAt yX5_yearAt, Cond.initialized RX5, Cond.code yX5_yearAt cX5_yearAt 3 (some .int), Cond.constant RX5 120 (2147483647), Cond.fieldLink RX5 10 "IceLand" "present" "LIceLand$Land;", Cond.fieldLink RX5 41 "IceLand$Land" "core" "LIceLand$Core;", Cond.methodLink RX5 33 yX5_needCell, Cond.static yX5_needCell, Cond.code yX5_needCell cX5_needCell 1 none, Cond.classLink RX5 127 "java/lang/IndexOutOfBoundsException", Cond.initialized "java/lang/IndexOutOfBoundsException", Cond.methodLink RX5 37 yX5_needWithin, Cond.static yX5_needWithin, Cond.code yX5_needWithin cX5_needWithin 3 none, Cond.classLink RX5 199 "java/lang/IllegalArgumentException", Cond.initialized "java/lang/IllegalArgumentException", Cond.methodLink RX5 121 yX1_yearBelow, Cond.instanceMethod yX1_yearBelow, Cond.selects RX1 yX1_yearBelow yX1_yearBelow, Cond.initialized RX1]
def wsL_yearAt_r2 : List Cond := [Cond.code yX1_yearBelow cX1_yearBelow 6 (some .int), Cond.methodLink RX1 24 yX1_unitsOf, Cond.instanceMethod yX1_unitsOf, Cond.selects RX1 yX1_unitsOf yX1_unitsOf, Cond.code yX1_unitsOf cX1_unitsOf 3 (some .int), Cond.fieldLink RX1 15 "IceLand$Core" "units" "[I"]
def wsL_yearAt : List Cond := .codeWith yL_yearAt cL_yearAt 5 (some .int) [(0, 10, 13, 13), (0, 10, 17, 15)] :: ((wsL_yearAt_r1 ++ wsL_yearAt_r2) ++ wsX50 ++ wsX30 ++ wsX10 ++ (vx_atS RX5 131 "java/lang/IndexOutOfBoundsException" ["java/lang/RuntimeException", "java/lang/Exception"]).filter goodWord ++ (vx_atS RX5 203 "java/lang/IllegalArgumentException" ["java/lang/RuntimeException", "java/lang/Exception"]).filter goodWord)
def wsL_common : List Cond := .codeWith yL_common cL_common 5 (some .int) [(0, 10, 13, 13)] :: ([.classLink RL 13 "java/lang/IndexOutOfBoundsException", .methodLink RL 42 yX5_common, .instanceMethod yX5_common, .selects RX5 yX5_common yX5_common, .initialized RX5, .code yX5_common cX5_common 5 (some .int), .fieldLink RX5 22 "IceLand" "annals" "LIceLand$Annals;", .fieldLink RX5 97 "IceLand$Annals" "ashFell" "[Z", .fieldLink RX5 10 "IceLand" "present" "LIceLand$Land;", .fieldLink RX5 41 "IceLand$Land" "core" "LIceLand$Core;", .methodLink RX5 33 yX5_needCell, .static yX5_needCell, .code yX5_needCell cX5_needCell 1 none, .classLink RX5 127 "java/lang/IndexOutOfBoundsException", .initialized "java/lang/IndexOutOfBoundsException", .methodLink RX5 115 yX1_unitsOf, .instanceMethod yX1_unitsOf, .selects RX1 yX1_unitsOf yX1_unitsOf, .initialized RX1, .code yX1_unitsOf cX1_unitsOf 3 (some .int), .fieldLink RX1 15 "IceLand$Core" "units" "[I"] ++ wsX50 ++ wsX00 ++ wsX30 ++ wsX10 ++ (vx_atS RX5 131 "java/lang/IndexOutOfBoundsException" ["java/lang/RuntimeException", "java/lang/Exception"]).filter goodWord)
def wsL_flood : List Cond := .codeWith yL_flood cL_flood 5 (some .int) [(0, 10, 13, 13), (0, 10, 17, 15)] :: ([.classLink RL 13 "java/lang/IndexOutOfBoundsException", .classLink RL 15 "java/lang/IllegalArgumentException", .methodLink RL 45 yX5_flood, .instanceMethod yX5_flood, .selects RX5 yX5_flood yX5_flood, .initialized RX5, .code yX5_flood cX5_flood 3 (some .int), .classLink RX5 127 "java/lang/IndexOutOfBoundsException", .initialized "java/lang/IndexOutOfBoundsException", .fieldLink RX5 22 "IceLand" "annals" "LIceLand$Annals;", .fieldLink RX5 124 "IceLand$Annals" "floodCount" "I", .fieldLink RX5 132 "IceLand$Annals" "floodYear" "[I", .fieldLink RX5 135 "IceLand$Annals" "floodCell" "[I", .fieldLink RX5 138 "IceLand$Annals" "floodUnits" "[I", .methodLink RX5 37 yX5_needWithin, .static yX5_needWithin, .code yX5_needWithin cX5_needWithin 3 none, .classLink RX5 199 "java/lang/IllegalArgumentException", .initialized "java/lang/IllegalArgumentException"] ++ wsX50 ++ wsX00 ++ (vx_atS RX5 131 "java/lang/IndexOutOfBoundsException" ["java/lang/RuntimeException", "java/lang/Exception"]).filter goodWord ++ (vx_atS RX5 203 "java/lang/IllegalArgumentException" ["java/lang/RuntimeException", "java/lang/Exception"]).filter goodWord)
def wsL_front : List Cond := .codeWith yL_front cL_front 4 (some .int) [(0, 9, 12, 15)] :: ([.classLink RL 15 "java/lang/IllegalArgumentException", .methodLink RL 48 yX5_front, .instanceMethod yX5_front, .selects RX5 yX5_front yX5_front, .initialized RX5, .code yX5_front cX5_front 2 (some .int), .fieldLink RX5 10 "IceLand" "present" "LIceLand$Land;", .fieldLink RX5 82 "IceLand$Land" "year" "I", .fieldLink RX5 22 "IceLand" "annals" "LIceLand$Annals;", .fieldLink RX5 141 "IceLand$Annals" "frontOf" "[I", .methodLink RX5 37 yX5_needWithin, .static yX5_needWithin, .code yX5_needWithin cX5_needWithin 3 none, .classLink RX5 199 "java/lang/IllegalArgumentException", .initialized "java/lang/IllegalArgumentException"] ++ wsX50 ++ wsX30 ++ wsX00 ++ (vx_atS RX5 203 "java/lang/IllegalArgumentException" ["java/lang/RuntimeException", "java/lang/Exception"]).filter goodWord)
def wsL_total_r1 : List Cond := [Cond.classLink RL 15 "java/lang/IllegalArgumentException", Cond.methodLink RL 51 yX5_total, Cond.instanceMethod yX5_total, Cond.selects RX5 yX5_total yX5_total, Cond.initialized RX5, Cond.code yX5_total cX5_total 2 (some .int), Cond.fieldLink RX5 10 "IceLand" "present" "LIceLand$Land;", Cond.fieldLink RX5 41 "IceLand$Land" "core" "LIceLand$Core;", Cond.fieldLink RX5 88 "IceLand$Land" "sums" "LIceLand$Sums;", Cond.fieldLink RX5 151 "IceLand$Sums" "toSea" "I", Cond.fieldLink RX5 154 "IceLand$Sums" "bergs" "I", Cond.fieldLink RX5 157 "IceLand$Sums" "fallen" "I", Cond.fieldLink RX5 92 "IceLand$Sums" "told" "I", Cond.methodLink RX5 37 yX5_needWithin, Cond.static yX5_needWithin, Cond.code yX5_needWithin cX5_needWithin 3 none, Cond.classLink RX5 199 "java/lang/IllegalArgumentException", Cond.initialized "java/lang/IllegalArgumentException", Cond.methodLink RX5 144 yX1_allIce, Cond.instanceMethod yX1_allIce, Cond.selects RX1 yX1_allIce yX1_allIce, Cond.initialized RX1, Cond.code yX1_allIce cX1_allIce 3 (some .int), Cond.fieldLink RX1 9 "IceLand$Core" "ice" "[I"]
def wsL_total_r2 : List Cond := [Cond.methodLink RX5 148 yX3_allWater, Cond.instanceMethod yX3_allWater, Cond.selects RX3 yX3_allWater yX3_allWater, Cond.initialized RX3, Cond.code yX3_allWater cX3_allWater 3 (some .int), Cond.fieldLink RX3 32 "IceLand$Land" "water" "[I"]
def wsL_total : List Cond := .codeWith yL_total cL_total 4 (some .int) [(0, 9, 12, 15)] :: ((wsL_total_r1 ++ wsL_total_r2) ++ wsX50 ++ wsX30 ++ wsX40 ++ wsX10 ++ (vx_atS RX5 203 "java/lang/IllegalArgumentException" ["java/lang/RuntimeException", "java/lang/Exception"]).filter goodWord)
def wsL_would_r1 : List Cond := [Cond.classLink RL 13 "java/lang/IndexOutOfBoundsException", Cond.classLink RL 15 "java/lang/IllegalArgumentException", Cond.classLink RL 17 "java/lang/IllegalStateException", Cond.methodLink RL 54 yX5_would, Cond.instanceMethod yX5_would, Cond.selects RX5 yX5_would yX5_would, Cond.initialized RX5, Cond.code yX5_would cX5_would 4 (some .int), Cond.fieldLink RX5 16 "IceLand" "trial" "LIceLand$Land;", Cond.methodLink RX5 33 yX5_needCell, Cond.static yX5_needCell, Cond.code yX5_needCell cX5_needCell 1 none, Cond.classLink RX5 127 "java/lang/IndexOutOfBoundsException", Cond.initialized "java/lang/IndexOutOfBoundsException", Cond.methodLink RX5 37 yX5_needWithin, Cond.static yX5_needWithin, Cond.code yX5_needWithin cX5_needWithin 3 none, Cond.classLink RX5 199 "java/lang/IllegalArgumentException", Cond.initialized "java/lang/IllegalArgumentException", Cond.methodLink RX5 101 yX5_needNotTooLate, Cond.instanceMethod yX5_needNotTooLate, Cond.selects RX5 yX5_needNotTooLate yX5_needNotTooLate, Cond.code yX5_needNotTooLate cX5_needNotTooLate 2 none, Cond.classLink RX5 54 "java/lang/IllegalStateException"]
def wsL_would_r2 : List Cond := [Cond.initialized "java/lang/IllegalStateException", Cond.fieldLink RX5 10 "IceLand" "present" "LIceLand$Land;", Cond.fieldLink RX5 82 "IceLand$Land" "year" "I", Cond.methodLink RX5 163 yX5_tryOut, Cond.instanceMethod yX5_tryOut, Cond.selects RX5 yX5_tryOut yX5_tryOut, Cond.code yX5_tryOut cX5_tryOut 3 none, Cond.methodLink RX5 192 yX3_becomeLike, Cond.instanceMethod yX3_becomeLike, Cond.selects RX3 yX3_becomeLike yX3_becomeLike, Cond.initialized RX3, Cond.code yX3_becomeLike cX3_becomeLike 2 none, Cond.fieldLink RX3 54 "IceLand$Land" "year" "I", Cond.fieldLink RX3 57 "IceLand$Land" "level" "I", Cond.fieldLink RX3 60 "IceLand$Land" "warmth" "I", Cond.fieldLink RX3 63 "IceLand$Land" "snow" "I", Cond.fieldLink RX3 66 "IceLand$Land" "factor" "I", Cond.fieldLink RX3 12 "IceLand$Land" "core" "LIceLand$Core;", Cond.fieldLink RX3 25 "IceLand$Land" "bed" "[I", Cond.methodLink RX3 73 arraycopyName, Cond.native arraycopyName, Cond.static arraycopyName, Cond.initialized "java/lang/System", Cond.fieldLink RX3 29 "IceLand$Land" "base" "[I"]
def wsL_would_r3 : List Cond := [Cond.fieldLink RX3 32 "IceLand$Land" "water" "[I", Cond.fieldLink RX3 35 "IceLand$Land" "moraine" "[I", Cond.methodLink RX3 69 yX1_becomeLike, Cond.instanceMethod yX1_becomeLike, Cond.selects RX1 yX1_becomeLike yX1_becomeLike, Cond.initialized RX1, Cond.code yX1_becomeLike cX1_becomeLike 2 none, Cond.fieldLink RX1 9 "IceLand$Core" "ice" "[I", Cond.methodLink RX1 18 arraycopyName, Cond.fieldLink RX1 15 "IceLand$Core" "units" "[I", Cond.methodLink RX5 104 yX3_goThroughYear, Cond.instanceMethod yX3_goThroughYear, Cond.selects RX3 yX3_goThroughYear yX3_goThroughYear, Cond.code yX3_goThroughYear cX3_goThroughYear 2 none, Cond.methodLink RX3 79 yX3_snowOrMelt, Cond.instanceMethod yX3_snowOrMelt, Cond.selects RX3 yX3_snowOrMelt yX3_snowOrMelt, Cond.code yX3_snowOrMelt cX3_snowOrMelt 4 none, Cond.fieldLink RX3 38 "IceLand$Land" "snowed" "[I", Cond.fieldLink RX3 101 "IceLand$Core" "ice" "[I", Cond.fieldLink RX3 21 "IceLand$Land" "sums" "LIceLand$Sums;", Cond.fieldLink RX3 131 "IceLand$Sums" "fallen" "I", Cond.methodLink RX3 134 Lib.Math.min.name, Cond.static Lib.Math.min.name]
def wsL_would_r4 : List Cond := [Cond.initialized "java/lang/Math", Cond.code Lib.Math.min.name Lib.Math.min.code 2 (some .int), Cond.fieldLink RX3 141 "IceLand$Sums" "melted" "I", Cond.methodLink RX3 104 yX3_surface, Cond.instanceMethod yX3_surface, Cond.selects RX3 yX3_surface yX3_surface, Cond.code yX3_surface cX3_surface 2 (some .int), Cond.methodLink RX3 123 yJ9_floorDiv_7cf53, Cond.static yJ9_floorDiv_7cf53, Cond.initialized RJ9, Cond.code yJ9_floorDiv_7cf53 cJ9_floorDiv_7cf53 3 (some .int), Cond.methodLink RX3 112 yX3_standsInSea, Cond.instanceMethod yX3_standsInSea, Cond.selects RX3 yX3_standsInSea yX3_standsInSea, Cond.code yX3_standsInSea cX3_standsInSea 2 (some .boolean), Cond.methodLink RX3 127 yX1_lay, Cond.instanceMethod yX1_lay, Cond.selects RX1 yX1_lay yX1_lay, Cond.code yX1_lay cX1_lay 4 none, Cond.methodLink RX3 137 yX1_takeLatest, Cond.instanceMethod yX1_takeLatest, Cond.selects RX1 yX1_takeLatest yX1_takeLatest, Cond.code yX1_takeLatest cX1_takeLatest 6 none, Cond.methodLink RX1 28 Lib.Math.min.name]
def wsL_would_r5 : List Cond := [Cond.methodLink RX1 24 yX1_unitsOf, Cond.instanceMethod yX1_unitsOf, Cond.selects RX1 yX1_unitsOf yX1_unitsOf, Cond.code yX1_unitsOf cX1_unitsOf 3 (some .int), Cond.methodLink RX1 33 yX1_lay, Cond.methodLink RX3 83 yX3_flow, Cond.instanceMethod yX3_flow, Cond.selects RX3 yX3_flow yX3_flow, Cond.code yX3_flow cX3_flow 3 none, Cond.fieldLink RX3 44 "IceLand$Land" "passing" "[I", Cond.fieldLink RX3 41 "IceLand$Land" "gain" "[I", Cond.methodLink RX3 144 yX3_givenToNext, Cond.instanceMethod yX3_givenToNext, Cond.selects RX3 yX3_givenToNext yX3_givenToNext, Cond.code yX3_givenToNext cX3_givenToNext 3 (some .int), Cond.methodLink RX3 150 yX3_givenBy, Cond.instanceMethod yX3_givenBy, Cond.selects RX3 yX3_givenBy yX3_givenBy, Cond.code yX3_givenBy cX3_givenBy 5 (some .int), Cond.constantLong RX3 153 (200), Cond.constantLong RX3 158 (2), Cond.methodLink RX3 160 Lib.MathLoose.min_long.x, Cond.static Lib.MathLoose.min_long.x, Cond.code Lib.MathLoose.min_long.x Lib.MathLoose.min_long.code 4 (some .long)]
def wsL_would_r6 : List Cond := [Cond.methodLink RX3 155 yJ9_floorDiv_f86c9, Cond.static yJ9_floorDiv_f86c9, Cond.code yJ9_floorDiv_f86c9 cJ9_floorDiv_f86c9 6 (some .long), Cond.methodLink RX3 147 yX1_carry, Cond.instanceMethod yX1_carry, Cond.selects RX1 yX1_carry yX1_carry, Cond.code yX1_carry cX1_carry 7 none, Cond.methodLink RX3 86 yX3_runOff, Cond.instanceMethod yX3_runOff, Cond.selects RX3 yX3_runOff yX3_runOff, Cond.code yX3_runOff cX3_runOff 3 none, Cond.fieldLink RX3 162 "IceLand$Sums" "toSea" "I", Cond.methodLink RX3 115 yX3_potential, Cond.instanceMethod yX3_potential, Cond.selects RX3 yX3_potential yX3_potential, Cond.code yX3_potential cX3_potential 2 (some .int), Cond.methodLink RX3 89 yX3_breakOut, Cond.instanceMethod yX3_breakOut, Cond.selects RX3 yX3_breakOut yX3_breakOut, Cond.code yX3_breakOut cX3_breakOut 3 none, Cond.fieldLink RX3 47 "IceLand$Land" "burst" "[I", Cond.methodLink RX3 165 yX3_leastIceBeside, Cond.instanceMethod yX3_leastIceBeside, Cond.selects RX3 yX3_leastIceBeside yX3_leastIceBeside]
def wsL_would_r7 : List Cond := [Cond.code yX3_leastIceBeside cX3_leastIceBeside 4 (some .int), Cond.methodLink RX3 92 yX3_calve, Cond.instanceMethod yX3_calve, Cond.selects RX3 yX3_calve yX3_calve, Cond.code yX3_calve cX3_calve 4 none, Cond.fieldLink RX3 168 "IceLand$Sums" "bergs" "I", Cond.methodLink RX3 95 yX3_moveBed, Cond.instanceMethod yX3_moveBed, Cond.selects RX3 yX3_moveBed yX3_moveBed, Cond.code yX3_moveBed cX3_moveBed 3 none, Cond.methodLink RX3 98 yX3_markFront, Cond.instanceMethod yX3_markFront, Cond.selects RX3 yX3_markFront yX3_markFront, Cond.code yX3_markFront cX3_markFront 2 none, Cond.fieldLink RX3 50 "IceLand$Land" "frontCell" "I", Cond.methodLink RX5 111 yX3_tellOf, Cond.instanceMethod yX3_tellOf, Cond.selects RX3 yX3_tellOf yX3_tellOf, Cond.code yX3_tellOf cX3_tellOf 3 (some .int), Cond.methodLink RX3 108 yX3_hasCrevasse, Cond.instanceMethod yX3_hasCrevasse, Cond.selects RX3 yX3_hasCrevasse yX3_hasCrevasse, Cond.code yX3_hasCrevasse cX3_hasCrevasse 2 (some .boolean), Cond.methodLink RX3 118 Lib.Math.abs.name]
def wsL_would_r8 : List Cond := [Cond.static Lib.Math.abs.name, Cond.code Lib.Math.abs.name Lib.Math.abs.code 1 (some .int)]
def wsL_would : List Cond := .codeWith yL_would cL_would 6 (some .int) [(0, 12, 15, 13), (0, 12, 19, 15), (0, 12, 23, 17)] :: ((wsL_would_r1 ++ (wsL_would_r2 ++ (wsL_would_r3 ++ (wsL_would_r4 ++ (wsL_would_r5 ++ (wsL_would_r6 ++ (wsL_would_r7 ++ wsL_would_r8))))))) ++ wsX50 ++ wsX30 ++ wsX10 ++ wsX40 ++ (vx_atS RX5 131 "java/lang/IndexOutOfBoundsException" ["java/lang/RuntimeException", "java/lang/Exception"]).filter goodWord ++ (vx_atS RX5 203 "java/lang/IllegalArgumentException" ["java/lang/RuntimeException", "java/lang/Exception"]).filter goodWord ++ (vx_atS RX5 58 "java/lang/IllegalStateException" ["java/lang/RuntimeException", "java/lang/Exception"]).filter goodWord)
def wsL_forecast_r1 : List Cond := [Cond.classLink RL 15 "java/lang/IllegalArgumentException", Cond.classLink RL 17 "java/lang/IllegalStateException", Cond.methodLink RL 58 yX5_forecast, Cond.instanceMethod yX5_forecast, Cond.selects RX5 yX5_forecast yX5_forecast, Cond.initialized RX5, Cond.code yX5_forecast cX5_forecast 3 (some .int), Cond.classLink RX5 54 "java/lang/IllegalStateException", Cond.initialized "java/lang/IllegalStateException", Cond.fieldLink RX5 29 "IceLand" "forecasts" "LIceLand$Forecasts;", Cond.fieldLink RX5 166 "IceLand$Forecasts" "count" "I", Cond.fieldLink RX5 16 "IceLand" "trial" "LIceLand$Land;", Cond.fieldLink RX5 41 "IceLand$Land" "core" "LIceLand$Core;", Cond.fieldLink RX5 82 "IceLand$Land" "year" "I", Cond.methodLink RX5 37 yX5_needWithin, Cond.static yX5_needWithin, Cond.code yX5_needWithin cX5_needWithin 3 none, Cond.classLink RX5 199 "java/lang/IllegalArgumentException", Cond.initialized "java/lang/IllegalArgumentException", Cond.methodLink RX5 101 yX5_needNotTooLate, Cond.instanceMethod yX5_needNotTooLate, Cond.selects RX5 yX5_needNotTooLate yX5_needNotTooLate, Cond.code yX5_needNotTooLate cX5_needNotTooLate 2 none, Cond.fieldLink RX5 10 "IceLand" "present" "LIceLand$Land;"]
def wsL_forecast_r2 : List Cond := [Cond.methodLink RX5 163 yX5_tryOut, Cond.instanceMethod yX5_tryOut, Cond.selects RX5 yX5_tryOut yX5_tryOut, Cond.code yX5_tryOut cX5_tryOut 3 none, Cond.methodLink RX5 192 yX3_becomeLike, Cond.instanceMethod yX3_becomeLike, Cond.selects RX3 yX3_becomeLike yX3_becomeLike, Cond.initialized RX3, Cond.code yX3_becomeLike cX3_becomeLike 2 none, Cond.fieldLink RX3 54 "IceLand$Land" "year" "I", Cond.fieldLink RX3 57 "IceLand$Land" "level" "I", Cond.fieldLink RX3 60 "IceLand$Land" "warmth" "I", Cond.fieldLink RX3 63 "IceLand$Land" "snow" "I", Cond.fieldLink RX3 66 "IceLand$Land" "factor" "I", Cond.fieldLink RX3 12 "IceLand$Land" "core" "LIceLand$Core;", Cond.fieldLink RX3 25 "IceLand$Land" "bed" "[I", Cond.methodLink RX3 73 arraycopyName, Cond.native arraycopyName, Cond.static arraycopyName, Cond.initialized "java/lang/System", Cond.fieldLink RX3 29 "IceLand$Land" "base" "[I", Cond.fieldLink RX3 32 "IceLand$Land" "water" "[I", Cond.fieldLink RX3 35 "IceLand$Land" "moraine" "[I", Cond.methodLink RX3 69 yX1_becomeLike]
def wsL_forecast_r3 : List Cond := [Cond.instanceMethod yX1_becomeLike, Cond.selects RX1 yX1_becomeLike yX1_becomeLike, Cond.initialized RX1, Cond.code yX1_becomeLike cX1_becomeLike 2 none, Cond.fieldLink RX1 9 "IceLand$Core" "ice" "[I", Cond.methodLink RX1 18 arraycopyName, Cond.fieldLink RX1 15 "IceLand$Core" "units" "[I", Cond.methodLink RX5 104 yX3_goThroughYear, Cond.instanceMethod yX3_goThroughYear, Cond.selects RX3 yX3_goThroughYear yX3_goThroughYear, Cond.code yX3_goThroughYear cX3_goThroughYear 2 none, Cond.methodLink RX3 79 yX3_snowOrMelt, Cond.instanceMethod yX3_snowOrMelt, Cond.selects RX3 yX3_snowOrMelt yX3_snowOrMelt, Cond.code yX3_snowOrMelt cX3_snowOrMelt 4 none, Cond.fieldLink RX3 38 "IceLand$Land" "snowed" "[I", Cond.fieldLink RX3 101 "IceLand$Core" "ice" "[I", Cond.fieldLink RX3 21 "IceLand$Land" "sums" "LIceLand$Sums;", Cond.fieldLink RX3 131 "IceLand$Sums" "fallen" "I", Cond.methodLink RX3 134 Lib.Math.min.name, Cond.static Lib.Math.min.name, Cond.initialized "java/lang/Math", Cond.code Lib.Math.min.name Lib.Math.min.code 2 (some .int), Cond.fieldLink RX3 141 "IceLand$Sums" "melted" "I"]
def wsL_forecast_r4 : List Cond := [Cond.methodLink RX3 104 yX3_surface, Cond.instanceMethod yX3_surface, Cond.selects RX3 yX3_surface yX3_surface, Cond.code yX3_surface cX3_surface 2 (some .int), Cond.methodLink RX3 123 yJ9_floorDiv_7cf53, Cond.static yJ9_floorDiv_7cf53, Cond.initialized RJ9, Cond.code yJ9_floorDiv_7cf53 cJ9_floorDiv_7cf53 3 (some .int), Cond.methodLink RX3 112 yX3_standsInSea, Cond.instanceMethod yX3_standsInSea, Cond.selects RX3 yX3_standsInSea yX3_standsInSea, Cond.code yX3_standsInSea cX3_standsInSea 2 (some .boolean), Cond.methodLink RX3 127 yX1_lay, Cond.instanceMethod yX1_lay, Cond.selects RX1 yX1_lay yX1_lay, Cond.code yX1_lay cX1_lay 4 none, Cond.methodLink RX3 137 yX1_takeLatest, Cond.instanceMethod yX1_takeLatest, Cond.selects RX1 yX1_takeLatest yX1_takeLatest, Cond.code yX1_takeLatest cX1_takeLatest 6 none, Cond.methodLink RX1 28 Lib.Math.min.name, Cond.methodLink RX1 24 yX1_unitsOf, Cond.instanceMethod yX1_unitsOf, Cond.selects RX1 yX1_unitsOf yX1_unitsOf]
def wsL_forecast_r5 : List Cond := [Cond.code yX1_unitsOf cX1_unitsOf 3 (some .int), Cond.methodLink RX1 33 yX1_lay, Cond.methodLink RX3 83 yX3_flow, Cond.instanceMethod yX3_flow, Cond.selects RX3 yX3_flow yX3_flow, Cond.code yX3_flow cX3_flow 3 none, Cond.fieldLink RX3 44 "IceLand$Land" "passing" "[I", Cond.fieldLink RX3 41 "IceLand$Land" "gain" "[I", Cond.methodLink RX3 144 yX3_givenToNext, Cond.instanceMethod yX3_givenToNext, Cond.selects RX3 yX3_givenToNext yX3_givenToNext, Cond.code yX3_givenToNext cX3_givenToNext 3 (some .int), Cond.methodLink RX3 150 yX3_givenBy, Cond.instanceMethod yX3_givenBy, Cond.selects RX3 yX3_givenBy yX3_givenBy, Cond.code yX3_givenBy cX3_givenBy 5 (some .int), Cond.constantLong RX3 153 (200), Cond.constantLong RX3 158 (2), Cond.methodLink RX3 160 Lib.MathLoose.min_long.x, Cond.static Lib.MathLoose.min_long.x, Cond.code Lib.MathLoose.min_long.x Lib.MathLoose.min_long.code 4 (some .long), Cond.methodLink RX3 155 yJ9_floorDiv_f86c9, Cond.static yJ9_floorDiv_f86c9, Cond.code yJ9_floorDiv_f86c9 cJ9_floorDiv_f86c9 6 (some .long)]
def wsL_forecast_r6 : List Cond := [Cond.methodLink RX3 147 yX1_carry, Cond.instanceMethod yX1_carry, Cond.selects RX1 yX1_carry yX1_carry, Cond.code yX1_carry cX1_carry 7 none, Cond.methodLink RX3 86 yX3_runOff, Cond.instanceMethod yX3_runOff, Cond.selects RX3 yX3_runOff yX3_runOff, Cond.code yX3_runOff cX3_runOff 3 none, Cond.fieldLink RX3 162 "IceLand$Sums" "toSea" "I", Cond.methodLink RX3 115 yX3_potential, Cond.instanceMethod yX3_potential, Cond.selects RX3 yX3_potential yX3_potential, Cond.code yX3_potential cX3_potential 2 (some .int), Cond.methodLink RX3 89 yX3_breakOut, Cond.instanceMethod yX3_breakOut, Cond.selects RX3 yX3_breakOut yX3_breakOut, Cond.code yX3_breakOut cX3_breakOut 3 none, Cond.fieldLink RX3 47 "IceLand$Land" "burst" "[I", Cond.methodLink RX3 165 yX3_leastIceBeside, Cond.instanceMethod yX3_leastIceBeside, Cond.selects RX3 yX3_leastIceBeside yX3_leastIceBeside, Cond.code yX3_leastIceBeside cX3_leastIceBeside 4 (some .int), Cond.methodLink RX3 92 yX3_calve, Cond.instanceMethod yX3_calve]
def wsL_forecast_r7 : List Cond := [Cond.selects RX3 yX3_calve yX3_calve, Cond.code yX3_calve cX3_calve 4 none, Cond.fieldLink RX3 168 "IceLand$Sums" "bergs" "I", Cond.methodLink RX3 95 yX3_moveBed, Cond.instanceMethod yX3_moveBed, Cond.selects RX3 yX3_moveBed yX3_moveBed, Cond.code yX3_moveBed cX3_moveBed 3 none, Cond.methodLink RX3 98 yX3_markFront, Cond.instanceMethod yX3_markFront, Cond.selects RX3 yX3_markFront yX3_markFront, Cond.code yX3_markFront cX3_markFront 2 none, Cond.fieldLink RX3 50 "IceLand$Land" "frontCell" "I", Cond.methodLink RX5 144 yX1_allIce, Cond.instanceMethod yX1_allIce, Cond.selects RX1 yX1_allIce yX1_allIce, Cond.code yX1_allIce cX1_allIce 3 (some .int), Cond.methodLink RX5 171 yX2_keep, Cond.instanceMethod yX2_keep, Cond.selects RX2 yX2_keep yX2_keep, Cond.initialized RX2, Cond.code yX2_keep cX2_keep 3 none, Cond.fieldLink RX2 18 "IceLand$Forecasts" "count" "I", Cond.fieldLink RX2 9 "IceLand$Forecasts" "meantYear" "[I", Cond.fieldLink RX2 15 "IceLand$Forecasts" "expected" "[I"]
def wsL_forecast : List Cond := .codeWith yL_forecast cL_forecast 4 (some .int) [(0, 9, 12, 15), (0, 9, 15, 17)] :: ((wsL_forecast_r1 ++ (wsL_forecast_r2 ++ (wsL_forecast_r3 ++ (wsL_forecast_r4 ++ (wsL_forecast_r5 ++ (wsL_forecast_r6 ++ wsL_forecast_r7)))))) ++ wsX50 ++ wsX20 ++ wsX30 ++ wsX10 ++ wsX40 ++ (vx_atS RX5 58 "java/lang/IllegalStateException" ["java/lang/RuntimeException", "java/lang/Exception"]).filter goodWord ++ (vx_atS RX5 203 "java/lang/IllegalArgumentException" ["java/lang/RuntimeException", "java/lang/Exception"]).filter goodWord)
def wsL_miss : List Cond := .codeWith yL_miss cL_miss 4 (some .int) [(0, 9, 12, 13)] :: ([.classLink RL 13 "java/lang/IndexOutOfBoundsException", .methodLink RL 61 yX5_miss, .instanceMethod yX5_miss, .selects RX5 yX5_miss yX5_miss, .initialized RX5, .code yX5_miss cX5_miss 3 (some .int), .classLink RX5 127 "java/lang/IndexOutOfBoundsException", .initialized "java/lang/IndexOutOfBoundsException", .fieldLink RX5 29 "IceLand" "forecasts" "LIceLand$Forecasts;", .fieldLink RX5 166 "IceLand$Forecasts" "count" "I", .fieldLink RX5 177 "IceLand$Forecasts" "meantYear" "[I", .fieldLink RX5 10 "IceLand" "present" "LIceLand$Land;", .fieldLink RX5 82 "IceLand$Land" "year" "I", .fieldLink RX5 180 "IceLand$Forecasts" "expected" "[I", .fieldLink RX5 22 "IceLand" "annals" "LIceLand$Annals;", .fieldLink RX5 183 "IceLand$Annals" "iceBehind" "[I", .methodLink RX5 186 Lib.Math.abs.name, .static Lib.Math.abs.name, .initialized "java/lang/Math", .code Lib.Math.abs.name Lib.Math.abs.code 1 (some .int)] ++ wsX50 ++ wsX20 ++ wsX30 ++ wsX00 ++ (vx_atS RX5 131 "java/lang/IndexOutOfBoundsException" ["java/lang/RuntimeException", "java/lang/Exception"]).filter goodWord)
def wsL_law0_r1 : List Cond := [Cond.classLink RL 8 RX5, Cond.instantiable RX5 4, Cond.initialized RX5, Cond.classLink RL 65 RX6, Cond.instantiable RX6 16, Cond.initialized RX6, Cond.arrayClass .long, Cond.methodLink RL 64 yX5_init, Cond.instanceMethod yX5_init, Cond.code yX5_init cX5_init 1 none, Cond.methodLink RX5 1 objectInit, Cond.instanceMethod objectInit, Cond.code objectInit ⟨#[0xb1]⟩ 1 none, Cond.classLink RX5 7 RX3, Cond.instantiable RX3 16, Cond.initialized RX3, Cond.fieldLink RX5 10 "IceLand" "present" "LIceLand$Land;", Cond.fieldLink RX5 16 "IceLand" "trial" "LIceLand$Land;", Cond.classLink RX5 19 RX0, Cond.instantiable RX0 7, Cond.initialized RX0, Cond.fieldLink RX5 22 "IceLand" "annals" "LIceLand$Annals;", Cond.classLink RX5 26 RX2, Cond.instantiable RX2 3]
def wsL_law0_r2 : List Cond := [Cond.initialized RX2, Cond.fieldLink RX5 29 "IceLand" "forecasts" "LIceLand$Forecasts;", Cond.methodLink RX5 9 yX3_init, Cond.instanceMethod yX3_init, Cond.code yX3_init cX3_init 2 none, Cond.methodLink RX3 3 objectInit, Cond.classLink RX3 9 RX1, Cond.instantiable RX1 2, Cond.initialized RX1, Cond.fieldLink RX3 12 "IceLand$Land" "core" "LIceLand$Core;", Cond.classLink RX3 18 RX4, Cond.instantiable RX4 5, Cond.initialized RX4, Cond.fieldLink RX3 21 "IceLand$Land" "sums" "LIceLand$Sums;", Cond.arrayClass .int, Cond.fieldLink RX3 25 "IceLand$Land" "bed" "[I", Cond.fieldLink RX3 29 "IceLand$Land" "base" "[I", Cond.fieldLink RX3 32 "IceLand$Land" "water" "[I", Cond.fieldLink RX3 35 "IceLand$Land" "moraine" "[I", Cond.fieldLink RX3 38 "IceLand$Land" "snowed" "[I", Cond.fieldLink RX3 41 "IceLand$Land" "gain" "[I", Cond.fieldLink RX3 44 "IceLand$Land" "passing" "[I", Cond.fieldLink RX3 47 "IceLand$Land" "burst" "[I", Cond.fieldLink RX3 50 "IceLand$Land" "frontCell" "I"]
def wsL_law0_r3 : List Cond := [Cond.instanceMethod yX1_init, Cond.code yX1_init cX1_init 1 none, Cond.methodLink RX1 3 objectInit, Cond.fieldLink RX1 9 "IceLand$Core" "ice" "[I", Cond.fieldLink RX1 15 "IceLand$Core" "units" "[I", Cond.instanceMethod yX4_init, Cond.code yX4_init cX4_init 1 none, Cond.methodLink RX4 1 objectInit, Cond.methodLink RX5 21 yX0_init, Cond.instanceMethod yX0_init, Cond.code yX0_init cX0_init 1 none, Cond.methodLink RX0 3 objectInit, Cond.arrayClass .boolean, Cond.fieldLink RX0 9 "IceLand$Annals" "ashFell" "[Z", Cond.fieldLink RX0 15 "IceLand$Annals" "frontOf" "[I", Cond.fieldLink RX0 19 "IceLand$Annals" "iceBehind" "[I", Cond.fieldLink RX0 22 "IceLand$Annals" "floodYear" "[I", Cond.fieldLink RX0 25 "IceLand$Annals" "floodCell" "[I", Cond.fieldLink RX0 28 "IceLand$Annals" "floodUnits" "[I", Cond.instanceMethod yX2_init, Cond.code yX2_init cX2_init 1 none, Cond.methodLink RX2 3 objectInit, Cond.fieldLink RX2 9 "IceLand$Forecasts" "meantYear" "[I", Cond.fieldLink RX2 15 "IceLand$Forecasts" "expected" "[I"]
def wsL_law0_r4 : List Cond := [Cond.methodLink RL 67 yX6_init, Cond.instanceMethod yX6_init, Cond.code yX6_init cX6_init 2 none, Cond.methodLink RX6 1 objectInit, Cond.fieldLink RX6 7 "IceLandModel" "s" "[I", Cond.fieldLink RX6 13 "IceLandModel" "kept" "[I", Cond.fieldLink RX6 16 "IceLandModel" "ash" "[Z", Cond.fieldLink RX6 20 "IceLandModel" "when" "[I", Cond.fieldLink RX6 23 "IceLandModel" "where" "[I", Cond.fieldLink RX6 26 "IceLandModel" "units" "[I", Cond.fieldLink RX6 29 "IceLandModel" "aims" "[I", Cond.fieldLink RX6 32 "IceLandModel" "noted" "[I", Cond.fieldLink RX6 35 "IceLandModel" "misses" "[I", Cond.fieldLink RX6 38 "IceLandModel" "flows" "[I", Cond.methodLink RL 68 yL_land, Cond.static yL_land, Cond.initialized RL, Cond.codeWith yL_land cL_land 5 (some .int) [(0, 10, 13, 13), (0, 10, 17, 15), (0, 10, 21, 17)], Cond.classLink RL 13 "java/lang/IndexOutOfBoundsException", Cond.classLink RL 15 "java/lang/IllegalArgumentException", Cond.classLink RL 17 "java/lang/IllegalStateException", Cond.methodLink RL 7 yX5_land, Cond.instanceMethod yX5_land, Cond.selects RX5 yX5_land yX5_land]
def wsL_law0_r5 : List Cond := [Cond.code yX5_land cX5_land 4 (some .int), Cond.classLink RX5 54 "java/lang/IllegalStateException", Cond.initialized "java/lang/IllegalStateException", Cond.fieldLink RX5 41 "IceLand$Land" "core" "LIceLand$Core;", Cond.fieldLink RX5 45 "IceLand$Core" "ice" "[I", Cond.fieldLink RX5 51 "IceLand$Land" "water" "[I", Cond.fieldLink RX5 61 "IceLand$Land" "bed" "[I", Cond.fieldLink RX5 64 "IceLand$Land" "base" "[I", Cond.methodLink RX5 33 yX5_needCell, Cond.static yX5_needCell, Cond.code yX5_needCell cX5_needCell 1 none, Cond.classLink RX5 127 "java/lang/IndexOutOfBoundsException", Cond.initialized "java/lang/IndexOutOfBoundsException", Cond.methodLink RX5 37 yX5_needWithin, Cond.static yX5_needWithin, Cond.code yX5_needWithin cX5_needWithin 3 none, Cond.classLink RX5 199 "java/lang/IllegalArgumentException", Cond.initialized "java/lang/IllegalArgumentException", Cond.methodLink RL 73 yX6_land, Cond.instanceMethod yX6_land, Cond.selects RX6 yX6_land yX6_land, Cond.code yX6_land cX6_land 5 (some .int), Cond.methodLink RX6 56 yX6_isCell, Cond.static yX6_isCell]
def wsL_law0_r6 : List Cond := [Cond.code yX6_isCell cX6_isCell 1 (some .boolean), Cond.methodLink RX6 45 yX6_in, Cond.static yX6_in, Cond.code yX6_in cX6_in 3 (some .boolean), Cond.methodLink RX6 49 yX6_iceOf, Cond.instanceMethod yX6_iceOf, Cond.selects RX6 yX6_iceOf yX6_iceOf, Cond.code yX6_iceOf cX6_iceOf 4 (some .int), Cond.methodLink RX6 60 yX6_asked__, Cond.instanceMethod yX6_asked__, Cond.selects RX6 yX6_asked__ yX6_asked__, Cond.code yX6_asked__ cX6_asked__ 4 (some .boolean), Cond.fieldLink RX6 41 "IceLandModel" "thrown" "I", Cond.methodLink RL 74 yX6_thrown, Cond.instanceMethod yX6_thrown, Cond.selects RX6 yX6_thrown yX6_thrown, Cond.code yX6_thrown cX6_thrown 1 (some .int), Cond.methodLink RL 78 yL_sea, Cond.static yL_sea, Cond.codeWith yL_sea cL_sea 4 (some .int) [(0, 9, 12, 15)], Cond.methodLink RL 19 yX5_sea, Cond.instanceMethod yX5_sea, Cond.selects RX5 yX5_sea yX5_sea, Cond.code yX5_sea cX5_sea 3 (some .int)]
def wsL_law0_r7 : List Cond := [Cond.fieldLink RX5 67 "IceLand$Land" "level" "I", Cond.methodLink RL 81 yX6_sea, Cond.instanceMethod yX6_sea, Cond.selects RX6 yX6_sea yX6_sea, Cond.code yX6_sea cX6_sea 3 (some .int), Cond.fieldLink RX6 53 "IceLandModel" "level" "I", Cond.methodLink RX6 64 yX6_asked, Cond.instanceMethod yX6_asked, Cond.selects RX6 yX6_asked yX6_asked, Cond.code yX6_asked cX6_asked 2 (some .boolean), Cond.methodLink RL 82 yL_climate, Cond.static yL_climate, Cond.codeWith yL_climate cL_climate 5 (some .int) [(0, 7, 10, 15)], Cond.methodLink RL 23 yX5_climate, Cond.instanceMethod yX5_climate, Cond.selects RX5 yX5_climate yX5_climate, Cond.code yX5_climate cX5_climate 4 none, Cond.fieldLink RX5 71 "IceLand$Land" "warmth" "I", Cond.fieldLink RX5 74 "IceLand$Land" "snow" "I", Cond.fieldLink RX5 77 "IceLand$Land" "factor" "I", Cond.methodLink RL 85 yX6_climate, Cond.instanceMethod yX6_climate, Cond.selects RX6 yX6_climate yX6_climate, Cond.code yX6_climate cX6_climate 4 none]
def wsL_law0_r8 : List Cond := [Cond.fieldLink RX6 67 "IceLandModel" "warmth" "I", Cond.fieldLink RX6 70 "IceLandModel" "snow" "I", Cond.fieldLink RX6 73 "IceLandModel" "factor" "I", Cond.methodLink RL 86 yL_ice, Cond.static yL_ice, Cond.codeWith yL_ice cL_ice 5 (some .int) [(0, 10, 13, 13), (0, 10, 17, 15), (0, 10, 21, 17)], Cond.methodLink RL 27 yX5_ice, Cond.instanceMethod yX5_ice, Cond.selects RX5 yX5_ice yX5_ice, Cond.code yX5_ice cX5_ice 3 (some .int), Cond.fieldLink RX5 82 "IceLand$Land" "year" "I", Cond.fieldLink RX5 88 "IceLand$Land" "sums" "LIceLand$Sums;", Cond.fieldLink RX5 92 "IceLand$Sums" "told" "I", Cond.methodLink RX5 85 yX1_lay, Cond.instanceMethod yX1_lay, Cond.selects RX1 yX1_lay yX1_lay, Cond.code yX1_lay cX1_lay 4 none, Cond.methodLink RL 88 yX6_ice, Cond.instanceMethod yX6_ice, Cond.selects RX6 yX6_ice yX6_ice, Cond.code yX6_ice cX6_ice 5 (some .int), Cond.methodLink RL 89 yX5_ash, Cond.instanceMethod yX5_ash, Cond.selects RX5 yX5_ash yX5_ash]
def wsL_law0_r9 : List Cond := [Cond.code yX5_ash cX5_ash 2 (some .boolean), Cond.fieldLink RX5 97 "IceLand$Annals" "ashFell" "[Z", Cond.methodLink RL 93 yX6_ash, Cond.instanceMethod yX6_ash, Cond.selects RX6 yX6_ash yX6_ash, Cond.code yX6_ash cX6_ash 2 (some .boolean), Cond.methodLink RL 94 yL_pass, Cond.static yL_pass, Cond.codeWith yL_pass cL_pass 4 (some .int) [(0, 9, 12, 15), (0, 9, 15, 17)], Cond.methodLink RL 30 yX5_pass, Cond.instanceMethod yX5_pass, Cond.selects RX5 yX5_pass yX5_pass, Cond.code yX5_pass cX5_pass 3 (some .int), Cond.methodLink RX5 101 yX5_needNotTooLate, Cond.instanceMethod yX5_needNotTooLate, Cond.selects RX5 yX5_needNotTooLate yX5_needNotTooLate, Cond.code yX5_needNotTooLate cX5_needNotTooLate 2 none, Cond.methodLink RX5 104 yX3_goThroughYear, Cond.instanceMethod yX3_goThroughYear, Cond.selects RX3 yX3_goThroughYear yX3_goThroughYear, Cond.code yX3_goThroughYear cX3_goThroughYear 2 none, Cond.fieldLink RX3 54 "IceLand$Land" "year" "I", Cond.methodLink RX3 79 yX3_snowOrMelt, Cond.instanceMethod yX3_snowOrMelt]
def wsL_law0_r10 : List Cond := [Cond.selects RX3 yX3_snowOrMelt yX3_snowOrMelt, Cond.code yX3_snowOrMelt cX3_snowOrMelt 4 none, Cond.fieldLink RX3 60 "IceLand$Land" "warmth" "I", Cond.fieldLink RX3 101 "IceLand$Core" "ice" "[I", Cond.fieldLink RX3 63 "IceLand$Land" "snow" "I", Cond.fieldLink RX3 131 "IceLand$Sums" "fallen" "I", Cond.fieldLink RX3 66 "IceLand$Land" "factor" "I", Cond.methodLink RX3 134 Lib.Math.min.name, Cond.static Lib.Math.min.name, Cond.initialized "java/lang/Math", Cond.code Lib.Math.min.name Lib.Math.min.code 2 (some .int), Cond.fieldLink RX3 141 "IceLand$Sums" "melted" "I", Cond.methodLink RX3 104 yX3_surface, Cond.instanceMethod yX3_surface, Cond.selects RX3 yX3_surface yX3_surface, Cond.code yX3_surface cX3_surface 2 (some .int), Cond.methodLink RX3 123 yJ9_floorDiv_7cf53, Cond.static yJ9_floorDiv_7cf53, Cond.initialized RJ9, Cond.code yJ9_floorDiv_7cf53 cJ9_floorDiv_7cf53 3 (some .int), Cond.methodLink RX3 112 yX3_standsInSea, Cond.instanceMethod yX3_standsInSea, Cond.selects RX3 yX3_standsInSea yX3_standsInSea, Cond.code yX3_standsInSea cX3_standsInSea 2 (some .boolean)]
def wsL_law0_r11 : List Cond := [Cond.fieldLink RX3 57 "IceLand$Land" "level" "I", Cond.methodLink RX3 127 yX1_lay, Cond.methodLink RX3 137 yX1_takeLatest, Cond.instanceMethod yX1_takeLatest, Cond.selects RX1 yX1_takeLatest yX1_takeLatest, Cond.code yX1_takeLatest cX1_takeLatest 6 none, Cond.methodLink RX1 28 Lib.Math.min.name, Cond.methodLink RX1 24 yX1_unitsOf, Cond.instanceMethod yX1_unitsOf, Cond.selects RX1 yX1_unitsOf yX1_unitsOf, Cond.code yX1_unitsOf cX1_unitsOf 3 (some .int), Cond.methodLink RX1 33 yX1_lay, Cond.methodLink RX3 83 yX3_flow, Cond.instanceMethod yX3_flow, Cond.selects RX3 yX3_flow yX3_flow, Cond.code yX3_flow cX3_flow 3 none, Cond.methodLink RX3 144 yX3_givenToNext, Cond.instanceMethod yX3_givenToNext, Cond.selects RX3 yX3_givenToNext yX3_givenToNext, Cond.code yX3_givenToNext cX3_givenToNext 3 (some .int), Cond.methodLink RX3 150 yX3_givenBy, Cond.instanceMethod yX3_givenBy, Cond.selects RX3 yX3_givenBy yX3_givenBy, Cond.code yX3_givenBy cX3_givenBy 5 (some .int)]
def wsL_law0_r12 : List Cond := [Cond.constantLong RX3 153 (200), Cond.constantLong RX3 158 (2), Cond.methodLink RX3 160 Lib.MathLoose.min_long.x, Cond.static Lib.MathLoose.min_long.x, Cond.code Lib.MathLoose.min_long.x Lib.MathLoose.min_long.code 4 (some .long), Cond.methodLink RX3 155 yJ9_floorDiv_f86c9, Cond.static yJ9_floorDiv_f86c9, Cond.code yJ9_floorDiv_f86c9 cJ9_floorDiv_f86c9 6 (some .long), Cond.methodLink RX3 147 yX1_carry, Cond.instanceMethod yX1_carry, Cond.selects RX1 yX1_carry yX1_carry, Cond.code yX1_carry cX1_carry 7 none, Cond.methodLink RX3 86 yX3_runOff, Cond.instanceMethod yX3_runOff, Cond.selects RX3 yX3_runOff yX3_runOff, Cond.code yX3_runOff cX3_runOff 3 none, Cond.fieldLink RX3 162 "IceLand$Sums" "toSea" "I", Cond.methodLink RX3 115 yX3_potential, Cond.instanceMethod yX3_potential, Cond.selects RX3 yX3_potential yX3_potential, Cond.code yX3_potential cX3_potential 2 (some .int), Cond.methodLink RX3 89 yX3_breakOut, Cond.instanceMethod yX3_breakOut, Cond.selects RX3 yX3_breakOut yX3_breakOut]
def wsL_law0_r13 : List Cond := [Cond.code yX3_breakOut cX3_breakOut 3 none, Cond.methodLink RX3 165 yX3_leastIceBeside, Cond.instanceMethod yX3_leastIceBeside, Cond.selects RX3 yX3_leastIceBeside yX3_leastIceBeside, Cond.code yX3_leastIceBeside cX3_leastIceBeside 4 (some .int), Cond.methodLink RX3 92 yX3_calve, Cond.instanceMethod yX3_calve, Cond.selects RX3 yX3_calve yX3_calve, Cond.code yX3_calve cX3_calve 4 none, Cond.fieldLink RX3 168 "IceLand$Sums" "bergs" "I", Cond.methodLink RX3 95 yX3_moveBed, Cond.instanceMethod yX3_moveBed, Cond.selects RX3 yX3_moveBed yX3_moveBed, Cond.code yX3_moveBed cX3_moveBed 3 none, Cond.methodLink RX3 98 yX3_markFront, Cond.instanceMethod yX3_markFront, Cond.selects RX3 yX3_markFront yX3_markFront, Cond.code yX3_markFront cX3_markFront 2 none, Cond.methodLink RX5 107 yX0_note, Cond.instanceMethod yX0_note, Cond.selects RX0 yX0_note yX0_note, Cond.code yX0_note cX0_note 3 none, Cond.fieldLink RX0 31 "IceLand$Land" "year" "I", Cond.fieldLink RX0 37 "IceLand$Land" "frontCell" "I"]
def wsL_law0_r14 : List Cond := [Cond.fieldLink RX0 40 "IceLand$Land" "core" "LIceLand$Core;", Cond.fieldLink RX0 50 "IceLand$Land" "burst" "[I", Cond.fieldLink RX0 53 "IceLand$Annals" "floodCount" "I", Cond.methodLink RX0 44 yX1_allIce, Cond.instanceMethod yX1_allIce, Cond.selects RX1 yX1_allIce yX1_allIce, Cond.code yX1_allIce cX1_allIce 3 (some .int), Cond.methodLink RL 96 yX6_pass, Cond.instanceMethod yX6_pass, Cond.selects RX6 yX6_pass yX6_pass, Cond.code yX6_pass cX6_pass 6 (some .int), Cond.fieldLink RX6 120 "IceLandModel" "forecasts" "I", Cond.methodLink RX6 113 yX6_asked_, Cond.instanceMethod yX6_asked_, Cond.selects RX6 yX6_asked_ yX6_asked_, Cond.code yX6_asked_ cX6_asked_ 3 (some .boolean), Cond.methodLink RX6 116 yX6_passes, Cond.instanceMethod yX6_passes, Cond.selects RX6 yX6_passes yX6_passes, Cond.code yX6_passes cX6_passes 3 none, Cond.methodLink RX6 96 yX6_snows, Cond.instanceMethod yX6_snows, Cond.selects RX6 yX6_snows yX6_snows, Cond.code yX6_snows cX6_snows 8 none]
def wsL_law0_r15 : List Cond := [Cond.methodLink RX6 76 yX6_surfaceOf, Cond.instanceMethod yX6_surfaceOf, Cond.selects RX6 yX6_surfaceOf yX6_surfaceOf, Cond.code yX6_surfaceOf cX6_surfaceOf 2 (some .int), Cond.methodLink RX6 79 yX6_isInSea, Cond.instanceMethod yX6_isInSea, Cond.selects RX6 yX6_isInSea yX6_isInSea, Cond.code yX6_isInSea cX6_isInSea 2 (some .boolean), Cond.methodLink RX6 99 yX6_flows, Cond.instanceMethod yX6_flows, Cond.selects RX6 yX6_flows yX6_flows, Cond.code yX6_flows cX6_flows 7 none, Cond.methodLink RX6 86 yX6_flowOf, Cond.instanceMethod yX6_flowOf, Cond.selects RX6 yX6_flowOf yX6_flowOf, Cond.code yX6_flowOf cX6_flowOf 6 (some .int), Cond.constantLong RX6 82 (200), Cond.constantLong RX6 84 (2), Cond.methodLink RX6 101 yX6_runs, Cond.instanceMethod yX6_runs, Cond.selects RX6 yX6_runs yX6_runs, Cond.code yX6_runs cX6_runs 5 none, Cond.methodLink RX6 90 yX6_potentialOf, Cond.instanceMethod yX6_potentialOf]
def wsL_law0_r16 : List Cond := [Cond.selects RX6 yX6_potentialOf yX6_potentialOf, Cond.code yX6_potentialOf cX6_potentialOf 2 (some .int), Cond.methodLink RX6 104 yX6_breaks, Cond.instanceMethod yX6_breaks, Cond.selects RX6 yX6_breaks yX6_breaks, Cond.code yX6_breaks cX6_breaks 4 none, Cond.methodLink RX6 93 yX6_least, Cond.instanceMethod yX6_least, Cond.selects RX6 yX6_least yX6_least, Cond.code yX6_least cX6_least 4 (some .int), Cond.methodLink RX6 107 yX6_calves, Cond.instanceMethod yX6_calves, Cond.selects RX6 yX6_calves yX6_calves, Cond.code yX6_calves cX6_calves 5 none, Cond.methodLink RX6 110 yX6_ends, Cond.instanceMethod yX6_ends, Cond.selects RX6 yX6_ends yX6_ends, Cond.code yX6_ends cX6_ends 5 none, Cond.methodLink RX6 123 yX6_allIce, Cond.instanceMethod yX6_allIce, Cond.selects RX6 yX6_allIce yX6_allIce, Cond.code yX6_allIce cX6_allIce 3 (some .int), Cond.methodLink RL 97 yL_cellIs, Cond.static yL_cellIs]
def wsL_law0_r17 : List Cond := [Cond.codeWith yL_cellIs cL_cellIs 5 (some .int) [(0, 10, 13, 13), (0, 10, 17, 15)], Cond.methodLink RL 33 yX5_cellIs, Cond.instanceMethod yX5_cellIs, Cond.selects RX5 yX5_cellIs yX5_cellIs, Cond.code yX5_cellIs cX5_cellIs 3 (some .int), Cond.methodLink RX5 111 yX3_tellOf, Cond.instanceMethod yX3_tellOf, Cond.selects RX3 yX3_tellOf yX3_tellOf, Cond.code yX3_tellOf cX3_tellOf 3 (some .int), Cond.methodLink RX3 108 yX3_hasCrevasse, Cond.instanceMethod yX3_hasCrevasse, Cond.selects RX3 yX3_hasCrevasse yX3_hasCrevasse, Cond.code yX3_hasCrevasse cX3_hasCrevasse 2 (some .boolean), Cond.methodLink RX3 118 Lib.Math.abs.name, Cond.static Lib.Math.abs.name, Cond.code Lib.Math.abs.name Lib.Math.abs.code 1 (some .int), Cond.methodLink RL 99 yX6_cellIs, Cond.instanceMethod yX6_cellIs, Cond.selects RX6 yX6_cellIs yX6_cellIs, Cond.code yX6_cellIs cX6_cellIs 3 (some .int), Cond.methodLink RX6 127 yX6_tells, Cond.instanceMethod yX6_tells, Cond.selects RX6 yX6_tells yX6_tells, Cond.code yX6_tells cX6_tells 5 (some .int)]
def wsL_law0_r18 : List Cond := [Cond.methodLink RL 100 yL_layer, Cond.static yL_layer, Cond.codeWith yL_layer cL_layer 5 (some .int) [(0, 10, 13, 13), (0, 10, 17, 15)], Cond.methodLink RL 36 yX5_layer, Cond.instanceMethod yX5_layer, Cond.selects RX5 yX5_layer yX5_layer, Cond.code yX5_layer cX5_layer 3 (some .int), Cond.methodLink RX5 115 yX1_unitsOf, Cond.methodLink RL 102 yX6_layer, Cond.instanceMethod yX6_layer, Cond.selects RX6 yX6_layer yX6_layer, Cond.code yX6_layer cX6_layer 3 (some .int), Cond.methodLink RL 103 yL_yearAt, Cond.static yL_yearAt, Cond.codeWith yL_yearAt cL_yearAt 5 (some .int) [(0, 10, 13, 13), (0, 10, 17, 15)], Cond.methodLink RL 39 yX5_yearAt, Cond.instanceMethod yX5_yearAt, Cond.selects RX5 yX5_yearAt yX5_yearAt, Cond.code yX5_yearAt cX5_yearAt 3 (some .int), Cond.constant RX5 120 (2147483647), Cond.methodLink RX5 121 yX1_yearBelow, Cond.instanceMethod yX1_yearBelow, Cond.selects RX1 yX1_yearBelow yX1_yearBelow, Cond.code yX1_yearBelow cX1_yearBelow 6 (some .int)]
def wsL_law0_r19 : List Cond := [Cond.methodLink RL 105 yX6_yearAt, Cond.instanceMethod yX6_yearAt, Cond.selects RX6 yX6_yearAt yX6_yearAt, Cond.code yX6_yearAt cX6_yearAt 5 (some .int), Cond.methodLink RL 106 yL_common, Cond.static yL_common, Cond.codeWith yL_common cL_common 5 (some .int) [(0, 10, 13, 13)], Cond.methodLink RL 42 yX5_common, Cond.instanceMethod yX5_common, Cond.selects RX5 yX5_common yX5_common, Cond.code yX5_common cX5_common 5 (some .int), Cond.methodLink RL 108 yX6_common, Cond.instanceMethod yX6_common, Cond.selects RX6 yX6_common yX6_common, Cond.code yX6_common cX6_common 5 (some .int), Cond.methodLink RL 109 yX5_floods, Cond.instanceMethod yX5_floods, Cond.selects RX5 yX5_floods yX5_floods, Cond.code yX5_floods cX5_floods 1 (some .int), Cond.fieldLink RX5 124 "IceLand$Annals" "floodCount" "I", Cond.methodLink RL 112 yX6_floods, Cond.instanceMethod yX6_floods, Cond.selects RX6 yX6_floods yX6_floods, Cond.code yX6_floods cX6_floods 1 (some .int)]
def wsL_law0_r20 : List Cond := [Cond.methodLink RL 113 yL_flood, Cond.static yL_flood, Cond.codeWith yL_flood cL_flood 5 (some .int) [(0, 10, 13, 13), (0, 10, 17, 15)], Cond.methodLink RL 45 yX5_flood, Cond.instanceMethod yX5_flood, Cond.selects RX5 yX5_flood yX5_flood, Cond.code yX5_flood cX5_flood 3 (some .int), Cond.fieldLink RX5 132 "IceLand$Annals" "floodYear" "[I", Cond.fieldLink RX5 135 "IceLand$Annals" "floodCell" "[I", Cond.fieldLink RX5 138 "IceLand$Annals" "floodUnits" "[I", Cond.methodLink RL 115 yX6_flood, Cond.instanceMethod yX6_flood, Cond.selects RX6 yX6_flood yX6_flood, Cond.code yX6_flood cX6_flood 3 (some .int), Cond.methodLink RL 116 yL_front, Cond.static yL_front, Cond.codeWith yL_front cL_front 4 (some .int) [(0, 9, 12, 15)], Cond.methodLink RL 48 yX5_front, Cond.instanceMethod yX5_front, Cond.selects RX5 yX5_front yX5_front, Cond.code yX5_front cX5_front 2 (some .int), Cond.fieldLink RX5 141 "IceLand$Annals" "frontOf" "[I", Cond.methodLink RL 118 yX6_front, Cond.instanceMethod yX6_front]
def wsL_law0_r21 : List Cond := [Cond.selects RX6 yX6_front yX6_front, Cond.code yX6_front cX6_front 2 (some .int), Cond.methodLink RL 119 yL_total, Cond.static yL_total, Cond.codeWith yL_total cL_total 4 (some .int) [(0, 9, 12, 15)], Cond.methodLink RL 51 yX5_total, Cond.instanceMethod yX5_total, Cond.selects RX5 yX5_total yX5_total, Cond.code yX5_total cX5_total 2 (some .int), Cond.fieldLink RX5 151 "IceLand$Sums" "toSea" "I", Cond.fieldLink RX5 154 "IceLand$Sums" "bergs" "I", Cond.fieldLink RX5 157 "IceLand$Sums" "fallen" "I", Cond.methodLink RX5 144 yX1_allIce, Cond.methodLink RX5 148 yX3_allWater, Cond.instanceMethod yX3_allWater, Cond.selects RX3 yX3_allWater yX3_allWater, Cond.code yX3_allWater cX3_allWater 3 (some .int), Cond.methodLink RL 121 yX6_total, Cond.instanceMethod yX6_total, Cond.selects RX6 yX6_total yX6_total, Cond.code yX6_total cX6_total 4 (some .int), Cond.methodLink RL 122 yX5_iceAnew, Cond.instanceMethod yX5_iceAnew, Cond.selects RX5 yX5_iceAnew yX5_iceAnew]
def wsL_law0_r22 : List Cond := [Cond.code yX5_iceAnew cX5_iceAnew 2 (some .int), Cond.fieldLink RX5 160 "IceLand$Sums" "melted" "I", Cond.methodLink RL 125 yX6_iceAnew, Cond.instanceMethod yX6_iceAnew, Cond.selects RX6 yX6_iceAnew yX6_iceAnew, Cond.code yX6_iceAnew cX6_iceAnew 1 (some .int), Cond.methodLink RL 126 yL_would, Cond.static yL_would, Cond.codeWith yL_would cL_would 6 (some .int) [(0, 12, 15, 13), (0, 12, 19, 15), (0, 12, 23, 17)], Cond.methodLink RL 54 yX5_would, Cond.instanceMethod yX5_would, Cond.selects RX5 yX5_would yX5_would, Cond.code yX5_would cX5_would 4 (some .int), Cond.methodLink RX5 163 yX5_tryOut, Cond.instanceMethod yX5_tryOut, Cond.selects RX5 yX5_tryOut yX5_tryOut, Cond.code yX5_tryOut cX5_tryOut 3 none, Cond.methodLink RX5 192 yX3_becomeLike, Cond.instanceMethod yX3_becomeLike, Cond.selects RX3 yX3_becomeLike yX3_becomeLike, Cond.code yX3_becomeLike cX3_becomeLike 2 none, Cond.methodLink RX3 73 arraycopyName, Cond.native arraycopyName, Cond.static arraycopyName]
def wsL_law0_r23 : List Cond := [Cond.initialized "java/lang/System", Cond.methodLink RX3 69 yX1_becomeLike, Cond.instanceMethod yX1_becomeLike, Cond.selects RX1 yX1_becomeLike yX1_becomeLike, Cond.code yX1_becomeLike cX1_becomeLike 2 none, Cond.methodLink RX1 18 arraycopyName, Cond.methodLink RL 129 yX6_would, Cond.instanceMethod yX6_would, Cond.selects RX6 yX6_would yX6_would, Cond.code yX6_would cX6_would 6 (some .int), Cond.methodLink RX6 130 yX6_keeps, Cond.instanceMethod yX6_keeps, Cond.selects RX6 yX6_keeps yX6_keeps, Cond.code yX6_keeps cX6_keeps 4 none, Cond.methodLink RL 130 yL_forecast, Cond.static yL_forecast, Cond.codeWith yL_forecast cL_forecast 4 (some .int) [(0, 9, 12, 15), (0, 9, 15, 17)], Cond.methodLink RL 58 yX5_forecast, Cond.instanceMethod yX5_forecast, Cond.selects RX5 yX5_forecast yX5_forecast, Cond.code yX5_forecast cX5_forecast 3 (some .int), Cond.fieldLink RX5 166 "IceLand$Forecasts" "count" "I", Cond.methodLink RX5 171 yX2_keep, Cond.instanceMethod yX2_keep]
def wsL_law0_r24 : List Cond := [Cond.selects RX2 yX2_keep yX2_keep, Cond.code yX2_keep cX2_keep 3 none, Cond.fieldLink RX2 18 "IceLand$Forecasts" "count" "I", Cond.methodLink RL 132 yX6_forecast, Cond.instanceMethod yX6_forecast, Cond.selects RX6 yX6_forecast yX6_forecast, Cond.code yX6_forecast cX6_forecast 3 (some .int), Cond.methodLink RL 133 yL_miss, Cond.static yL_miss, Cond.codeWith yL_miss cL_miss 4 (some .int) [(0, 9, 12, 13)], Cond.methodLink RL 61 yX5_miss, Cond.instanceMethod yX5_miss, Cond.selects RX5 yX5_miss yX5_miss, Cond.code yX5_miss cX5_miss 3 (some .int), Cond.fieldLink RX5 177 "IceLand$Forecasts" "meantYear" "[I", Cond.fieldLink RX5 180 "IceLand$Forecasts" "expected" "[I", Cond.fieldLink RX5 183 "IceLand$Annals" "iceBehind" "[I", Cond.methodLink RX5 186 Lib.Math.abs.name, Cond.methodLink RL 135 yX6_miss, Cond.instanceMethod yX6_miss, Cond.selects RX6 yX6_miss yX6_miss, Cond.code yX6_miss cX6_miss 2 (some .int)]
def wsL_law0 : List Cond := (wsL_law0_r1 ++ (wsL_law0_r2 ++ (wsL_law0_r3 ++ (wsL_law0_r4 ++ (wsL_law0_r5 ++ (wsL_law0_r6 ++ (wsL_law0_r7 ++ (wsL_law0_r8 ++ (wsL_law0_r9 ++ (wsL_law0_r10 ++ (wsL_law0_r11 ++ (wsL_law0_r12 ++ (wsL_law0_r13 ++ (wsL_law0_r14 ++ (wsL_law0_r15 ++ (wsL_law0_r16 ++ (wsL_law0_r17 ++ (wsL_law0_r18 ++ (wsL_law0_r19 ++ (wsL_law0_r20 ++ (wsL_law0_r21 ++ (wsL_law0_r22 ++ (wsL_law0_r23 ++ wsL_law0_r24))))))))))))))))))))))) ++ wsX50 ++ wsX60 ++ wsX30 ++ wsX00 ++ wsX20 ++ wsX10 ++ wsX40 ++ ([] : List Cond)
def wsL_law : List Cond := wsL_law0 ++ (vx_atS RX5 58 "java/lang/IllegalStateException" ["java/lang/RuntimeException", "java/lang/Exception"]).filter goodWord ++ (vx_atS RX5 131 "java/lang/IndexOutOfBoundsException" ["java/lang/RuntimeException", "java/lang/Exception"]).filter goodWord ++ (vx_atS RX5 203 "java/lang/IllegalArgumentException" ["java/lang/RuntimeException", "java/lang/Exception"]).filter goodWord
theorem inAt {big ws : List Cond} (ps : List Nat) (hp : ws = ps.filterMap (fun i => big[i]?)) : ∀ w ∈ ws, w ∈ big := by
  intro w hw
  rw [hp] at hw
  obtain ⟨i, -, hi⟩ := List.mem_filterMap.mp hw
  exact List.mem_of_getElem? hi
set_option maxRecDepth 20000 in
theorem wsL_law0_r1_in : ∀ w ∈ wsL_law0_r1, w ∈ lw_tbl := by decide +kernel
set_option maxRecDepth 20000 in
theorem wsL_law0_r2_in : ∀ w ∈ wsL_law0_r2, w ∈ lw_tbl := inAt [42, 229, 62, 63, 64, 65, 66, 67, 39, 119, 82, 83, 40, 122, 81, 124, 126, 128, 130, 131, 132, 133, 134, 136] (by decide +kernel)
set_option maxRecDepth 20000 in
theorem wsL_law0_r3_in : ∀ w ∈ wsL_law0_r3, w ∈ lw_tbl := inAt [69, 70, 71, 72, 75, 85, 86, 87, 173, 174, 175, 176, 206, 177, 179, 181, 183, 185, 187, 210, 211, 212, 213, 215] (by decide +kernel)
set_option maxRecDepth 20000 in
theorem wsL_law0_r4_in : ∀ w ∈ wsL_law0_r4, w ∈ lw_tbl := inAt [616, 617, 618, 619, 625, 626, 627, 628, 629, 630, 632, 633, 634, 635, 251, 252, 36, 253, 254, 255, 256, 257, 258, 259] (by decide +kernel)
set_option maxRecDepth 20000 in
theorem wsL_law0_r5_in : ∀ w ∈ wsL_law0_r5, w ∈ lw_tbl := inAt [260, 351, 49, 120, 73, 129, 125, 127, 261, 262, 263, 264, 47, 332, 333, 334, 335, 48, 673, 674, 675, 676, 677, 678] (by decide +kernel)
set_option maxRecDepth 20000 in
theorem wsL_law0_r6_in : ∀ w ∈ wsL_law0_r6, w ∈ lw_tbl := inAt [679, 680, 681, 682, 683, 685, 17, 686, 687, 689, 18, 690, 620, 669, 670, 671, 672, 367, 368, 369, 370, 371, 372, 373] (by decide +kernel)
set_option maxRecDepth 20000 in
theorem wsL_law0_r7_in : ∀ w ∈ wsL_law0_r7, w ∈ lw_tbl := inAt [112, 691, 692, 693, 694, 621, 695, 697, 19, 698, 374, 375, 376, 377, 378, 379, 380, 114, 116, 118, 699, 700, 701, 702] (by decide +kernel)
set_option maxRecDepth 20000 in
theorem wsL_law0_r8_in : ∀ w ∈ wsL_law0_r8, w ∈ lw_tbl := inAt [622, 623, 624, 381, 382, 383, 384, 385, 386, 387, 110, 123, 90, 389, 390, 391, 392, 703, 704, 705, 706, 239, 240, 241] (by decide +kernel)
set_option maxRecDepth 20000 in
theorem wsL_law0_r9_in : ∀ w ∈ wsL_law0_r9, w ∈ lw_tbl := inAt [242, 178, 707, 708, 709, 710, 393, 394, 395, 396, 397, 398, 399, 400, 402, 1, 403, 405, 406, 407, 408, 108, 409, 411] (by decide +kernel)
set_option maxRecDepth 20000 in
theorem wsL_law0_r10_in : ∀ w ∈ wsL_law0_r10, w ∈ lw_tbl := inAt [2, 412, 113, 74, 115, 88, 117, 425, 426, 50, 427, 91, 413, 415, 3, 416, 417, 418, 50, 419, 420, 422, 4, 423] (by decide +kernel)
set_option maxRecDepth 20000 in
theorem wsL_law0_r11_in : ∀ w ∈ wsL_law0_r11, w ∈ lw_tbl := inAt [111, 424, 428, 429, 430, 431, 436, 432, 433, 434, 435, 437, 438, 440, 5, 441, 442, 444, 6, 445, 446, 448, 7, 449] (by decide +kernel)
set_option maxRecDepth 20000 in
theorem wsL_law0_r12_in : ∀ w ∈ wsL_law0_r12, w ∈ lw_tbl := inAt [450, 454, 455, 456, 457, 451, 452, 453, 458, 459, 460, 461, 462, 464, 8, 465, 93, 466, 468, 9, 469, 470, 472, 10] (by decide +kernel)
set_option maxRecDepth 20000 in
theorem wsL_law0_r13_in : ∀ w ∈ wsL_law0_r13, w ∈ lw_tbl := inAt [473, 474, 476, 11, 477, 478, 480, 12, 481, 96, 482, 484, 13, 485, 486, 488, 14, 489, 490, 491, 492, 493, 109, 137] (by decide +kernel)
set_option maxRecDepth 20000 in
theorem wsL_law0_r14_in : ∀ w ∈ wsL_law0_r14, w ∈ lw_tbl := inAt [121, 135, 189, 494, 495, 496, 497, 711, 712, 713, 714, 631, 715, 717, 20, 718, 719, 721, 21, 722, 723, 725, 22, 726] (by decide +kernel)
set_option maxRecDepth 20000 in
theorem wsL_law0_r15_in : ∀ w ∈ wsL_law0_r15, w ∈ lw_tbl := inAt [727, 729, 23, 730, 731, 733, 24, 734, 735, 737, 25, 738, 739, 741, 26, 742, 743, 744, 745, 747, 27, 748, 749, 751] (by decide +kernel)
set_option maxRecDepth 20000 in
theorem wsL_law0_r16_in : ∀ w ∈ wsL_law0_r16, w ∈ lw_tbl := inAt [28, 752, 753, 755, 29, 756, 757, 759, 30, 760, 761, 763, 31, 764, 765, 767, 32, 768, 769, 771, 33, 772, 498, 499] (by decide +kernel)
set_option maxRecDepth 20000 in
theorem wsL_law0_r17_in : ∀ w ∈ wsL_law0_r17, w ∈ lw_tbl := inAt [500, 501, 502, 503, 504, 505, 506, 507, 508, 509, 511, 15, 512, 513, 514, 515, 773, 774, 775, 776, 777, 779, 34, 780] (by decide +kernel)
set_option maxRecDepth 20000 in
theorem wsL_law0_r18_in : ∀ w ∈ wsL_law0_r18, w ∈ lw_tbl := by decide +kernel
set_option maxRecDepth 20000 in
theorem wsL_law0_r19_in : ∀ w ∈ wsL_law0_r19, w ∈ lw_tbl := inAt [785, 786, 787, 788, 536, 537, 538, 539, 540, 541, 542, 789, 790, 791, 792, 243, 244, 245, 246, 190, 793, 794, 795, 796] (by decide +kernel)
set_option maxRecDepth 20000 in
theorem wsL_law0_r20_in : ∀ w ∈ wsL_law0_r20, w ∈ lw_tbl := inAt [543, 544, 545, 546, 547, 548, 549, 184, 186, 188, 797, 798, 799, 800, 551, 552, 553, 554, 555, 556, 557, 180, 801, 802] (by decide +kernel)
set_option maxRecDepth 20000 in
theorem wsL_law0_r21_in : ∀ w ∈ wsL_law0_r21, w ∈ lw_tbl := inAt [803, 804, 558, 559, 560, 561, 562, 563, 564, 94, 95, 89, 565, 566, 567, 568, 569, 805, 806, 807, 808, 247, 248, 249] (by decide +kernel)
set_option maxRecDepth 20000 in
theorem wsL_law0_r22_in : ∀ w ∈ wsL_law0_r22, w ∈ lw_tbl := inAt [250, 92, 809, 810, 811, 812, 570, 571, 572, 573, 574, 575, 576, 577, 579, 16, 580, 581, 582, 583, 584, 592, 591, 590] (by decide +kernel)
set_option maxRecDepth 20000 in
theorem wsL_law0_r23_in : ∀ w ∈ wsL_law0_r23, w ∈ lw_tbl := inAt [51, 585, 586, 587, 588, 589, 813, 814, 815, 816, 817, 819, 35, 820, 593, 594, 595, 596, 597, 598, 599, 218, 601, 602] (by decide +kernel)
set_option maxRecDepth 20000 in
theorem wsL_law0_r24_in : ∀ w ∈ wsL_law0_r24, w ∈ lw_tbl := inAt [603, 604, 217, 821, 822, 823, 824, 605, 606, 607, 608, 609, 610, 611, 214, 216, 182, 613, 825, 826, 827, 828] (by decide +kernel)
theorem in0_wsX50 : ∀ w ∈ wsX50, w ∈ lw_tbl := by decide +kernel
theorem in0_wsX60 : ∀ w ∈ wsX60, w ∈ lw_tbl := by decide +kernel
theorem in0_wsX30 : ∀ w ∈ wsX30, w ∈ lw_tbl := by decide +kernel
theorem in0_wsX00 : ∀ w ∈ wsX00, w ∈ lw_tbl := by decide +kernel
theorem in0_wsX20 : ∀ w ∈ wsX20, w ∈ lw_tbl := by decide +kernel
theorem in0_wsX10 : ∀ w ∈ wsX10, w ∈ lw_tbl := by decide +kernel
theorem in0_wsX40 : ∀ w ∈ wsX40, w ∈ lw_tbl := by decide +kernel
theorem wsL_law_in0 : ∀ w ∈ wsL_law0, w ∈ lw_tbl := (fun w h => (List.mem_append.mp h).elim (fun h => (fun w h => (List.mem_append.mp h).elim (fun h => (fun w h => (List.mem_append.mp h).elim (fun h => (fun w h => (List.mem_append.mp h).elim (fun h => (fun w h => (List.mem_append.mp h).elim (fun h => (fun w h => (List.mem_append.mp h).elim (fun h => (fun w h => (List.mem_append.mp h).elim (fun h => (fun w h => (List.mem_append.mp h).elim (fun h => (fun w h => (List.mem_append.mp h).elim (fun h => wsL_law0_r1_in w h) (fun h => (fun w h => (List.mem_append.mp h).elim (fun h => wsL_law0_r2_in w h) (fun h => (fun w h => (List.mem_append.mp h).elim (fun h => wsL_law0_r3_in w h) (fun h => (fun w h => (List.mem_append.mp h).elim (fun h => wsL_law0_r4_in w h) (fun h => (fun w h => (List.mem_append.mp h).elim (fun h => wsL_law0_r5_in w h) (fun h => (fun w h => (List.mem_append.mp h).elim (fun h => wsL_law0_r6_in w h) (fun h => (fun w h => (List.mem_append.mp h).elim (fun h => wsL_law0_r7_in w h) (fun h => (fun w h => (List.mem_append.mp h).elim (fun h => wsL_law0_r8_in w h) (fun h => (fun w h => (List.mem_append.mp h).elim (fun h => wsL_law0_r9_in w h) (fun h => (fun w h => (List.mem_append.mp h).elim (fun h => wsL_law0_r10_in w h) (fun h => (fun w h => (List.mem_append.mp h).elim (fun h => wsL_law0_r11_in w h) (fun h => (fun w h => (List.mem_append.mp h).elim (fun h => wsL_law0_r12_in w h) (fun h => (fun w h => (List.mem_append.mp h).elim (fun h => wsL_law0_r13_in w h) (fun h => (fun w h => (List.mem_append.mp h).elim (fun h => wsL_law0_r14_in w h) (fun h => (fun w h => (List.mem_append.mp h).elim (fun h => wsL_law0_r15_in w h) (fun h => (fun w h => (List.mem_append.mp h).elim (fun h => wsL_law0_r16_in w h) (fun h => (fun w h => (List.mem_append.mp h).elim (fun h => wsL_law0_r17_in w h) (fun h => (fun w h => (List.mem_append.mp h).elim (fun h => wsL_law0_r18_in w h) (fun h => (fun w h => (List.mem_append.mp h).elim (fun h => wsL_law0_r19_in w h) (fun h => (fun w h => (List.mem_append.mp h).elim (fun h => wsL_law0_r20_in w h) (fun h => (fun w h => (List.mem_append.mp h).elim (fun h => wsL_law0_r21_in w h) (fun h => (fun w h => (List.mem_append.mp h).elim (fun h => wsL_law0_r22_in w h) (fun h => (fun w h => (List.mem_append.mp h).elim (fun h => wsL_law0_r23_in w h) (fun h => wsL_law0_r24_in w h)) w h)) w h)) w h)) w h)) w h)) w h)) w h)) w h)) w h)) w h)) w h)) w h)) w h)) w h)) w h)) w h)) w h)) w h)) w h)) w h)) w h)) w h)) w h) (fun h => in0_wsX50 w h)) w h) (fun h => in0_wsX60 w h)) w h) (fun h => in0_wsX30 w h)) w h) (fun h => in0_wsX00 w h)) w h) (fun h => in0_wsX20 w h)) w h) (fun h => in0_wsX10 w h)) w h) (fun h => in0_wsX40 w h)) w h) (fun h => (fun w h => absurd h List.not_mem_nil) w h))
end
section
theorem wsL_law_x0 : ∀ w ∈ (vx_atS RX5 58 "java/lang/IllegalStateException" ["java/lang/RuntimeException", "java/lang/Exception"]).filter goodWord, w ∈ lw_tbl := by decide +kernel
theorem wsL_law_x1 : ∀ w ∈ (vx_atS RX5 131 "java/lang/IndexOutOfBoundsException" ["java/lang/RuntimeException", "java/lang/Exception"]).filter goodWord, w ∈ lw_tbl := by decide +kernel
theorem wsL_law_x2 : ∀ w ∈ (vx_atS RX5 203 "java/lang/IllegalArgumentException" ["java/lang/RuntimeException", "java/lang/Exception"]).filter goodWord, w ∈ lw_tbl := by decide +kernel
theorem wsL_law_in : ∀ w ∈ wsL_law, w ∈ lw_tbl := fun w h => (List.mem_append.mp h).elim (fun h => (List.mem_append.mp h).elim (fun h => (List.mem_append.mp h).elim (fun h => wsL_law_in0 w h) (fun h => wsL_law_x0 w h)) (fun h => wsL_law_x1 w h)) (fun h => wsL_law_x2 w h)
theorem inlX0 : ∀ w ∈ wsX00, w ∈ wsL_law := fun _ h => List.mem_append_left _ (List.mem_append_left _ (List.mem_append_left _ (List.mem_append_left _ (List.mem_append_left _ (List.mem_append_left _ (List.mem_append_left _ (List.mem_append_right _ h)))))))
theorem inX0 : ∀ w ∈ wsX00, w ∈ lw_tbl := fun w h => wsL_law_in w (inlX0 w h)
theorem inlX1 : ∀ w ∈ wsX10, w ∈ wsL_law := fun _ h => List.mem_append_left _ (List.mem_append_left _ (List.mem_append_left _ (List.mem_append_left _ (List.mem_append_left _ (List.mem_append_right _ h)))))
theorem inX1 : ∀ w ∈ wsX10, w ∈ lw_tbl := fun w h => wsL_law_in w (inlX1 w h)
theorem inlX2 : ∀ w ∈ wsX20, w ∈ wsL_law := fun _ h => List.mem_append_left _ (List.mem_append_left _ (List.mem_append_left _ (List.mem_append_left _ (List.mem_append_left _ (List.mem_append_left _ (List.mem_append_right _ h))))))
theorem inX2 : ∀ w ∈ wsX20, w ∈ lw_tbl := fun w h => wsL_law_in w (inlX2 w h)
theorem inlX3 : ∀ w ∈ wsX30, w ∈ wsL_law := fun _ h => List.mem_append_left _ (List.mem_append_left _ (List.mem_append_left _ (List.mem_append_left _ (List.mem_append_left _ (List.mem_append_left _ (List.mem_append_left _ (List.mem_append_left _ (List.mem_append_right _ h))))))))
theorem inX3 : ∀ w ∈ wsX30, w ∈ lw_tbl := fun w h => wsL_law_in w (inlX3 w h)
theorem inlX4 : ∀ w ∈ wsX40, w ∈ wsL_law := fun _ h => List.mem_append_left _ (List.mem_append_left _ (List.mem_append_left _ (List.mem_append_left _ (List.mem_append_right _ h))))
theorem inX4 : ∀ w ∈ wsX40, w ∈ lw_tbl := fun w h => wsL_law_in w (inlX4 w h)
theorem inlX5 : ∀ w ∈ wsX50, w ∈ wsL_law := fun _ h => List.mem_append_left _ (List.mem_append_left _ (List.mem_append_left _ (List.mem_append_left _ (List.mem_append_left _ (List.mem_append_left _ (List.mem_append_left _ (List.mem_append_left _ (List.mem_append_left _ (List.mem_append_left _ (List.mem_append_right _ h))))))))))
theorem inX5 : ∀ w ∈ wsX50, w ∈ lw_tbl := fun w h => wsL_law_in w (inlX5 w h)
theorem inlX6 : ∀ w ∈ wsX60, w ∈ wsL_law := fun _ h => List.mem_append_left _ (List.mem_append_left _ (List.mem_append_left _ (List.mem_append_left _ (List.mem_append_left _ (List.mem_append_left _ (List.mem_append_left _ (List.mem_append_left _ (List.mem_append_left _ (List.mem_append_right _ h)))))))))
theorem inX6 : ∀ w ∈ wsX60, w ∈ lw_tbl := fun w h => wsL_law_in w (inlX6 w h)
theorem inJ9 : ∀ w ∈ wsJ90, w ∈ lw_tbl := by decide +kernel
theorem inJ0 : ∀ w ∈ wsJ00, w ∈ lw_tbl := by decide +kernel
theorem inJ10 : ∀ w ∈ wsJ100, w ∈ lw_tbl := by decide +kernel
theorem dX0_init_0 : decode cX0_init 0 = .ok (.aload_n 0, 1) := by decide +kernel
theorem dX0_init_1 : decode cX0_init 1 = .ok (.invokespecial 3, 3) := by decide +kernel
theorem dX0_init_4 : decode cX0_init 4 = .ok (.aload_n 0, 1) := by decide +kernel
theorem dX0_init_5 : decode cX0_init 5 = .ok (.bipush 61, 2) := by decide +kernel
theorem dX0_init_7 : decode cX0_init 7 = .ok (.newarray .boolean, 2) := by decide +kernel
theorem dX0_init_9 : decode cX0_init 9 = .ok (.putfield 9, 3) := by decide +kernel
theorem dX0_init_12 : decode cX0_init 12 = .ok (.aload_n 0, 1) := by decide +kernel
theorem dX0_init_13 : decode cX0_init 13 = .ok (.bipush 61, 2) := by decide +kernel
theorem dX0_init_15 : decode cX0_init 15 = .ok (.newarray .int, 2) := by decide +kernel
theorem dX0_init_17 : decode cX0_init 17 = .ok (.putfield 15, 3) := by decide +kernel
theorem dX0_init_20 : decode cX0_init 20 = .ok (.aload_n 0, 1) := by decide +kernel
theorem dX0_init_21 : decode cX0_init 21 = .ok (.bipush 61, 2) := by decide +kernel
theorem dX0_init_23 : decode cX0_init 23 = .ok (.newarray .int, 2) := by decide +kernel
theorem dX0_init_25 : decode cX0_init 25 = .ok (.putfield 19, 3) := by decide +kernel
theorem dX0_init_28 : decode cX0_init 28 = .ok (.aload_n 0, 1) := by decide +kernel
theorem dX0_init_29 : decode cX0_init 29 = .ok (.sipush 720, 3) := by decide +kernel
theorem dX0_init_32 : decode cX0_init 32 = .ok (.newarray .int, 2) := by decide +kernel
theorem dX0_init_34 : decode cX0_init 34 = .ok (.putfield 22, 3) := by decide +kernel
theorem dX0_init_37 : decode cX0_init 37 = .ok (.aload_n 0, 1) := by decide +kernel
theorem dX0_init_38 : decode cX0_init 38 = .ok (.sipush 720, 3) := by decide +kernel
theorem dX0_init_41 : decode cX0_init 41 = .ok (.newarray .int, 2) := by decide +kernel
theorem dX0_init_43 : decode cX0_init 43 = .ok (.putfield 25, 3) := by decide +kernel
theorem dX0_init_46 : decode cX0_init 46 = .ok (.aload_n 0, 1) := by decide +kernel
theorem dX0_init_47 : decode cX0_init 47 = .ok (.sipush 720, 3) := by decide +kernel
theorem dX0_init_50 : decode cX0_init 50 = .ok (.newarray .int, 2) := by decide +kernel
theorem dX0_init_52 : decode cX0_init 52 = .ok (.putfield 28, 3) := by decide +kernel
theorem dX0_init_55 : decode cX0_init 55 = .ok (.aload_n 0, 1) := by decide +kernel
theorem dX0_init_56 : decode cX0_init 56 = .ok (.getfield 15, 3) := by decide +kernel
theorem dX0_init_59 : decode cX0_init 59 = .ok (.iconst 0, 1) := by decide +kernel
theorem dX0_init_60 : decode cX0_init 60 = .ok (.iconst (-1), 1) := by decide +kernel
theorem dX0_init_61 : decode cX0_init 61 = .ok (.iastore, 1) := by decide +kernel
theorem dX0_init_62 : decode cX0_init 62 = .ok (.return_, 1) := by decide +kernel
set_option maxRecDepth 20000 in
theorem ggX0_note_X1_allIce : GoodIn wsX0_note wsX1_allIce := goodIn_r _ [15, 16, 40, 41] (by decide +kernel) (by decide +kernel)
set_option maxRecDepth 20000 in
theorem gX0_note_X1_allIce : GoodIn wsX0_note (wsV RX0 44 RX1 yX1_allIce wsX1_allIce) := goodIn_app (goodIn_of _ (by decide +kernel)) ggX0_note_X1_allIce
theorem dX0_note_0 : decode cX0_note 0 = .ok (.aload_n 0, 1) := by decide +kernel
theorem dX0_note_1 : decode cX0_note 1 = .ok (.getfield 15, 3) := by decide +kernel
theorem dX0_note_4 : decode cX0_note 4 = .ok (.aload_n 1, 1) := by decide +kernel
theorem dX0_note_5 : decode cX0_note 5 = .ok (.getfield 31, 3) := by decide +kernel
theorem dX0_note_8 : decode cX0_note 8 = .ok (.aload_n 1, 1) := by decide +kernel
theorem dX0_note_9 : decode cX0_note 9 = .ok (.getfield 37, 3) := by decide +kernel
theorem dX0_note_12 : decode cX0_note 12 = .ok (.iastore, 1) := by decide +kernel
theorem dX0_note_13 : decode cX0_note 13 = .ok (.aload_n 0, 1) := by decide +kernel
theorem dX0_note_14 : decode cX0_note 14 = .ok (.getfield 19, 3) := by decide +kernel
theorem dX0_note_17 : decode cX0_note 17 = .ok (.aload_n 1, 1) := by decide +kernel
theorem dX0_note_18 : decode cX0_note 18 = .ok (.getfield 31, 3) := by decide +kernel
theorem dX0_note_21 : decode cX0_note 21 = .ok (.aload_n 1, 1) := by decide +kernel
theorem dX0_note_22 : decode cX0_note 22 = .ok (.getfield 40, 3) := by decide +kernel
theorem dX0_note_25 : decode cX0_note 25 = .ok (.invokevirtual 44, 3) := by decide +kernel
theorem dX0_note_28 : decode cX0_note 28 = .ok (.iastore, 1) := by decide +kernel
theorem dX0_note_29 : decode cX0_note 29 = .ok (.iconst 0, 1) := by decide +kernel
theorem dX0_note_30 : decode cX0_note 30 = .ok (.istore_n 2, 1) := by decide +kernel
theorem dX0_note_31 : decode cX0_note 31 = .ok (.iload_n 2, 1) := by decide +kernel
theorem dX0_note_32 : decode cX0_note 32 = .ok (.bipush 12, 2) := by decide +kernel
theorem dX0_note_34 : decode cX0_note 34 = .ok (.if_icmp .ge 76, 3) := by decide +kernel
theorem dX0_note_37 : decode cX0_note 37 = .ok (.aload_n 1, 1) := by decide +kernel
theorem dX0_note_38 : decode cX0_note 38 = .ok (.getfield 50, 3) := by decide +kernel
theorem dX0_note_41 : decode cX0_note 41 = .ok (.iload_n 2, 1) := by decide +kernel
theorem dX0_note_42 : decode cX0_note 42 = .ok (.iaload, 1) := by decide +kernel
theorem dX0_note_43 : decode cX0_note 43 = .ok (.ifCond .le 61, 3) := by decide +kernel
theorem dX0_note_46 : decode cX0_note 46 = .ok (.aload_n 0, 1) := by decide +kernel
theorem dX0_note_47 : decode cX0_note 47 = .ok (.getfield 53, 3) := by decide +kernel
theorem dX0_note_50 : decode cX0_note 50 = .ok (.sipush 720, 3) := by decide +kernel
theorem dX0_note_53 : decode cX0_note 53 = .ok (.if_icmp .ge 51, 3) := by decide +kernel
theorem dX0_note_56 : decode cX0_note 56 = .ok (.aload_n 0, 1) := by decide +kernel
theorem dX0_note_57 : decode cX0_note 57 = .ok (.getfield 22, 3) := by decide +kernel
theorem dX0_note_60 : decode cX0_note 60 = .ok (.aload_n 0, 1) := by decide +kernel
theorem dX0_note_61 : decode cX0_note 61 = .ok (.getfield 53, 3) := by decide +kernel
theorem dX0_note_64 : decode cX0_note 64 = .ok (.aload_n 1, 1) := by decide +kernel
theorem dX0_note_65 : decode cX0_note 65 = .ok (.getfield 31, 3) := by decide +kernel
theorem dX0_note_68 : decode cX0_note 68 = .ok (.iastore, 1) := by decide +kernel
theorem dX0_note_69 : decode cX0_note 69 = .ok (.aload_n 0, 1) := by decide +kernel
theorem dX0_note_70 : decode cX0_note 70 = .ok (.getfield 25, 3) := by decide +kernel
theorem dX0_note_73 : decode cX0_note 73 = .ok (.aload_n 0, 1) := by decide +kernel
theorem dX0_note_74 : decode cX0_note 74 = .ok (.getfield 53, 3) := by decide +kernel
theorem dX0_note_77 : decode cX0_note 77 = .ok (.iload_n 2, 1) := by decide +kernel
theorem dX0_note_78 : decode cX0_note 78 = .ok (.iastore, 1) := by decide +kernel
theorem dX0_note_79 : decode cX0_note 79 = .ok (.aload_n 0, 1) := by decide +kernel
theorem dX0_note_80 : decode cX0_note 80 = .ok (.getfield 28, 3) := by decide +kernel
theorem dX0_note_83 : decode cX0_note 83 = .ok (.aload_n 0, 1) := by decide +kernel
theorem dX0_note_84 : decode cX0_note 84 = .ok (.getfield 53, 3) := by decide +kernel
theorem dX0_note_87 : decode cX0_note 87 = .ok (.aload_n 1, 1) := by decide +kernel
theorem dX0_note_88 : decode cX0_note 88 = .ok (.getfield 50, 3) := by decide +kernel
theorem dX0_note_91 : decode cX0_note 91 = .ok (.iload_n 2, 1) := by decide +kernel
theorem dX0_note_92 : decode cX0_note 92 = .ok (.iaload, 1) := by decide +kernel
theorem dX0_note_93 : decode cX0_note 93 = .ok (.iastore, 1) := by decide +kernel
theorem dX0_note_94 : decode cX0_note 94 = .ok (.aload_n 0, 1) := by decide +kernel
theorem dX0_note_95 : decode cX0_note 95 = .ok (.dup, 1) := by decide +kernel
theorem dX0_note_96 : decode cX0_note 96 = .ok (.getfield 53, 3) := by decide +kernel
theorem dX0_note_99 : decode cX0_note 99 = .ok (.iconst 1, 1) := by decide +kernel
theorem dX0_note_100 : decode cX0_note 100 = .ok (.iadd, 1) := by decide +kernel
theorem dX0_note_101 : decode cX0_note 101 = .ok (.putfield 53, 3) := by decide +kernel
theorem dX0_note_104 : decode cX0_note 104 = .ok (.iinc 2 1, 3) := by decide +kernel
theorem dX0_note_107 : decode cX0_note 107 = .ok (.goto (-76), 3) := by decide +kernel
theorem dX0_note_110 : decode cX0_note 110 = .ok (.return_, 1) := by decide +kernel
theorem dX1_init_0 : decode cX1_init 0 = .ok (.aload_n 0, 1) := by decide +kernel
theorem dX1_init_1 : decode cX1_init 1 = .ok (.invokespecial 3, 3) := by decide +kernel
theorem dX1_init_4 : decode cX1_init 4 = .ok (.aload_n 0, 1) := by decide +kernel
theorem dX1_init_5 : decode cX1_init 5 = .ok (.bipush 12, 2) := by decide +kernel
theorem dX1_init_7 : decode cX1_init 7 = .ok (.newarray .int, 2) := by decide +kernel
theorem dX1_init_9 : decode cX1_init 9 = .ok (.putfield 9, 3) := by decide +kernel
theorem dX1_init_12 : decode cX1_init 12 = .ok (.aload_n 0, 1) := by decide +kernel
theorem dX1_init_13 : decode cX1_init 13 = .ok (.sipush 732, 3) := by decide +kernel
theorem dX1_init_16 : decode cX1_init 16 = .ok (.newarray .int, 2) := by decide +kernel
theorem dX1_init_18 : decode cX1_init 18 = .ok (.putfield 15, 3) := by decide +kernel
theorem dX1_init_21 : decode cX1_init 21 = .ok (.return_, 1) := by decide +kernel
theorem dX1_becomeLike_0 : decode cX1_becomeLike 0 = .ok (.aload_n 1, 1) := by decide +kernel
theorem dX1_becomeLike_1 : decode cX1_becomeLike 1 = .ok (.getfield 9, 3) := by decide +kernel
theorem dX1_becomeLike_4 : decode cX1_becomeLike 4 = .ok (.iconst 0, 1) := by decide +kernel
theorem dX1_becomeLike_5 : decode cX1_becomeLike 5 = .ok (.aload_n 0, 1) := by decide +kernel
theorem dX1_becomeLike_6 : decode cX1_becomeLike 6 = .ok (.getfield 9, 3) := by decide +kernel
theorem dX1_becomeLike_9 : decode cX1_becomeLike 9 = .ok (.iconst 0, 1) := by decide +kernel
theorem dX1_becomeLike_10 : decode cX1_becomeLike 10 = .ok (.bipush 12, 2) := by decide +kernel
theorem dX1_becomeLike_12 : decode cX1_becomeLike 12 = .ok (.invokestatic 18, 3) := by decide +kernel
theorem dX1_becomeLike_15 : decode cX1_becomeLike 15 = .ok (.aload_n 1, 1) := by decide +kernel
theorem dX1_becomeLike_16 : decode cX1_becomeLike 16 = .ok (.getfield 15, 3) := by decide +kernel
theorem dX1_becomeLike_19 : decode cX1_becomeLike 19 = .ok (.iconst 0, 1) := by decide +kernel
theorem dX1_becomeLike_20 : decode cX1_becomeLike 20 = .ok (.aload_n 0, 1) := by decide +kernel
theorem dX1_becomeLike_21 : decode cX1_becomeLike 21 = .ok (.getfield 15, 3) := by decide +kernel
theorem dX1_becomeLike_24 : decode cX1_becomeLike 24 = .ok (.iconst 0, 1) := by decide +kernel
theorem dX1_becomeLike_25 : decode cX1_becomeLike 25 = .ok (.sipush 732, 3) := by decide +kernel
theorem dX1_becomeLike_28 : decode cX1_becomeLike 28 = .ok (.invokestatic 18, 3) := by decide +kernel
theorem dX1_becomeLike_31 : decode cX1_becomeLike 31 = .ok (.return_, 1) := by decide +kernel
theorem dX1_unitsOf_0 : decode cX1_unitsOf 0 = .ok (.aload_n 0, 1) := by decide +kernel
theorem dX1_unitsOf_1 : decode cX1_unitsOf 1 = .ok (.getfield 15, 3) := by decide +kernel
theorem dX1_unitsOf_4 : decode cX1_unitsOf 4 = .ok (.iload_n 1, 1) := by decide +kernel
theorem dX1_unitsOf_5 : decode cX1_unitsOf 5 = .ok (.bipush 61, 2) := by decide +kernel
theorem dX1_unitsOf_7 : decode cX1_unitsOf 7 = .ok (.imul, 1) := by decide +kernel
theorem dX1_unitsOf_8 : decode cX1_unitsOf 8 = .ok (.iload_n 2, 1) := by decide +kernel
theorem dX1_unitsOf_9 : decode cX1_unitsOf 9 = .ok (.iadd, 1) := by decide +kernel
theorem dX1_unitsOf_10 : decode cX1_unitsOf 10 = .ok (.iaload, 1) := by decide +kernel
theorem dX1_unitsOf_11 : decode cX1_unitsOf 11 = .ok (.ireturn, 1) := by decide +kernel
theorem dX1_allIce_0 : decode cX1_allIce 0 = .ok (.iconst 0, 1) := by decide +kernel
theorem dX1_allIce_1 : decode cX1_allIce 1 = .ok (.istore_n 1, 1) := by decide +kernel
theorem dX1_allIce_2 : decode cX1_allIce 2 = .ok (.iconst 0, 1) := by decide +kernel
theorem dX1_allIce_3 : decode cX1_allIce 3 = .ok (.istore_n 2, 1) := by decide +kernel
theorem dX1_allIce_4 : decode cX1_allIce 4 = .ok (.iload_n 2, 1) := by decide +kernel
theorem dX1_allIce_5 : decode cX1_allIce 5 = .ok (.bipush 12, 2) := by decide +kernel
theorem dX1_allIce_7 : decode cX1_allIce 7 = .ok (.if_icmp .ge 18, 3) := by decide +kernel
theorem dX1_allIce_10 : decode cX1_allIce 10 = .ok (.iload_n 1, 1) := by decide +kernel
theorem dX1_allIce_11 : decode cX1_allIce 11 = .ok (.aload_n 0, 1) := by decide +kernel
theorem dX1_allIce_12 : decode cX1_allIce 12 = .ok (.getfield 9, 3) := by decide +kernel
theorem dX1_allIce_15 : decode cX1_allIce 15 = .ok (.iload_n 2, 1) := by decide +kernel
theorem dX1_allIce_16 : decode cX1_allIce 16 = .ok (.iaload, 1) := by decide +kernel
theorem dX1_allIce_17 : decode cX1_allIce 17 = .ok (.iadd, 1) := by decide +kernel
theorem dX1_allIce_18 : decode cX1_allIce 18 = .ok (.istore_n 1, 1) := by decide +kernel
theorem dX1_allIce_19 : decode cX1_allIce 19 = .ok (.iinc 2 1, 3) := by decide +kernel
theorem dX1_allIce_22 : decode cX1_allIce 22 = .ok (.goto (-18), 3) := by decide +kernel
theorem dX1_allIce_25 : decode cX1_allIce 25 = .ok (.iload_n 1, 1) := by decide +kernel
theorem dX1_allIce_26 : decode cX1_allIce 26 = .ok (.ireturn, 1) := by decide +kernel
theorem dX1_lay_0 : decode cX1_lay 0 = .ok (.aload_n 0, 1) := by decide +kernel
theorem dX1_lay_1 : decode cX1_lay 1 = .ok (.getfield 15, 3) := by decide +kernel
theorem dX1_lay_4 : decode cX1_lay 4 = .ok (.iload_n 1, 1) := by decide +kernel
theorem dX1_lay_5 : decode cX1_lay 5 = .ok (.bipush 61, 2) := by decide +kernel
theorem dX1_lay_7 : decode cX1_lay 7 = .ok (.imul, 1) := by decide +kernel
theorem dX1_lay_8 : decode cX1_lay 8 = .ok (.iload_n 2, 1) := by decide +kernel
theorem dX1_lay_9 : decode cX1_lay 9 = .ok (.iadd, 1) := by decide +kernel
theorem dX1_lay_10 : decode cX1_lay 10 = .ok (.dup2, 1) := by decide +kernel
theorem dX1_lay_11 : decode cX1_lay 11 = .ok (.iaload, 1) := by decide +kernel
theorem dX1_lay_12 : decode cX1_lay 12 = .ok (.iload_n 3, 1) := by decide +kernel
theorem dX1_lay_13 : decode cX1_lay 13 = .ok (.iadd, 1) := by decide +kernel
theorem dX1_lay_14 : decode cX1_lay 14 = .ok (.iastore, 1) := by decide +kernel
theorem dX1_lay_15 : decode cX1_lay 15 = .ok (.aload_n 0, 1) := by decide +kernel
theorem dX1_lay_16 : decode cX1_lay 16 = .ok (.getfield 9, 3) := by decide +kernel
theorem dX1_lay_19 : decode cX1_lay 19 = .ok (.iload_n 1, 1) := by decide +kernel
theorem dX1_lay_20 : decode cX1_lay 20 = .ok (.dup2, 1) := by decide +kernel
theorem dX1_lay_21 : decode cX1_lay 21 = .ok (.iaload, 1) := by decide +kernel
theorem dX1_lay_22 : decode cX1_lay 22 = .ok (.iload_n 3, 1) := by decide +kernel
theorem dX1_lay_23 : decode cX1_lay 23 = .ok (.iadd, 1) := by decide +kernel
theorem dX1_lay_24 : decode cX1_lay 24 = .ok (.iastore, 1) := by decide +kernel
theorem dX1_lay_25 : decode cX1_lay 25 = .ok (.return_, 1) := by decide +kernel
set_option maxRecDepth 20000 in
theorem ggX1_takeLatest_X1_unitsOf : GoodIn wsX1_takeLatest wsX1_unitsOf := goodIn_r _ [9, 10, 16, 17] (by decide +kernel) (by decide +kernel)
set_option maxRecDepth 20000 in
theorem gX1_takeLatest_X1_unitsOf : GoodIn wsX1_takeLatest (wsV RX1 24 RX1 yX1_unitsOf wsX1_unitsOf) := goodIn_app (goodIn_of _ (by decide +kernel)) ggX1_takeLatest_X1_unitsOf
set_option maxRecDepth 20000 in
theorem ggX1_takeLatest_X1_lay : GoodIn wsX1_takeLatest wsX1_lay := goodIn_r _ [14, 10, 15, 16, 17] (by decide +kernel) (by decide +kernel)
set_option maxRecDepth 20000 in
theorem gX1_takeLatest_X1_lay : GoodIn wsX1_takeLatest (wsV RX1 33 RX1 yX1_lay wsX1_lay) := goodIn_app (goodIn_of _ (by decide +kernel)) ggX1_takeLatest_X1_lay
theorem dX1_takeLatest_0 : decode cX1_takeLatest 0 = .ok (.iload_n 2, 1) := by decide +kernel
theorem dX1_takeLatest_1 : decode cX1_takeLatest 1 = .ok (.istore_n 3, 1) := by decide +kernel
theorem dX1_takeLatest_2 : decode cX1_takeLatest 2 = .ok (.bipush 60, 2) := by decide +kernel
theorem dX1_takeLatest_4 : decode cX1_takeLatest 4 = .ok (.istore 4, 2) := by decide +kernel
theorem dX1_takeLatest_6 : decode cX1_takeLatest 6 = .ok (.iload 4, 2) := by decide +kernel
theorem dX1_takeLatest_8 : decode cX1_takeLatest 8 = .ok (.ifCond .lt 41, 3) := by decide +kernel
theorem dX1_takeLatest_11 : decode cX1_takeLatest 11 = .ok (.iload_n 3, 1) := by decide +kernel
theorem dX1_takeLatest_12 : decode cX1_takeLatest 12 = .ok (.ifCond .le 37, 3) := by decide +kernel
theorem dX1_takeLatest_15 : decode cX1_takeLatest 15 = .ok (.iload_n 3, 1) := by decide +kernel
theorem dX1_takeLatest_16 : decode cX1_takeLatest 16 = .ok (.aload_n 0, 1) := by decide +kernel
theorem dX1_takeLatest_17 : decode cX1_takeLatest 17 = .ok (.iload_n 1, 1) := by decide +kernel
theorem dX1_takeLatest_18 : decode cX1_takeLatest 18 = .ok (.iload 4, 2) := by decide +kernel
theorem dX1_takeLatest_20 : decode cX1_takeLatest 20 = .ok (.invokevirtual 24, 3) := by decide +kernel
theorem dX1_takeLatest_23 : decode cX1_takeLatest 23 = .ok (.invokestatic 28, 3) := by decide +kernel
theorem dX1_takeLatest_26 : decode cX1_takeLatest 26 = .ok (.istore 5, 2) := by decide +kernel
theorem dX1_takeLatest_28 : decode cX1_takeLatest 28 = .ok (.aload_n 0, 1) := by decide +kernel
theorem dX1_takeLatest_29 : decode cX1_takeLatest 29 = .ok (.iload_n 1, 1) := by decide +kernel
theorem dX1_takeLatest_30 : decode cX1_takeLatest 30 = .ok (.iload 4, 2) := by decide +kernel
theorem dX1_takeLatest_32 : decode cX1_takeLatest 32 = .ok (.iload 5, 2) := by decide +kernel
theorem dX1_takeLatest_34 : decode cX1_takeLatest 34 = .ok (.ineg, 1) := by decide +kernel
theorem dX1_takeLatest_35 : decode cX1_takeLatest 35 = .ok (.invokevirtual 33, 3) := by decide +kernel
theorem dX1_takeLatest_38 : decode cX1_takeLatest 38 = .ok (.iload_n 3, 1) := by decide +kernel
theorem dX1_takeLatest_39 : decode cX1_takeLatest 39 = .ok (.iload 5, 2) := by decide +kernel
theorem dX1_takeLatest_41 : decode cX1_takeLatest 41 = .ok (.isub, 1) := by decide +kernel
theorem dX1_takeLatest_42 : decode cX1_takeLatest 42 = .ok (.istore_n 3, 1) := by decide +kernel
theorem dX1_takeLatest_43 : decode cX1_takeLatest 43 = .ok (.iinc 4 (-1), 3) := by decide +kernel
theorem dX1_takeLatest_46 : decode cX1_takeLatest 46 = .ok (.goto (-40), 3) := by decide +kernel
theorem dX1_takeLatest_49 : decode cX1_takeLatest 49 = .ok (.return_, 1) := by decide +kernel
set_option maxRecDepth 20000 in
theorem ggX1_carry_X1_unitsOf : GoodIn wsX1_carry wsX1_unitsOf := goodIn_r _ [9, 10, 16, 17] (by decide +kernel) (by decide +kernel)
set_option maxRecDepth 20000 in
theorem gX1_carry_X1_unitsOf : GoodIn wsX1_carry (wsV RX1 24 RX1 yX1_unitsOf wsX1_unitsOf) := goodIn_app (goodIn_of _ (by decide +kernel)) ggX1_carry_X1_unitsOf
set_option maxRecDepth 20000 in
theorem ggX1_carry_X1_lay : GoodIn wsX1_carry wsX1_lay := goodIn_r _ [14, 10, 15, 16, 17] (by decide +kernel) (by decide +kernel)
set_option maxRecDepth 20000 in
theorem gX1_carry_X1_lay : GoodIn wsX1_carry (wsV RX1 33 RX1 yX1_lay wsX1_lay) := goodIn_app (goodIn_of _ (by decide +kernel)) ggX1_carry_X1_lay
theorem dX1_carry_0 : decode cX1_carry 0 = .ok (.iload_n 3, 1) := by decide +kernel
theorem dX1_carry_1 : decode cX1_carry 1 = .ok (.istore 4, 2) := by decide +kernel
theorem dX1_carry_3 : decode cX1_carry 3 = .ok (.iconst 0, 1) := by decide +kernel
theorem dX1_carry_4 : decode cX1_carry 4 = .ok (.istore 5, 2) := by decide +kernel
theorem dX1_carry_6 : decode cX1_carry 6 = .ok (.iload 5, 2) := by decide +kernel
theorem dX1_carry_8 : decode cX1_carry 8 = .ok (.bipush 61, 2) := by decide +kernel
theorem dX1_carry_10 : decode cX1_carry 10 = .ok (.if_icmp .ge 54, 3) := by decide +kernel
theorem dX1_carry_13 : decode cX1_carry 13 = .ok (.iload 4, 2) := by decide +kernel
theorem dX1_carry_15 : decode cX1_carry 15 = .ok (.ifCond .le 49, 3) := by decide +kernel
theorem dX1_carry_18 : decode cX1_carry 18 = .ok (.iload 4, 2) := by decide +kernel
theorem dX1_carry_20 : decode cX1_carry 20 = .ok (.aload_n 0, 1) := by decide +kernel
theorem dX1_carry_21 : decode cX1_carry 21 = .ok (.iload_n 1, 1) := by decide +kernel
theorem dX1_carry_22 : decode cX1_carry 22 = .ok (.iload 5, 2) := by decide +kernel
theorem dX1_carry_24 : decode cX1_carry 24 = .ok (.invokevirtual 24, 3) := by decide +kernel
theorem dX1_carry_27 : decode cX1_carry 27 = .ok (.invokestatic 28, 3) := by decide +kernel
theorem dX1_carry_30 : decode cX1_carry 30 = .ok (.istore 6, 2) := by decide +kernel
theorem dX1_carry_32 : decode cX1_carry 32 = .ok (.aload_n 0, 1) := by decide +kernel
theorem dX1_carry_33 : decode cX1_carry 33 = .ok (.iload_n 1, 1) := by decide +kernel
theorem dX1_carry_34 : decode cX1_carry 34 = .ok (.iload 5, 2) := by decide +kernel
theorem dX1_carry_36 : decode cX1_carry 36 = .ok (.iload 6, 2) := by decide +kernel
theorem dX1_carry_38 : decode cX1_carry 38 = .ok (.ineg, 1) := by decide +kernel
theorem dX1_carry_39 : decode cX1_carry 39 = .ok (.invokevirtual 33, 3) := by decide +kernel
theorem dX1_carry_42 : decode cX1_carry 42 = .ok (.aload_n 0, 1) := by decide +kernel
theorem dX1_carry_43 : decode cX1_carry 43 = .ok (.iload_n 2, 1) := by decide +kernel
theorem dX1_carry_44 : decode cX1_carry 44 = .ok (.iload 5, 2) := by decide +kernel
theorem dX1_carry_46 : decode cX1_carry 46 = .ok (.iload 6, 2) := by decide +kernel
theorem dX1_carry_48 : decode cX1_carry 48 = .ok (.invokevirtual 33, 3) := by decide +kernel
theorem dX1_carry_51 : decode cX1_carry 51 = .ok (.iload 4, 2) := by decide +kernel
theorem dX1_carry_53 : decode cX1_carry 53 = .ok (.iload 6, 2) := by decide +kernel
theorem dX1_carry_55 : decode cX1_carry 55 = .ok (.isub, 1) := by decide +kernel
theorem dX1_carry_56 : decode cX1_carry 56 = .ok (.istore 4, 2) := by decide +kernel
theorem dX1_carry_58 : decode cX1_carry 58 = .ok (.iinc 5 1, 3) := by decide +kernel
theorem dX1_carry_61 : decode cX1_carry 61 = .ok (.goto (-55), 3) := by decide +kernel
theorem dX1_carry_64 : decode cX1_carry 64 = .ok (.return_, 1) := by decide +kernel
set_option maxRecDepth 20000 in
theorem ggX1_yearBelow_X1_unitsOf : GoodIn wsX1_yearBelow wsX1_unitsOf := goodIn_r _ [5, 6, 7, 8] (by decide +kernel) (by decide +kernel)
set_option maxRecDepth 20000 in
theorem gX1_yearBelow_X1_unitsOf : GoodIn wsX1_yearBelow (wsV RX1 24 RX1 yX1_unitsOf wsX1_unitsOf) := goodIn_app (goodIn_of _ (by decide +kernel)) ggX1_yearBelow_X1_unitsOf
theorem dX1_yearBelow_0 : decode cX1_yearBelow 0 = .ok (.iload_n 2, 1) := by decide +kernel
theorem dX1_yearBelow_1 : decode cX1_yearBelow 1 = .ok (.istore_n 3, 1) := by decide +kernel
theorem dX1_yearBelow_2 : decode cX1_yearBelow 2 = .ok (.bipush 60, 2) := by decide +kernel
theorem dX1_yearBelow_4 : decode cX1_yearBelow 4 = .ok (.istore 4, 2) := by decide +kernel
theorem dX1_yearBelow_6 : decode cX1_yearBelow 6 = .ok (.iload 4, 2) := by decide +kernel
theorem dX1_yearBelow_8 : decode cX1_yearBelow 8 = .ok (.ifCond .lt 32, 3) := by decide +kernel
theorem dX1_yearBelow_11 : decode cX1_yearBelow 11 = .ok (.aload_n 0, 1) := by decide +kernel
theorem dX1_yearBelow_12 : decode cX1_yearBelow 12 = .ok (.iload_n 1, 1) := by decide +kernel
theorem dX1_yearBelow_13 : decode cX1_yearBelow 13 = .ok (.iload 4, 2) := by decide +kernel
theorem dX1_yearBelow_15 : decode cX1_yearBelow 15 = .ok (.invokevirtual 24, 3) := by decide +kernel
theorem dX1_yearBelow_18 : decode cX1_yearBelow 18 = .ok (.istore 5, 2) := by decide +kernel
theorem dX1_yearBelow_20 : decode cX1_yearBelow 20 = .ok (.iload_n 3, 1) := by decide +kernel
theorem dX1_yearBelow_21 : decode cX1_yearBelow 21 = .ok (.iload 5, 2) := by decide +kernel
theorem dX1_yearBelow_23 : decode cX1_yearBelow 23 = .ok (.if_icmp .ge 6, 3) := by decide +kernel
theorem dX1_yearBelow_26 : decode cX1_yearBelow 26 = .ok (.iload 4, 2) := by decide +kernel
theorem dX1_yearBelow_28 : decode cX1_yearBelow 28 = .ok (.ireturn, 1) := by decide +kernel
theorem dX1_yearBelow_29 : decode cX1_yearBelow 29 = .ok (.iload_n 3, 1) := by decide +kernel
theorem dX1_yearBelow_30 : decode cX1_yearBelow 30 = .ok (.iload 5, 2) := by decide +kernel
theorem dX1_yearBelow_32 : decode cX1_yearBelow 32 = .ok (.isub, 1) := by decide +kernel
theorem dX1_yearBelow_33 : decode cX1_yearBelow 33 = .ok (.istore_n 3, 1) := by decide +kernel
theorem dX1_yearBelow_34 : decode cX1_yearBelow 34 = .ok (.iinc 4 (-1), 3) := by decide +kernel
theorem dX1_yearBelow_37 : decode cX1_yearBelow 37 = .ok (.goto (-31), 3) := by decide +kernel
theorem dX1_yearBelow_40 : decode cX1_yearBelow 40 = .ok (.iconst (-1), 1) := by decide +kernel
theorem dX1_yearBelow_41 : decode cX1_yearBelow 41 = .ok (.ireturn, 1) := by decide +kernel
theorem dX2_init_0 : decode cX2_init 0 = .ok (.aload_n 0, 1) := by decide +kernel
theorem dX2_init_1 : decode cX2_init 1 = .ok (.invokespecial 3, 3) := by decide +kernel
theorem dX2_init_4 : decode cX2_init 4 = .ok (.aload_n 0, 1) := by decide +kernel
theorem dX2_init_5 : decode cX2_init 5 = .ok (.bipush 10, 2) := by decide +kernel
theorem dX2_init_7 : decode cX2_init 7 = .ok (.newarray .int, 2) := by decide +kernel
theorem dX2_init_9 : decode cX2_init 9 = .ok (.putfield 9, 3) := by decide +kernel
theorem dX2_init_12 : decode cX2_init 12 = .ok (.aload_n 0, 1) := by decide +kernel
theorem dX2_init_13 : decode cX2_init 13 = .ok (.bipush 10, 2) := by decide +kernel
theorem dX2_init_15 : decode cX2_init 15 = .ok (.newarray .int, 2) := by decide +kernel
theorem dX2_init_17 : decode cX2_init 17 = .ok (.putfield 15, 3) := by decide +kernel
theorem dX2_init_20 : decode cX2_init 20 = .ok (.return_, 1) := by decide +kernel
theorem dX2_keep_0 : decode cX2_keep 0 = .ok (.aload_n 0, 1) := by decide +kernel
theorem dX2_keep_1 : decode cX2_keep 1 = .ok (.getfield 18, 3) := by decide +kernel
theorem dX2_keep_4 : decode cX2_keep 4 = .ok (.bipush 10, 2) := by decide +kernel
theorem dX2_keep_6 : decode cX2_keep 6 = .ok (.if_icmp .ge 33, 3) := by decide +kernel
theorem dX2_keep_9 : decode cX2_keep 9 = .ok (.aload_n 0, 1) := by decide +kernel
theorem dX2_keep_10 : decode cX2_keep 10 = .ok (.getfield 9, 3) := by decide +kernel
theorem dX2_keep_13 : decode cX2_keep 13 = .ok (.aload_n 0, 1) := by decide +kernel
theorem dX2_keep_14 : decode cX2_keep 14 = .ok (.getfield 18, 3) := by decide +kernel
theorem dX2_keep_17 : decode cX2_keep 17 = .ok (.iload_n 1, 1) := by decide +kernel
theorem dX2_keep_18 : decode cX2_keep 18 = .ok (.iastore, 1) := by decide +kernel
theorem dX2_keep_19 : decode cX2_keep 19 = .ok (.aload_n 0, 1) := by decide +kernel
theorem dX2_keep_20 : decode cX2_keep 20 = .ok (.getfield 15, 3) := by decide +kernel
theorem dX2_keep_23 : decode cX2_keep 23 = .ok (.aload_n 0, 1) := by decide +kernel
theorem dX2_keep_24 : decode cX2_keep 24 = .ok (.getfield 18, 3) := by decide +kernel
theorem dX2_keep_27 : decode cX2_keep 27 = .ok (.iload_n 2, 1) := by decide +kernel
theorem dX2_keep_28 : decode cX2_keep 28 = .ok (.iastore, 1) := by decide +kernel
theorem dX2_keep_29 : decode cX2_keep 29 = .ok (.aload_n 0, 1) := by decide +kernel
theorem dX2_keep_30 : decode cX2_keep 30 = .ok (.dup, 1) := by decide +kernel
theorem dX2_keep_31 : decode cX2_keep 31 = .ok (.getfield 18, 3) := by decide +kernel
theorem dX2_keep_34 : decode cX2_keep 34 = .ok (.iconst 1, 1) := by decide +kernel
theorem dX2_keep_35 : decode cX2_keep 35 = .ok (.iadd, 1) := by decide +kernel
theorem dX2_keep_36 : decode cX2_keep 36 = .ok (.putfield 18, 3) := by decide +kernel
theorem dX2_keep_39 : decode cX2_keep 39 = .ok (.return_, 1) := by decide +kernel
set_option maxRecDepth 20000 in
theorem ggX3_init_X1_init : GoodIn wsX3_init wsX1_init := goodIn_r _ [23, 24, 2, 3, 12, 25, 26, 30, 31] (by decide +kernel) (by decide +kernel)
set_option maxRecDepth 20000 in
theorem gX3_init_X1_init_n11 : GoodIn wsX3_init (wsX1_init) := ggX3_init_X1_init
set_option maxRecDepth 20000 in
theorem ggX3_init_X4_init : GoodIn wsX3_init wsX4_init := goodIn_r _ [28, 29, 2, 3] (by decide +kernel) (by decide +kernel)
set_option maxRecDepth 20000 in
theorem gX3_init_X4_init_n20 : GoodIn wsX3_init (wsX4_init) := ggX3_init_X4_init
theorem dX3_init_0 : decode cX3_init 0 = .ok (.aload_n 0, 1) := by decide +kernel
theorem dX3_init_1 : decode cX3_init 1 = .ok (.invokespecial 3, 3) := by decide +kernel
theorem dX3_init_4 : decode cX3_init 4 = .ok (.aload_n 0, 1) := by decide +kernel
theorem dX3_init_5 : decode cX3_init 5 = .ok (.new 9, 3) := by decide +kernel
theorem dX3_init_8 : decode cX3_init 8 = .ok (.dup, 1) := by decide +kernel
theorem dX3_init_9 : decode cX3_init 9 = .ok (.invokespecial 11, 3) := by decide +kernel
theorem dX3_init_12 : decode cX3_init 12 = .ok (.putfield 12, 3) := by decide +kernel
theorem dX3_init_15 : decode cX3_init 15 = .ok (.aload_n 0, 1) := by decide +kernel
theorem dX3_init_16 : decode cX3_init 16 = .ok (.new 18, 3) := by decide +kernel
theorem dX3_init_19 : decode cX3_init 19 = .ok (.dup, 1) := by decide +kernel
theorem dX3_init_20 : decode cX3_init 20 = .ok (.invokespecial 20, 3) := by decide +kernel
theorem dX3_init_23 : decode cX3_init 23 = .ok (.putfield 21, 3) := by decide +kernel
theorem dX3_init_26 : decode cX3_init 26 = .ok (.aload_n 0, 1) := by decide +kernel
theorem dX3_init_27 : decode cX3_init 27 = .ok (.bipush 12, 2) := by decide +kernel
theorem dX3_init_29 : decode cX3_init 29 = .ok (.newarray .int, 2) := by decide +kernel
theorem dX3_init_31 : decode cX3_init 31 = .ok (.putfield 25, 3) := by decide +kernel
theorem dX3_init_34 : decode cX3_init 34 = .ok (.aload_n 0, 1) := by decide +kernel
theorem dX3_init_35 : decode cX3_init 35 = .ok (.bipush 12, 2) := by decide +kernel
theorem dX3_init_37 : decode cX3_init 37 = .ok (.newarray .int, 2) := by decide +kernel
theorem dX3_init_39 : decode cX3_init 39 = .ok (.putfield 29, 3) := by decide +kernel
theorem dX3_init_42 : decode cX3_init 42 = .ok (.aload_n 0, 1) := by decide +kernel
theorem dX3_init_43 : decode cX3_init 43 = .ok (.bipush 12, 2) := by decide +kernel
theorem dX3_init_45 : decode cX3_init 45 = .ok (.newarray .int, 2) := by decide +kernel
theorem dX3_init_47 : decode cX3_init 47 = .ok (.putfield 32, 3) := by decide +kernel
theorem dX3_init_50 : decode cX3_init 50 = .ok (.aload_n 0, 1) := by decide +kernel
theorem dX3_init_51 : decode cX3_init 51 = .ok (.bipush 12, 2) := by decide +kernel
theorem dX3_init_53 : decode cX3_init 53 = .ok (.newarray .int, 2) := by decide +kernel
theorem dX3_init_55 : decode cX3_init 55 = .ok (.putfield 35, 3) := by decide +kernel
theorem dX3_init_58 : decode cX3_init 58 = .ok (.aload_n 0, 1) := by decide +kernel
theorem dX3_init_59 : decode cX3_init 59 = .ok (.bipush 12, 2) := by decide +kernel
theorem dX3_init_61 : decode cX3_init 61 = .ok (.newarray .int, 2) := by decide +kernel
theorem dX3_init_63 : decode cX3_init 63 = .ok (.putfield 38, 3) := by decide +kernel
theorem dX3_init_66 : decode cX3_init 66 = .ok (.aload_n 0, 1) := by decide +kernel
theorem dX3_init_67 : decode cX3_init 67 = .ok (.bipush 12, 2) := by decide +kernel
theorem dX3_init_69 : decode cX3_init 69 = .ok (.newarray .int, 2) := by decide +kernel
theorem dX3_init_71 : decode cX3_init 71 = .ok (.putfield 41, 3) := by decide +kernel
theorem dX3_init_74 : decode cX3_init 74 = .ok (.aload_n 0, 1) := by decide +kernel
theorem dX3_init_75 : decode cX3_init 75 = .ok (.bipush 11, 2) := by decide +kernel
theorem dX3_init_77 : decode cX3_init 77 = .ok (.newarray .int, 2) := by decide +kernel
theorem dX3_init_79 : decode cX3_init 79 = .ok (.putfield 44, 3) := by decide +kernel
theorem dX3_init_82 : decode cX3_init 82 = .ok (.aload_n 0, 1) := by decide +kernel
theorem dX3_init_83 : decode cX3_init 83 = .ok (.bipush 12, 2) := by decide +kernel
theorem dX3_init_85 : decode cX3_init 85 = .ok (.newarray .int, 2) := by decide +kernel
theorem dX3_init_87 : decode cX3_init 87 = .ok (.putfield 47, 3) := by decide +kernel
theorem dX3_init_90 : decode cX3_init 90 = .ok (.aload_n 0, 1) := by decide +kernel
theorem dX3_init_91 : decode cX3_init 91 = .ok (.iconst (-1), 1) := by decide +kernel
theorem dX3_init_92 : decode cX3_init 92 = .ok (.putfield 50, 3) := by decide +kernel
theorem dX3_init_95 : decode cX3_init 95 = .ok (.iconst 0, 1) := by decide +kernel
theorem dX3_init_96 : decode cX3_init 96 = .ok (.istore_n 1, 1) := by decide +kernel
theorem dX3_init_97 : decode cX3_init 97 = .ok (.iload_n 1, 1) := by decide +kernel
theorem dX3_init_98 : decode cX3_init 98 = .ok (.bipush 12, 2) := by decide +kernel
theorem dX3_init_100 : decode cX3_init 100 = .ok (.if_icmp .ge 25, 3) := by decide +kernel
theorem dX3_init_103 : decode cX3_init 103 = .ok (.aload_n 0, 1) := by decide +kernel
theorem dX3_init_104 : decode cX3_init 104 = .ok (.getfield 25, 3) := by decide +kernel
theorem dX3_init_107 : decode cX3_init 107 = .ok (.iload_n 1, 1) := by decide +kernel
theorem dX3_init_108 : decode cX3_init 108 = .ok (.bipush 100, 2) := by decide +kernel
theorem dX3_init_110 : decode cX3_init 110 = .ok (.iastore, 1) := by decide +kernel
theorem dX3_init_111 : decode cX3_init 111 = .ok (.aload_n 0, 1) := by decide +kernel
theorem dX3_init_112 : decode cX3_init 112 = .ok (.getfield 29, 3) := by decide +kernel
theorem dX3_init_115 : decode cX3_init 115 = .ok (.iload_n 1, 1) := by decide +kernel
theorem dX3_init_116 : decode cX3_init 116 = .ok (.bipush 100, 2) := by decide +kernel
theorem dX3_init_118 : decode cX3_init 118 = .ok (.iastore, 1) := by decide +kernel
theorem dX3_init_119 : decode cX3_init 119 = .ok (.iinc 1 1, 3) := by decide +kernel
theorem dX3_init_122 : decode cX3_init 122 = .ok (.goto (-25), 3) := by decide +kernel
theorem dX3_init_125 : decode cX3_init 125 = .ok (.return_, 1) := by decide +kernel
set_option maxRecDepth 20000 in
theorem ggX3_becomeLike_X1_becomeLike : GoodIn wsX3_becomeLike wsX1_becomeLike := goodIn_r _ [19, 20, 21, 9, 10, 11, 22, 39, 40] (by decide +kernel) (by decide +kernel)
set_option maxRecDepth 20000 in
theorem gX3_becomeLike_X1_becomeLike : GoodIn wsX3_becomeLike (wsV RX3 69 RX1 yX1_becomeLike wsX1_becomeLike) := goodIn_app (goodIn_of _ (by decide +kernel)) ggX3_becomeLike_X1_becomeLike
theorem dX3_becomeLike_0 : decode cX3_becomeLike 0 = .ok (.aload_n 0, 1) := by decide +kernel
theorem dX3_becomeLike_1 : decode cX3_becomeLike 1 = .ok (.aload_n 1, 1) := by decide +kernel
theorem dX3_becomeLike_2 : decode cX3_becomeLike 2 = .ok (.getfield 54, 3) := by decide +kernel
theorem dX3_becomeLike_5 : decode cX3_becomeLike 5 = .ok (.putfield 54, 3) := by decide +kernel
theorem dX3_becomeLike_8 : decode cX3_becomeLike 8 = .ok (.aload_n 0, 1) := by decide +kernel
theorem dX3_becomeLike_9 : decode cX3_becomeLike 9 = .ok (.aload_n 1, 1) := by decide +kernel
theorem dX3_becomeLike_10 : decode cX3_becomeLike 10 = .ok (.getfield 57, 3) := by decide +kernel
theorem dX3_becomeLike_13 : decode cX3_becomeLike 13 = .ok (.putfield 57, 3) := by decide +kernel
theorem dX3_becomeLike_16 : decode cX3_becomeLike 16 = .ok (.aload_n 0, 1) := by decide +kernel
theorem dX3_becomeLike_17 : decode cX3_becomeLike 17 = .ok (.aload_n 1, 1) := by decide +kernel
theorem dX3_becomeLike_18 : decode cX3_becomeLike 18 = .ok (.getfield 60, 3) := by decide +kernel
theorem dX3_becomeLike_21 : decode cX3_becomeLike 21 = .ok (.putfield 60, 3) := by decide +kernel
theorem dX3_becomeLike_24 : decode cX3_becomeLike 24 = .ok (.aload_n 0, 1) := by decide +kernel
theorem dX3_becomeLike_25 : decode cX3_becomeLike 25 = .ok (.aload_n 1, 1) := by decide +kernel
theorem dX3_becomeLike_26 : decode cX3_becomeLike 26 = .ok (.getfield 63, 3) := by decide +kernel
theorem dX3_becomeLike_29 : decode cX3_becomeLike 29 = .ok (.putfield 63, 3) := by decide +kernel
theorem dX3_becomeLike_32 : decode cX3_becomeLike 32 = .ok (.aload_n 0, 1) := by decide +kernel
theorem dX3_becomeLike_33 : decode cX3_becomeLike 33 = .ok (.aload_n 1, 1) := by decide +kernel
theorem dX3_becomeLike_34 : decode cX3_becomeLike 34 = .ok (.getfield 66, 3) := by decide +kernel
theorem dX3_becomeLike_37 : decode cX3_becomeLike 37 = .ok (.putfield 66, 3) := by decide +kernel
theorem dX3_becomeLike_40 : decode cX3_becomeLike 40 = .ok (.aload_n 0, 1) := by decide +kernel
theorem dX3_becomeLike_41 : decode cX3_becomeLike 41 = .ok (.getfield 12, 3) := by decide +kernel
theorem dX3_becomeLike_44 : decode cX3_becomeLike 44 = .ok (.aload_n 1, 1) := by decide +kernel
theorem dX3_becomeLike_45 : decode cX3_becomeLike 45 = .ok (.getfield 12, 3) := by decide +kernel
theorem dX3_becomeLike_48 : decode cX3_becomeLike 48 = .ok (.invokevirtual 69, 3) := by decide +kernel
theorem dX3_becomeLike_51 : decode cX3_becomeLike 51 = .ok (.aload_n 1, 1) := by decide +kernel
theorem dX3_becomeLike_52 : decode cX3_becomeLike 52 = .ok (.getfield 25, 3) := by decide +kernel
theorem dX3_becomeLike_55 : decode cX3_becomeLike 55 = .ok (.iconst 0, 1) := by decide +kernel
theorem dX3_becomeLike_56 : decode cX3_becomeLike 56 = .ok (.aload_n 0, 1) := by decide +kernel
theorem dX3_becomeLike_57 : decode cX3_becomeLike 57 = .ok (.getfield 25, 3) := by decide +kernel
theorem dX3_becomeLike_60 : decode cX3_becomeLike 60 = .ok (.iconst 0, 1) := by decide +kernel
theorem dX3_becomeLike_61 : decode cX3_becomeLike 61 = .ok (.bipush 12, 2) := by decide +kernel
theorem dX3_becomeLike_63 : decode cX3_becomeLike 63 = .ok (.invokestatic 73, 3) := by decide +kernel
theorem dX3_becomeLike_66 : decode cX3_becomeLike 66 = .ok (.aload_n 1, 1) := by decide +kernel
theorem dX3_becomeLike_67 : decode cX3_becomeLike 67 = .ok (.getfield 29, 3) := by decide +kernel
theorem dX3_becomeLike_70 : decode cX3_becomeLike 70 = .ok (.iconst 0, 1) := by decide +kernel
theorem dX3_becomeLike_71 : decode cX3_becomeLike 71 = .ok (.aload_n 0, 1) := by decide +kernel
theorem dX3_becomeLike_72 : decode cX3_becomeLike 72 = .ok (.getfield 29, 3) := by decide +kernel
theorem dX3_becomeLike_75 : decode cX3_becomeLike 75 = .ok (.iconst 0, 1) := by decide +kernel
theorem dX3_becomeLike_76 : decode cX3_becomeLike 76 = .ok (.bipush 12, 2) := by decide +kernel
theorem dX3_becomeLike_78 : decode cX3_becomeLike 78 = .ok (.invokestatic 73, 3) := by decide +kernel
theorem dX3_becomeLike_81 : decode cX3_becomeLike 81 = .ok (.aload_n 1, 1) := by decide +kernel
theorem dX3_becomeLike_82 : decode cX3_becomeLike 82 = .ok (.getfield 32, 3) := by decide +kernel
theorem dX3_becomeLike_85 : decode cX3_becomeLike 85 = .ok (.iconst 0, 1) := by decide +kernel
theorem dX3_becomeLike_86 : decode cX3_becomeLike 86 = .ok (.aload_n 0, 1) := by decide +kernel
theorem dX3_becomeLike_87 : decode cX3_becomeLike 87 = .ok (.getfield 32, 3) := by decide +kernel
theorem dX3_becomeLike_90 : decode cX3_becomeLike 90 = .ok (.iconst 0, 1) := by decide +kernel
theorem dX3_becomeLike_91 : decode cX3_becomeLike 91 = .ok (.bipush 12, 2) := by decide +kernel
theorem dX3_becomeLike_93 : decode cX3_becomeLike 93 = .ok (.invokestatic 73, 3) := by decide +kernel
theorem dX3_becomeLike_96 : decode cX3_becomeLike 96 = .ok (.aload_n 1, 1) := by decide +kernel
theorem dX3_becomeLike_97 : decode cX3_becomeLike 97 = .ok (.getfield 35, 3) := by decide +kernel
theorem dX3_becomeLike_100 : decode cX3_becomeLike 100 = .ok (.iconst 0, 1) := by decide +kernel
theorem dX3_becomeLike_101 : decode cX3_becomeLike 101 = .ok (.aload_n 0, 1) := by decide +kernel
theorem dX3_becomeLike_102 : decode cX3_becomeLike 102 = .ok (.getfield 35, 3) := by decide +kernel
theorem dX3_becomeLike_105 : decode cX3_becomeLike 105 = .ok (.iconst 0, 1) := by decide +kernel
theorem dX3_becomeLike_106 : decode cX3_becomeLike 106 = .ok (.bipush 12, 2) := by decide +kernel
theorem dX3_becomeLike_108 : decode cX3_becomeLike 108 = .ok (.invokestatic 73, 3) := by decide +kernel
theorem dX3_becomeLike_111 : decode cX3_becomeLike 111 = .ok (.return_, 1) := by decide +kernel
set_option maxRecDepth 20000 in
theorem ggX3_goThroughYear_X3_snowOrMelt : GoodIn wsX3_goThroughYear wsX3_snowOrMelt := goodIn_r _ [6, 7, 8, 9, 10, 11, 1, 12, 13, 14, 15, 16, 17, 18, 19, 20, 21, 22, 23, 5, 24, 25, 26, 27, 28, 29, 30, 31, 32, 33, 34, 35, 36, 37, 38, 39, 40, 41, 42, 43, 44, 45, 46, 47, 48, 49, 50, 51, 112, 113, 114, 115, 116, 117, 118, 119, 120, 121, 122, 123, 124, 125, 126, 127, 128, 129, 130, 131, 132, 133, 134] (by decide +kernel) (by decide +kernel)
set_option maxRecDepth 20000 in
theorem gX3_goThroughYear_X3_snowOrMelt : GoodIn wsX3_goThroughYear (wsV RX3 79 RX3 yX3_snowOrMelt wsX3_snowOrMelt) := goodIn_app (goodIn_of _ (by decide +kernel)) ggX3_goThroughYear_X3_snowOrMelt
set_option maxRecDepth 20000 in
theorem ggX3_goThroughYear_X3_flow : GoodIn wsX3_goThroughYear wsX3_flow := goodIn_r _ [55, 56, 57, 9, 58, 59, 60, 5, 61, 21, 22, 23, 24, 25, 10, 62, 63, 64, 65, 66, 19, 67, 68, 69, 17, 70, 71, 72, 28, 73, 26, 27, 29, 74, 75, 76, 38, 77, 46, 16, 18, 47, 48, 49, 50, 40, 51, 36, 37, 39, 41, 112, 113, 114, 115, 116, 117, 118, 119, 120, 121, 122, 123, 124, 125, 126, 127, 128, 129] (by decide +kernel) (by decide +kernel)
set_option maxRecDepth 20000 in
theorem gX3_goThroughYear_X3_flow : GoodIn wsX3_goThroughYear (wsV RX3 83 RX3 yX3_flow wsX3_flow) := goodIn_app (goodIn_of _ (by decide +kernel)) ggX3_goThroughYear_X3_flow
set_option maxRecDepth 20000 in
theorem ggX3_goThroughYear_X3_runOff : GoodIn wsX3_goThroughYear wsX3_runOff := goodIn_r _ [81, 12, 82, 19, 30, 31, 32, 5, 33, 25, 34, 83, 84, 85, 86, 9, 10, 112, 113, 114, 115, 116, 117, 118, 119, 120, 121, 122, 123, 124, 125, 126, 127, 130, 131, 132, 133, 134, 128, 129] (by decide +kernel) (by decide +kernel)
set_option maxRecDepth 20000 in
theorem gX3_goThroughYear_X3_runOff : GoodIn wsX3_goThroughYear (wsV RX3 86 RX3 yX3_runOff wsX3_runOff) := goodIn_app (goodIn_of _ (by decide +kernel)) ggX3_goThroughYear_X3_runOff
set_option maxRecDepth 20000 in
theorem ggX3_goThroughYear_X3_breakOut : GoodIn wsX3_goThroughYear wsX3_breakOut := goodIn_r _ [90, 91, 19, 12, 82, 92, 93, 94, 5, 95, 9, 10, 15, 16, 17, 18, 112, 113, 114, 115, 116, 117, 118, 119, 120, 121, 122, 123, 124, 125, 126, 127, 130, 131, 132, 133, 134, 128, 129] (by decide +kernel) (by decide +kernel)
set_option maxRecDepth 20000 in
theorem gX3_goThroughYear_X3_breakOut : GoodIn wsX3_goThroughYear (wsV RX3 89 RX3 yX3_breakOut wsX3_breakOut) := goodIn_app (goodIn_of _ (by decide +kernel)) ggX3_goThroughYear_X3_breakOut
set_option maxRecDepth 20000 in
theorem ggX3_goThroughYear_X3_calve : GoodIn wsX3_goThroughYear wsX3_calve := goodIn_r _ [99, 9, 10, 34, 25, 12, 100, 30, 31, 32, 5, 33, 42, 43, 44, 38, 45, 46, 16, 17, 18, 47, 48, 49, 50, 40, 51, 36, 37, 39, 41, 112, 113, 114, 115, 116, 117, 118, 119, 120, 121, 122, 123, 124, 125, 126, 127, 128, 129, 130, 131, 132, 133, 134] (by decide +kernel) (by decide +kernel)
set_option maxRecDepth 20000 in
theorem gX3_goThroughYear_X3_calve : GoodIn wsX3_goThroughYear (wsV RX3 92 RX3 yX3_calve wsX3_calve) := goodIn_app (goodIn_of _ (by decide +kernel)) ggX3_goThroughYear_X3_calve
set_option maxRecDepth 20000 in
theorem ggX3_goThroughYear_X3_moveBed : GoodIn wsX3_goThroughYear wsX3_moveBed := goodIn_r _ [104, 105, 9, 10, 25, 26, 27, 28, 29, 112, 113, 114, 115, 116, 117, 118, 119, 120, 121, 122, 123, 124, 125, 126, 127, 128, 129] (by decide +kernel) (by decide +kernel)
set_option maxRecDepth 20000 in
theorem gX3_goThroughYear_X3_moveBed : GoodIn wsX3_goThroughYear (wsV RX3 95 RX3 yX3_moveBed wsX3_moveBed) := goodIn_app (goodIn_of _ (by decide +kernel)) ggX3_goThroughYear_X3_moveBed
set_option maxRecDepth 20000 in
theorem ggX3_goThroughYear_X3_markFront : GoodIn wsX3_goThroughYear wsX3_markFront := goodIn_r _ [109, 110, 9, 10, 111, 112, 113, 114, 115, 116, 117, 118, 119, 120, 121, 122, 123, 124, 125, 126, 127, 128, 129] (by decide +kernel) (by decide +kernel)
set_option maxRecDepth 20000 in
theorem gX3_goThroughYear_X3_markFront : GoodIn wsX3_goThroughYear (wsV RX3 98 RX3 yX3_markFront wsX3_markFront) := goodIn_app (goodIn_of _ (by decide +kernel)) ggX3_goThroughYear_X3_markFront
theorem dX3_goThroughYear_0 : decode cX3_goThroughYear 0 = .ok (.aload_n 0, 1) := by decide +kernel
theorem dX3_goThroughYear_1 : decode cX3_goThroughYear 1 = .ok (.dup, 1) := by decide +kernel
theorem dX3_goThroughYear_2 : decode cX3_goThroughYear 2 = .ok (.getfield 54, 3) := by decide +kernel
theorem dX3_goThroughYear_5 : decode cX3_goThroughYear 5 = .ok (.iconst 1, 1) := by decide +kernel
theorem dX3_goThroughYear_6 : decode cX3_goThroughYear 6 = .ok (.iadd, 1) := by decide +kernel
theorem dX3_goThroughYear_7 : decode cX3_goThroughYear 7 = .ok (.putfield 54, 3) := by decide +kernel
theorem dX3_goThroughYear_10 : decode cX3_goThroughYear 10 = .ok (.iconst 0, 1) := by decide +kernel
theorem dX3_goThroughYear_11 : decode cX3_goThroughYear 11 = .ok (.istore_n 1, 1) := by decide +kernel
theorem dX3_goThroughYear_12 : decode cX3_goThroughYear 12 = .ok (.iload_n 1, 1) := by decide +kernel
theorem dX3_goThroughYear_13 : decode cX3_goThroughYear 13 = .ok (.bipush 12, 2) := by decide +kernel
theorem dX3_goThroughYear_15 : decode cX3_goThroughYear 15 = .ok (.if_icmp .ge 14, 3) := by decide +kernel
theorem dX3_goThroughYear_18 : decode cX3_goThroughYear 18 = .ok (.aload_n 0, 1) := by decide +kernel
theorem dX3_goThroughYear_19 : decode cX3_goThroughYear 19 = .ok (.iload_n 1, 1) := by decide +kernel
theorem dX3_goThroughYear_20 : decode cX3_goThroughYear 20 = .ok (.invokevirtual 79, 3) := by decide +kernel
theorem dX3_goThroughYear_23 : decode cX3_goThroughYear 23 = .ok (.iinc 1 1, 3) := by decide +kernel
theorem dX3_goThroughYear_26 : decode cX3_goThroughYear 26 = .ok (.goto (-14), 3) := by decide +kernel
theorem dX3_goThroughYear_29 : decode cX3_goThroughYear 29 = .ok (.aload_n 0, 1) := by decide +kernel
theorem dX3_goThroughYear_30 : decode cX3_goThroughYear 30 = .ok (.invokevirtual 83, 3) := by decide +kernel
theorem dX3_goThroughYear_33 : decode cX3_goThroughYear 33 = .ok (.iconst 0, 1) := by decide +kernel
theorem dX3_goThroughYear_34 : decode cX3_goThroughYear 34 = .ok (.istore_n 1, 1) := by decide +kernel
theorem dX3_goThroughYear_35 : decode cX3_goThroughYear 35 = .ok (.iload_n 1, 1) := by decide +kernel
theorem dX3_goThroughYear_36 : decode cX3_goThroughYear 36 = .ok (.bipush 12, 2) := by decide +kernel
theorem dX3_goThroughYear_38 : decode cX3_goThroughYear 38 = .ok (.if_icmp .ge 14, 3) := by decide +kernel
theorem dX3_goThroughYear_41 : decode cX3_goThroughYear 41 = .ok (.aload_n 0, 1) := by decide +kernel
theorem dX3_goThroughYear_42 : decode cX3_goThroughYear 42 = .ok (.iload_n 1, 1) := by decide +kernel
theorem dX3_goThroughYear_43 : decode cX3_goThroughYear 43 = .ok (.invokevirtual 86, 3) := by decide +kernel
theorem dX3_goThroughYear_46 : decode cX3_goThroughYear 46 = .ok (.iinc 1 1, 3) := by decide +kernel
theorem dX3_goThroughYear_49 : decode cX3_goThroughYear 49 = .ok (.goto (-14), 3) := by decide +kernel
theorem dX3_goThroughYear_52 : decode cX3_goThroughYear 52 = .ok (.iconst 0, 1) := by decide +kernel
theorem dX3_goThroughYear_53 : decode cX3_goThroughYear 53 = .ok (.istore_n 1, 1) := by decide +kernel
theorem dX3_goThroughYear_54 : decode cX3_goThroughYear 54 = .ok (.iload_n 1, 1) := by decide +kernel
theorem dX3_goThroughYear_55 : decode cX3_goThroughYear 55 = .ok (.bipush 12, 2) := by decide +kernel
theorem dX3_goThroughYear_57 : decode cX3_goThroughYear 57 = .ok (.if_icmp .ge 14, 3) := by decide +kernel
theorem dX3_goThroughYear_60 : decode cX3_goThroughYear 60 = .ok (.aload_n 0, 1) := by decide +kernel
theorem dX3_goThroughYear_61 : decode cX3_goThroughYear 61 = .ok (.iload_n 1, 1) := by decide +kernel
theorem dX3_goThroughYear_62 : decode cX3_goThroughYear 62 = .ok (.invokevirtual 89, 3) := by decide +kernel
theorem dX3_goThroughYear_65 : decode cX3_goThroughYear 65 = .ok (.iinc 1 1, 3) := by decide +kernel
theorem dX3_goThroughYear_68 : decode cX3_goThroughYear 68 = .ok (.goto (-14), 3) := by decide +kernel
theorem dX3_goThroughYear_71 : decode cX3_goThroughYear 71 = .ok (.aload_n 0, 1) := by decide +kernel
theorem dX3_goThroughYear_72 : decode cX3_goThroughYear 72 = .ok (.invokevirtual 92, 3) := by decide +kernel
theorem dX3_goThroughYear_75 : decode cX3_goThroughYear 75 = .ok (.iconst 0, 1) := by decide +kernel
theorem dX3_goThroughYear_76 : decode cX3_goThroughYear 76 = .ok (.istore_n 1, 1) := by decide +kernel
theorem dX3_goThroughYear_77 : decode cX3_goThroughYear 77 = .ok (.iload_n 1, 1) := by decide +kernel
theorem dX3_goThroughYear_78 : decode cX3_goThroughYear 78 = .ok (.bipush 12, 2) := by decide +kernel
theorem dX3_goThroughYear_80 : decode cX3_goThroughYear 80 = .ok (.if_icmp .ge 14, 3) := by decide +kernel
theorem dX3_goThroughYear_83 : decode cX3_goThroughYear 83 = .ok (.aload_n 0, 1) := by decide +kernel
theorem dX3_goThroughYear_84 : decode cX3_goThroughYear 84 = .ok (.iload_n 1, 1) := by decide +kernel
theorem dX3_goThroughYear_85 : decode cX3_goThroughYear 85 = .ok (.invokevirtual 95, 3) := by decide +kernel
theorem dX3_goThroughYear_88 : decode cX3_goThroughYear 88 = .ok (.iinc 1 1, 3) := by decide +kernel
theorem dX3_goThroughYear_91 : decode cX3_goThroughYear 91 = .ok (.goto (-14), 3) := by decide +kernel
theorem dX3_goThroughYear_94 : decode cX3_goThroughYear 94 = .ok (.aload_n 0, 1) := by decide +kernel
theorem dX3_goThroughYear_95 : decode cX3_goThroughYear 95 = .ok (.invokevirtual 98, 3) := by decide +kernel
theorem dX3_goThroughYear_98 : decode cX3_goThroughYear 98 = .ok (.return_, 1) := by decide +kernel
set_option maxRecDepth 20000 in
theorem ggX3_tellOf_X3_surface : GoodIn wsX3_tellOf wsX3_surface := goodIn_r _ [12, 1, 2, 3, 31, 32, 33, 34, 35, 36, 37, 38, 39, 40, 41, 42, 43, 44, 45, 46, 47, 48] (by decide +kernel) (by decide +kernel)
set_option maxRecDepth 20000 in
theorem gX3_tellOf_X3_surface : GoodIn wsX3_tellOf (wsV RX3 104 RX3 yX3_surface wsX3_surface) := goodIn_app (goodIn_of _ (by decide +kernel)) ggX3_tellOf_X3_surface
set_option maxRecDepth 20000 in
theorem ggX3_tellOf_X3_hasCrevasse : GoodIn wsX3_tellOf wsX3_hasCrevasse := goodIn_r _ [16, 17, 18, 19, 20, 21, 31, 32, 33, 34, 35, 36, 37, 38, 39, 40, 41, 42, 43, 44, 45, 46] (by decide +kernel) (by decide +kernel)
set_option maxRecDepth 20000 in
theorem gX3_tellOf_X3_hasCrevasse : GoodIn wsX3_tellOf (wsV RX3 108 RX3 yX3_hasCrevasse wsX3_hasCrevasse) := goodIn_app (goodIn_of _ (by decide +kernel)) ggX3_tellOf_X3_hasCrevasse
set_option maxRecDepth 20000 in
theorem ggX3_tellOf_X3_standsInSea : GoodIn wsX3_tellOf wsX3_standsInSea := goodIn_r _ [25, 1, 26, 31, 32, 33, 34, 35, 36, 37, 38, 39, 40, 41, 42, 43, 44, 45, 46] (by decide +kernel) (by decide +kernel)
set_option maxRecDepth 20000 in
theorem gX3_tellOf_X3_standsInSea : GoodIn wsX3_tellOf (wsV RX3 112 RX3 yX3_standsInSea wsX3_standsInSea) := goodIn_app (goodIn_of _ (by decide +kernel)) ggX3_tellOf_X3_standsInSea
set_option maxRecDepth 20000 in
theorem ggX3_tellOf_X3_potential : GoodIn wsX3_tellOf wsX3_potential := goodIn_r _ [30, 1, 2, 3, 31, 32, 33, 34, 35, 36, 37, 38, 39, 40, 41, 42, 43, 44, 45, 46, 47, 48] (by decide +kernel) (by decide +kernel)
set_option maxRecDepth 20000 in
theorem gX3_tellOf_X3_potential : GoodIn wsX3_tellOf (wsV RX3 115 RX3 yX3_potential wsX3_potential) := goodIn_app (goodIn_of _ (by decide +kernel)) ggX3_tellOf_X3_potential
theorem dX3_tellOf_0 : decode cX3_tellOf 0 = .ok (.iload_n 2, 1) := by decide +kernel
theorem dX3_tellOf_1 : decode cX3_tellOf 1 = .ok (.tableswitch 147 0 8 #[51, 58, 68, 75, 81, 88, 102, 126, 140], 51) := by decide +kernel
theorem dX3_tellOf_52 : decode cX3_tellOf 52 = .ok (.aload_n 0, 1) := by decide +kernel
theorem dX3_tellOf_53 : decode cX3_tellOf 53 = .ok (.getfield 25, 3) := by decide +kernel
theorem dX3_tellOf_56 : decode cX3_tellOf 56 = .ok (.iload_n 1, 1) := by decide +kernel
theorem dX3_tellOf_57 : decode cX3_tellOf 57 = .ok (.iaload, 1) := by decide +kernel
theorem dX3_tellOf_58 : decode cX3_tellOf 58 = .ok (.ireturn, 1) := by decide +kernel
theorem dX3_tellOf_59 : decode cX3_tellOf 59 = .ok (.aload_n 0, 1) := by decide +kernel
theorem dX3_tellOf_60 : decode cX3_tellOf 60 = .ok (.getfield 12, 3) := by decide +kernel
theorem dX3_tellOf_63 : decode cX3_tellOf 63 = .ok (.getfield 101, 3) := by decide +kernel
theorem dX3_tellOf_66 : decode cX3_tellOf 66 = .ok (.iload_n 1, 1) := by decide +kernel
theorem dX3_tellOf_67 : decode cX3_tellOf 67 = .ok (.iaload, 1) := by decide +kernel
theorem dX3_tellOf_68 : decode cX3_tellOf 68 = .ok (.ireturn, 1) := by decide +kernel
theorem dX3_tellOf_69 : decode cX3_tellOf 69 = .ok (.aload_n 0, 1) := by decide +kernel
theorem dX3_tellOf_70 : decode cX3_tellOf 70 = .ok (.getfield 32, 3) := by decide +kernel
theorem dX3_tellOf_73 : decode cX3_tellOf 73 = .ok (.iload_n 1, 1) := by decide +kernel
theorem dX3_tellOf_74 : decode cX3_tellOf 74 = .ok (.iaload, 1) := by decide +kernel
theorem dX3_tellOf_75 : decode cX3_tellOf 75 = .ok (.ireturn, 1) := by decide +kernel
theorem dX3_tellOf_76 : decode cX3_tellOf 76 = .ok (.aload_n 0, 1) := by decide +kernel
theorem dX3_tellOf_77 : decode cX3_tellOf 77 = .ok (.iload_n 1, 1) := by decide +kernel
theorem dX3_tellOf_78 : decode cX3_tellOf 78 = .ok (.invokevirtual 104, 3) := by decide +kernel
theorem dX3_tellOf_81 : decode cX3_tellOf 81 = .ok (.ireturn, 1) := by decide +kernel
theorem dX3_tellOf_82 : decode cX3_tellOf 82 = .ok (.aload_n 0, 1) := by decide +kernel
theorem dX3_tellOf_83 : decode cX3_tellOf 83 = .ok (.getfield 35, 3) := by decide +kernel
theorem dX3_tellOf_86 : decode cX3_tellOf 86 = .ok (.iload_n 1, 1) := by decide +kernel
theorem dX3_tellOf_87 : decode cX3_tellOf 87 = .ok (.iaload, 1) := by decide +kernel
theorem dX3_tellOf_88 : decode cX3_tellOf 88 = .ok (.ireturn, 1) := by decide +kernel
theorem dX3_tellOf_89 : decode cX3_tellOf 89 = .ok (.aload_n 0, 1) := by decide +kernel
theorem dX3_tellOf_90 : decode cX3_tellOf 90 = .ok (.iload_n 1, 1) := by decide +kernel
theorem dX3_tellOf_91 : decode cX3_tellOf 91 = .ok (.invokevirtual 108, 3) := by decide +kernel
theorem dX3_tellOf_94 : decode cX3_tellOf 94 = .ok (.ifCond .eq 7, 3) := by decide +kernel
theorem dX3_tellOf_97 : decode cX3_tellOf 97 = .ok (.iconst 1, 1) := by decide +kernel
theorem dX3_tellOf_98 : decode cX3_tellOf 98 = .ok (.goto 4, 3) := by decide +kernel
theorem dX3_tellOf_101 : decode cX3_tellOf 101 = .ok (.iconst 0, 1) := by decide +kernel
theorem dX3_tellOf_102 : decode cX3_tellOf 102 = .ok (.ireturn, 1) := by decide +kernel
theorem dX3_tellOf_103 : decode cX3_tellOf 103 = .ok (.aload_n 0, 1) := by decide +kernel
theorem dX3_tellOf_104 : decode cX3_tellOf 104 = .ok (.iload_n 1, 1) := by decide +kernel
theorem dX3_tellOf_105 : decode cX3_tellOf 105 = .ok (.invokevirtual 108, 3) := by decide +kernel
theorem dX3_tellOf_108 : decode cX3_tellOf 108 = .ok (.ifCond .eq 17, 3) := by decide +kernel
theorem dX3_tellOf_111 : decode cX3_tellOf 111 = .ok (.aload_n 0, 1) := by decide +kernel
theorem dX3_tellOf_112 : decode cX3_tellOf 112 = .ok (.getfield 38, 3) := by decide +kernel
theorem dX3_tellOf_115 : decode cX3_tellOf 115 = .ok (.iload_n 1, 1) := by decide +kernel
theorem dX3_tellOf_116 : decode cX3_tellOf 116 = .ok (.iaload, 1) := by decide +kernel
theorem dX3_tellOf_117 : decode cX3_tellOf 117 = .ok (.iconst 3, 1) := by decide +kernel
theorem dX3_tellOf_118 : decode cX3_tellOf 118 = .ok (.if_icmp .lt 7, 3) := by decide +kernel
theorem dX3_tellOf_121 : decode cX3_tellOf 121 = .ok (.iconst 1, 1) := by decide +kernel
theorem dX3_tellOf_122 : decode cX3_tellOf 122 = .ok (.goto 4, 3) := by decide +kernel
theorem dX3_tellOf_125 : decode cX3_tellOf 125 = .ok (.iconst 0, 1) := by decide +kernel
theorem dX3_tellOf_126 : decode cX3_tellOf 126 = .ok (.ireturn, 1) := by decide +kernel
theorem dX3_tellOf_127 : decode cX3_tellOf 127 = .ok (.aload_n 0, 1) := by decide +kernel
theorem dX3_tellOf_128 : decode cX3_tellOf 128 = .ok (.iload_n 1, 1) := by decide +kernel
theorem dX3_tellOf_129 : decode cX3_tellOf 129 = .ok (.invokevirtual 112, 3) := by decide +kernel
theorem dX3_tellOf_132 : decode cX3_tellOf 132 = .ok (.ifCond .eq 7, 3) := by decide +kernel
theorem dX3_tellOf_135 : decode cX3_tellOf 135 = .ok (.iconst 1, 1) := by decide +kernel
theorem dX3_tellOf_136 : decode cX3_tellOf 136 = .ok (.goto 4, 3) := by decide +kernel
theorem dX3_tellOf_139 : decode cX3_tellOf 139 = .ok (.iconst 0, 1) := by decide +kernel
theorem dX3_tellOf_140 : decode cX3_tellOf 140 = .ok (.ireturn, 1) := by decide +kernel
theorem dX3_tellOf_141 : decode cX3_tellOf 141 = .ok (.aload_n 0, 1) := by decide +kernel
theorem dX3_tellOf_142 : decode cX3_tellOf 142 = .ok (.getfield 29, 3) := by decide +kernel
theorem dX3_tellOf_145 : decode cX3_tellOf 145 = .ok (.iload_n 1, 1) := by decide +kernel
theorem dX3_tellOf_146 : decode cX3_tellOf 146 = .ok (.iaload, 1) := by decide +kernel
theorem dX3_tellOf_147 : decode cX3_tellOf 147 = .ok (.ireturn, 1) := by decide +kernel
theorem dX3_tellOf_148 : decode cX3_tellOf 148 = .ok (.aload_n 0, 1) := by decide +kernel
theorem dX3_tellOf_149 : decode cX3_tellOf 149 = .ok (.iload_n 1, 1) := by decide +kernel
theorem dX3_tellOf_150 : decode cX3_tellOf 150 = .ok (.invokevirtual 115, 3) := by decide +kernel
theorem dX3_tellOf_153 : decode cX3_tellOf 153 = .ok (.ireturn, 1) := by decide +kernel
theorem dX3_allWater_0 : decode cX3_allWater 0 = .ok (.iconst 0, 1) := by decide +kernel
theorem dX3_allWater_1 : decode cX3_allWater 1 = .ok (.istore_n 1, 1) := by decide +kernel
theorem dX3_allWater_2 : decode cX3_allWater 2 = .ok (.iconst 0, 1) := by decide +kernel
theorem dX3_allWater_3 : decode cX3_allWater 3 = .ok (.istore_n 2, 1) := by decide +kernel
theorem dX3_allWater_4 : decode cX3_allWater 4 = .ok (.iload_n 2, 1) := by decide +kernel
theorem dX3_allWater_5 : decode cX3_allWater 5 = .ok (.bipush 12, 2) := by decide +kernel
theorem dX3_allWater_7 : decode cX3_allWater 7 = .ok (.if_icmp .ge 18, 3) := by decide +kernel
theorem dX3_allWater_10 : decode cX3_allWater 10 = .ok (.iload_n 1, 1) := by decide +kernel
theorem dX3_allWater_11 : decode cX3_allWater 11 = .ok (.aload_n 0, 1) := by decide +kernel
theorem dX3_allWater_12 : decode cX3_allWater 12 = .ok (.getfield 32, 3) := by decide +kernel
theorem dX3_allWater_15 : decode cX3_allWater 15 = .ok (.iload_n 2, 1) := by decide +kernel
theorem dX3_allWater_16 : decode cX3_allWater 16 = .ok (.iaload, 1) := by decide +kernel
theorem dX3_allWater_17 : decode cX3_allWater 17 = .ok (.iadd, 1) := by decide +kernel
theorem dX3_allWater_18 : decode cX3_allWater 18 = .ok (.istore_n 1, 1) := by decide +kernel
theorem dX3_allWater_19 : decode cX3_allWater 19 = .ok (.iinc 2 1, 3) := by decide +kernel
theorem dX3_allWater_22 : decode cX3_allWater 22 = .ok (.goto (-18), 3) := by decide +kernel
theorem dX3_allWater_25 : decode cX3_allWater 25 = .ok (.iload_n 1, 1) := by decide +kernel
theorem dX3_allWater_26 : decode cX3_allWater 26 = .ok (.ireturn, 1) := by decide +kernel
theorem dX3_surface_0 : decode cX3_surface 0 = .ok (.aload_n 0, 1) := by decide +kernel
theorem dX3_surface_1 : decode cX3_surface 1 = .ok (.getfield 25, 3) := by decide +kernel
theorem dX3_surface_4 : decode cX3_surface 4 = .ok (.iload_n 1, 1) := by decide +kernel
theorem dX3_surface_5 : decode cX3_surface 5 = .ok (.iaload, 1) := by decide +kernel
theorem dX3_surface_6 : decode cX3_surface 6 = .ok (.aload_n 0, 1) := by decide +kernel
theorem dX3_surface_7 : decode cX3_surface 7 = .ok (.getfield 12, 3) := by decide +kernel
theorem dX3_surface_10 : decode cX3_surface 10 = .ok (.getfield 101, 3) := by decide +kernel
theorem dX3_surface_13 : decode cX3_surface 13 = .ok (.iload_n 1, 1) := by decide +kernel
theorem dX3_surface_14 : decode cX3_surface 14 = .ok (.iaload, 1) := by decide +kernel
theorem dX3_surface_15 : decode cX3_surface 15 = .ok (.iadd, 1) := by decide +kernel
theorem dX3_surface_16 : decode cX3_surface 16 = .ok (.ireturn, 1) := by decide +kernel
theorem dX3_potential_0 : decode cX3_potential 0 = .ok (.bipush 10, 2) := by decide +kernel
theorem dX3_potential_2 : decode cX3_potential 2 = .ok (.aload_n 0, 1) := by decide +kernel
theorem dX3_potential_3 : decode cX3_potential 3 = .ok (.getfield 25, 3) := by decide +kernel
theorem dX3_potential_6 : decode cX3_potential 6 = .ok (.iload_n 1, 1) := by decide +kernel
theorem dX3_potential_7 : decode cX3_potential 7 = .ok (.iaload, 1) := by decide +kernel
theorem dX3_potential_8 : decode cX3_potential 8 = .ok (.imul, 1) := by decide +kernel
theorem dX3_potential_9 : decode cX3_potential 9 = .ok (.bipush 9, 2) := by decide +kernel
theorem dX3_potential_11 : decode cX3_potential 11 = .ok (.aload_n 0, 1) := by decide +kernel
theorem dX3_potential_12 : decode cX3_potential 12 = .ok (.getfield 12, 3) := by decide +kernel
theorem dX3_potential_15 : decode cX3_potential 15 = .ok (.getfield 101, 3) := by decide +kernel
theorem dX3_potential_18 : decode cX3_potential 18 = .ok (.iload_n 1, 1) := by decide +kernel
theorem dX3_potential_19 : decode cX3_potential 19 = .ok (.iaload, 1) := by decide +kernel
theorem dX3_potential_20 : decode cX3_potential 20 = .ok (.imul, 1) := by decide +kernel
theorem dX3_potential_21 : decode cX3_potential 21 = .ok (.iadd, 1) := by decide +kernel
theorem dX3_potential_22 : decode cX3_potential 22 = .ok (.ireturn, 1) := by decide +kernel
theorem dX3_standsInSea_0 : decode cX3_standsInSea 0 = .ok (.aload_n 0, 1) := by decide +kernel
theorem dX3_standsInSea_1 : decode cX3_standsInSea 1 = .ok (.getfield 25, 3) := by decide +kernel
theorem dX3_standsInSea_4 : decode cX3_standsInSea 4 = .ok (.iload_n 1, 1) := by decide +kernel
theorem dX3_standsInSea_5 : decode cX3_standsInSea 5 = .ok (.iaload, 1) := by decide +kernel
theorem dX3_standsInSea_6 : decode cX3_standsInSea 6 = .ok (.aload_n 0, 1) := by decide +kernel
theorem dX3_standsInSea_7 : decode cX3_standsInSea 7 = .ok (.getfield 57, 3) := by decide +kernel
theorem dX3_standsInSea_10 : decode cX3_standsInSea 10 = .ok (.if_icmp .ge 7, 3) := by decide +kernel
theorem dX3_standsInSea_13 : decode cX3_standsInSea 13 = .ok (.iconst 1, 1) := by decide +kernel
theorem dX3_standsInSea_14 : decode cX3_standsInSea 14 = .ok (.goto 4, 3) := by decide +kernel
theorem dX3_standsInSea_17 : decode cX3_standsInSea 17 = .ok (.iconst 0, 1) := by decide +kernel
theorem dX3_standsInSea_18 : decode cX3_standsInSea 18 = .ok (.ireturn, 1) := by decide +kernel
theorem dX3_hasCrevasse_0 : decode cX3_hasCrevasse 0 = .ok (.aload_n 0, 1) := by decide +kernel
theorem dX3_hasCrevasse_1 : decode cX3_hasCrevasse 1 = .ok (.getfield 41, 3) := by decide +kernel
theorem dX3_hasCrevasse_4 : decode cX3_hasCrevasse 4 = .ok (.iload_n 1, 1) := by decide +kernel
theorem dX3_hasCrevasse_5 : decode cX3_hasCrevasse 5 = .ok (.iaload, 1) := by decide +kernel
theorem dX3_hasCrevasse_6 : decode cX3_hasCrevasse 6 = .ok (.invokestatic 118, 3) := by decide +kernel
theorem dX3_hasCrevasse_9 : decode cX3_hasCrevasse 9 = .ok (.iconst 5, 1) := by decide +kernel
theorem dX3_hasCrevasse_10 : decode cX3_hasCrevasse 10 = .ok (.if_icmp .lt 7, 3) := by decide +kernel
theorem dX3_hasCrevasse_13 : decode cX3_hasCrevasse 13 = .ok (.iconst 1, 1) := by decide +kernel
theorem dX3_hasCrevasse_14 : decode cX3_hasCrevasse 14 = .ok (.goto 4, 3) := by decide +kernel
theorem dX3_hasCrevasse_17 : decode cX3_hasCrevasse 17 = .ok (.iconst 0, 1) := by decide +kernel
theorem dX3_hasCrevasse_18 : decode cX3_hasCrevasse 18 = .ok (.ireturn, 1) := by decide +kernel
set_option maxRecDepth 20000 in
theorem ggX3_snowOrMelt_X3_surface : GoodIn wsX3_snowOrMelt wsX3_surface := goodIn_r _ [20, 21, 3, 4, 48, 49, 50, 51, 52, 53, 54, 55, 56, 57, 58, 59, 60, 61, 62, 63, 64, 65] (by decide +kernel) (by decide +kernel)
set_option maxRecDepth 20000 in
theorem gX3_snowOrMelt_X3_surface : GoodIn wsX3_snowOrMelt (wsV RX3 104 RX3 yX3_surface wsX3_surface) := goodIn_app (goodIn_of _ (by decide +kernel)) ggX3_snowOrMelt_X3_surface
set_option maxRecDepth 20000 in
theorem ggX3_snowOrMelt_J9_floorDiv_7cf53 : GoodIn wsX3_snowOrMelt wsJ9_floorDiv_7cf53 := goodIn_r _ [25] (by decide +kernel) (by decide +kernel)
set_option maxRecDepth 20000 in
theorem gX3_snowOrMelt_J9_floorDiv_7cf53 : GoodIn wsX3_snowOrMelt (va_wsS RX3 123 yJ9_floorDiv_7cf53 wsJ9_floorDiv_7cf53) := goodIn_app (goodIn_of _ (by decide +kernel)) ggX3_snowOrMelt_J9_floorDiv_7cf53
set_option maxRecDepth 20000 in
theorem ggX3_snowOrMelt_X3_standsInSea : GoodIn wsX3_snowOrMelt wsX3_standsInSea := goodIn_r _ [29, 21, 30, 48, 49, 50, 51, 52, 53, 54, 55, 56, 57, 58, 59, 60, 61, 62, 63] (by decide +kernel) (by decide +kernel)
set_option maxRecDepth 20000 in
theorem gX3_snowOrMelt_X3_standsInSea : GoodIn wsX3_snowOrMelt (wsV RX3 112 RX3 yX3_standsInSea wsX3_standsInSea) := goodIn_app (goodIn_of _ (by decide +kernel)) ggX3_snowOrMelt_X3_standsInSea
set_option maxRecDepth 20000 in
theorem ggX3_snowOrMelt_X1_lay : GoodIn wsX3_snowOrMelt wsX1_lay := goodIn_r _ [35, 36, 37, 64, 65] (by decide +kernel) (by decide +kernel)
set_option maxRecDepth 20000 in
theorem gX3_snowOrMelt_X1_lay : GoodIn wsX3_snowOrMelt (wsV RX3 127 RX1 yX1_lay wsX1_lay) := goodIn_app (goodIn_of _ (by decide +kernel)) ggX3_snowOrMelt_X1_lay
set_option maxRecDepth 20000 in
theorem ggX3_snowOrMelt_X1_takeLatest : GoodIn wsX3_snowOrMelt wsX1_takeLatest := goodIn_r _ [41, 42, 11, 12, 13, 43, 44, 45, 34, 46, 36, 47, 32, 33, 35, 37, 64, 65] (by decide +kernel) (by decide +kernel)
set_option maxRecDepth 20000 in
theorem gX3_snowOrMelt_X1_takeLatest : GoodIn wsX3_snowOrMelt (wsV RX3 137 RX1 yX1_takeLatest wsX1_takeLatest) := goodIn_app (goodIn_of _ (by decide +kernel)) ggX3_snowOrMelt_X1_takeLatest
theorem dX3_snowOrMelt_0 : decode cX3_snowOrMelt 0 = .ok (.aload_n 0, 1) := by decide +kernel
theorem dX3_snowOrMelt_1 : decode cX3_snowOrMelt 1 = .ok (.getfield 60, 3) := by decide +kernel
theorem dX3_snowOrMelt_4 : decode cX3_snowOrMelt 4 = .ok (.aload_n 0, 1) := by decide +kernel
theorem dX3_snowOrMelt_5 : decode cX3_snowOrMelt 5 = .ok (.iload_n 1, 1) := by decide +kernel
theorem dX3_snowOrMelt_6 : decode cX3_snowOrMelt 6 = .ok (.invokevirtual 104, 3) := by decide +kernel
theorem dX3_snowOrMelt_9 : decode cX3_snowOrMelt 9 = .ok (.iconst 2, 1) := by decide +kernel
theorem dX3_snowOrMelt_10 : decode cX3_snowOrMelt 10 = .ok (.invokestatic 123, 3) := by decide +kernel
theorem dX3_snowOrMelt_13 : decode cX3_snowOrMelt 13 = .ok (.isub, 1) := by decide +kernel
theorem dX3_snowOrMelt_14 : decode cX3_snowOrMelt 14 = .ok (.istore_n 2, 1) := by decide +kernel
theorem dX3_snowOrMelt_15 : decode cX3_snowOrMelt 15 = .ok (.aload_n 0, 1) := by decide +kernel
theorem dX3_snowOrMelt_16 : decode cX3_snowOrMelt 16 = .ok (.getfield 38, 3) := by decide +kernel
theorem dX3_snowOrMelt_19 : decode cX3_snowOrMelt 19 = .ok (.iload_n 1, 1) := by decide +kernel
theorem dX3_snowOrMelt_20 : decode cX3_snowOrMelt 20 = .ok (.iconst 0, 1) := by decide +kernel
theorem dX3_snowOrMelt_21 : decode cX3_snowOrMelt 21 = .ok (.iastore, 1) := by decide +kernel
theorem dX3_snowOrMelt_22 : decode cX3_snowOrMelt 22 = .ok (.iload_n 2, 1) := by decide +kernel
theorem dX3_snowOrMelt_23 : decode cX3_snowOrMelt 23 = .ok (.ifCond .ge 68, 3) := by decide +kernel
theorem dX3_snowOrMelt_26 : decode cX3_snowOrMelt 26 = .ok (.aload_n 0, 1) := by decide +kernel
theorem dX3_snowOrMelt_27 : decode cX3_snowOrMelt 27 = .ok (.getfield 12, 3) := by decide +kernel
theorem dX3_snowOrMelt_30 : decode cX3_snowOrMelt 30 = .ok (.getfield 101, 3) := by decide +kernel
theorem dX3_snowOrMelt_33 : decode cX3_snowOrMelt 33 = .ok (.iload_n 1, 1) := by decide +kernel
theorem dX3_snowOrMelt_34 : decode cX3_snowOrMelt 34 = .ok (.iaload, 1) := by decide +kernel
theorem dX3_snowOrMelt_35 : decode cX3_snowOrMelt 35 = .ok (.ifCond .gt 11, 3) := by decide +kernel
theorem dX3_snowOrMelt_38 : decode cX3_snowOrMelt 38 = .ok (.aload_n 0, 1) := by decide +kernel
theorem dX3_snowOrMelt_39 : decode cX3_snowOrMelt 39 = .ok (.iload_n 1, 1) := by decide +kernel
theorem dX3_snowOrMelt_40 : decode cX3_snowOrMelt 40 = .ok (.invokevirtual 112, 3) := by decide +kernel
theorem dX3_snowOrMelt_43 : decode cX3_snowOrMelt 43 = .ok (.ifCond .ne 48, 3) := by decide +kernel
theorem dX3_snowOrMelt_46 : decode cX3_snowOrMelt 46 = .ok (.aload_n 0, 1) := by decide +kernel
theorem dX3_snowOrMelt_47 : decode cX3_snowOrMelt 47 = .ok (.getfield 38, 3) := by decide +kernel
theorem dX3_snowOrMelt_50 : decode cX3_snowOrMelt 50 = .ok (.iload_n 1, 1) := by decide +kernel
theorem dX3_snowOrMelt_51 : decode cX3_snowOrMelt 51 = .ok (.aload_n 0, 1) := by decide +kernel
theorem dX3_snowOrMelt_52 : decode cX3_snowOrMelt 52 = .ok (.getfield 63, 3) := by decide +kernel
theorem dX3_snowOrMelt_55 : decode cX3_snowOrMelt 55 = .ok (.iastore, 1) := by decide +kernel
theorem dX3_snowOrMelt_56 : decode cX3_snowOrMelt 56 = .ok (.aload_n 0, 1) := by decide +kernel
theorem dX3_snowOrMelt_57 : decode cX3_snowOrMelt 57 = .ok (.getfield 12, 3) := by decide +kernel
theorem dX3_snowOrMelt_60 : decode cX3_snowOrMelt 60 = .ok (.iload_n 1, 1) := by decide +kernel
theorem dX3_snowOrMelt_61 : decode cX3_snowOrMelt 61 = .ok (.aload_n 0, 1) := by decide +kernel
theorem dX3_snowOrMelt_62 : decode cX3_snowOrMelt 62 = .ok (.getfield 54, 3) := by decide +kernel
theorem dX3_snowOrMelt_65 : decode cX3_snowOrMelt 65 = .ok (.aload_n 0, 1) := by decide +kernel
theorem dX3_snowOrMelt_66 : decode cX3_snowOrMelt 66 = .ok (.getfield 63, 3) := by decide +kernel
theorem dX3_snowOrMelt_69 : decode cX3_snowOrMelt 69 = .ok (.invokevirtual 127, 3) := by decide +kernel
theorem dX3_snowOrMelt_72 : decode cX3_snowOrMelt 72 = .ok (.aload_n 0, 1) := by decide +kernel
theorem dX3_snowOrMelt_73 : decode cX3_snowOrMelt 73 = .ok (.getfield 21, 3) := by decide +kernel
theorem dX3_snowOrMelt_76 : decode cX3_snowOrMelt 76 = .ok (.dup, 1) := by decide +kernel
theorem dX3_snowOrMelt_77 : decode cX3_snowOrMelt 77 = .ok (.getfield 131, 3) := by decide +kernel
theorem dX3_snowOrMelt_80 : decode cX3_snowOrMelt 80 = .ok (.aload_n 0, 1) := by decide +kernel
theorem dX3_snowOrMelt_81 : decode cX3_snowOrMelt 81 = .ok (.getfield 63, 3) := by decide +kernel
theorem dX3_snowOrMelt_84 : decode cX3_snowOrMelt 84 = .ok (.iadd, 1) := by decide +kernel
theorem dX3_snowOrMelt_85 : decode cX3_snowOrMelt 85 = .ok (.putfield 131, 3) := by decide +kernel
theorem dX3_snowOrMelt_88 : decode cX3_snowOrMelt 88 = .ok (.goto 63, 3) := by decide +kernel
theorem dX3_snowOrMelt_91 : decode cX3_snowOrMelt 91 = .ok (.iload_n 2, 1) := by decide +kernel
theorem dX3_snowOrMelt_92 : decode cX3_snowOrMelt 92 = .ok (.ifCond .le 59, 3) := by decide +kernel
theorem dX3_snowOrMelt_95 : decode cX3_snowOrMelt 95 = .ok (.iload_n 2, 1) := by decide +kernel
theorem dX3_snowOrMelt_96 : decode cX3_snowOrMelt 96 = .ok (.aload_n 0, 1) := by decide +kernel
theorem dX3_snowOrMelt_97 : decode cX3_snowOrMelt 97 = .ok (.getfield 66, 3) := by decide +kernel
theorem dX3_snowOrMelt_100 : decode cX3_snowOrMelt 100 = .ok (.imul, 1) := by decide +kernel
theorem dX3_snowOrMelt_101 : decode cX3_snowOrMelt 101 = .ok (.bipush 10, 2) := by decide +kernel
theorem dX3_snowOrMelt_103 : decode cX3_snowOrMelt 103 = .ok (.invokestatic 123, 3) := by decide +kernel
theorem dX3_snowOrMelt_106 : decode cX3_snowOrMelt 106 = .ok (.aload_n 0, 1) := by decide +kernel
theorem dX3_snowOrMelt_107 : decode cX3_snowOrMelt 107 = .ok (.getfield 12, 3) := by decide +kernel
theorem dX3_snowOrMelt_110 : decode cX3_snowOrMelt 110 = .ok (.getfield 101, 3) := by decide +kernel
theorem dX3_snowOrMelt_113 : decode cX3_snowOrMelt 113 = .ok (.iload_n 1, 1) := by decide +kernel
theorem dX3_snowOrMelt_114 : decode cX3_snowOrMelt 114 = .ok (.iaload, 1) := by decide +kernel
theorem dX3_snowOrMelt_115 : decode cX3_snowOrMelt 115 = .ok (.invokestatic 134, 3) := by decide +kernel
theorem dX3_snowOrMelt_118 : decode cX3_snowOrMelt 118 = .ok (.istore_n 3, 1) := by decide +kernel
theorem dX3_snowOrMelt_119 : decode cX3_snowOrMelt 119 = .ok (.aload_n 0, 1) := by decide +kernel
theorem dX3_snowOrMelt_120 : decode cX3_snowOrMelt 120 = .ok (.getfield 12, 3) := by decide +kernel
theorem dX3_snowOrMelt_123 : decode cX3_snowOrMelt 123 = .ok (.iload_n 1, 1) := by decide +kernel
theorem dX3_snowOrMelt_124 : decode cX3_snowOrMelt 124 = .ok (.iload_n 3, 1) := by decide +kernel
theorem dX3_snowOrMelt_125 : decode cX3_snowOrMelt 125 = .ok (.invokevirtual 137, 3) := by decide +kernel
theorem dX3_snowOrMelt_128 : decode cX3_snowOrMelt 128 = .ok (.aload_n 0, 1) := by decide +kernel
theorem dX3_snowOrMelt_129 : decode cX3_snowOrMelt 129 = .ok (.getfield 32, 3) := by decide +kernel
theorem dX3_snowOrMelt_132 : decode cX3_snowOrMelt 132 = .ok (.iload_n 1, 1) := by decide +kernel
theorem dX3_snowOrMelt_133 : decode cX3_snowOrMelt 133 = .ok (.dup2, 1) := by decide +kernel
theorem dX3_snowOrMelt_134 : decode cX3_snowOrMelt 134 = .ok (.iaload, 1) := by decide +kernel
theorem dX3_snowOrMelt_135 : decode cX3_snowOrMelt 135 = .ok (.iload_n 3, 1) := by decide +kernel
theorem dX3_snowOrMelt_136 : decode cX3_snowOrMelt 136 = .ok (.iadd, 1) := by decide +kernel
theorem dX3_snowOrMelt_137 : decode cX3_snowOrMelt 137 = .ok (.iastore, 1) := by decide +kernel
theorem dX3_snowOrMelt_138 : decode cX3_snowOrMelt 138 = .ok (.aload_n 0, 1) := by decide +kernel
theorem dX3_snowOrMelt_139 : decode cX3_snowOrMelt 139 = .ok (.getfield 21, 3) := by decide +kernel
theorem dX3_snowOrMelt_142 : decode cX3_snowOrMelt 142 = .ok (.dup, 1) := by decide +kernel
theorem dX3_snowOrMelt_143 : decode cX3_snowOrMelt 143 = .ok (.getfield 141, 3) := by decide +kernel
theorem dX3_snowOrMelt_146 : decode cX3_snowOrMelt 146 = .ok (.iload_n 3, 1) := by decide +kernel
theorem dX3_snowOrMelt_147 : decode cX3_snowOrMelt 147 = .ok (.iadd, 1) := by decide +kernel
theorem dX3_snowOrMelt_148 : decode cX3_snowOrMelt 148 = .ok (.putfield 141, 3) := by decide +kernel
theorem dX3_snowOrMelt_151 : decode cX3_snowOrMelt 151 = .ok (.return_, 1) := by decide +kernel
set_option maxRecDepth 20000 in
theorem ggX3_flow_X3_givenToNext : GoodIn wsX3_flow wsX3_givenToNext := goodIn_r _ [8, 9, 10, 11, 7, 12, 13, 3, 14, 15, 16, 17, 18, 19, 20, 21, 22, 23, 24, 25, 26, 27, 28, 29, 30, 31, 32, 51, 52, 53, 54, 55, 56, 57, 58, 59, 60, 61, 62, 63, 64, 65, 66, 67, 68] (by decide +kernel) (by decide +kernel)
set_option maxRecDepth 20000 in
theorem gX3_flow_X3_givenToNext : GoodIn wsX3_flow (wsV RX3 144 RX3 yX3_givenToNext wsX3_givenToNext) := goodIn_app (goodIn_of _ (by decide +kernel)) ggX3_flow_X3_givenToNext
set_option maxRecDepth 20000 in
theorem ggX3_flow_X1_carry : GoodIn wsX3_flow wsX1_carry := goodIn_r _ [37, 38, 39, 24, 40, 41, 42, 43, 36, 44, 45, 46, 47, 48, 49, 50, 67, 68] (by decide +kernel) (by decide +kernel)
set_option maxRecDepth 20000 in
theorem gX3_flow_X1_carry : GoodIn wsX3_flow (wsV RX3 147 RX1 yX1_carry wsX1_carry) := goodIn_app (goodIn_of _ (by decide +kernel)) ggX3_flow_X1_carry
theorem dX3_flow_0 : decode cX3_flow 0 = .ok (.iconst 0, 1) := by decide +kernel
theorem dX3_flow_1 : decode cX3_flow 1 = .ok (.istore_n 1, 1) := by decide +kernel
theorem dX3_flow_2 : decode cX3_flow 2 = .ok (.iload_n 1, 1) := by decide +kernel
theorem dX3_flow_3 : decode cX3_flow 3 = .ok (.bipush 11, 2) := by decide +kernel
theorem dX3_flow_5 : decode cX3_flow 5 = .ok (.if_icmp .ge 20, 3) := by decide +kernel
theorem dX3_flow_8 : decode cX3_flow 8 = .ok (.aload_n 0, 1) := by decide +kernel
theorem dX3_flow_9 : decode cX3_flow 9 = .ok (.getfield 44, 3) := by decide +kernel
theorem dX3_flow_12 : decode cX3_flow 12 = .ok (.iload_n 1, 1) := by decide +kernel
theorem dX3_flow_13 : decode cX3_flow 13 = .ok (.aload_n 0, 1) := by decide +kernel
theorem dX3_flow_14 : decode cX3_flow 14 = .ok (.iload_n 1, 1) := by decide +kernel
theorem dX3_flow_15 : decode cX3_flow 15 = .ok (.invokevirtual 144, 3) := by decide +kernel
theorem dX3_flow_18 : decode cX3_flow 18 = .ok (.iastore, 1) := by decide +kernel
theorem dX3_flow_19 : decode cX3_flow 19 = .ok (.iinc 1 1, 3) := by decide +kernel
theorem dX3_flow_22 : decode cX3_flow 22 = .ok (.goto (-20), 3) := by decide +kernel
theorem dX3_flow_25 : decode cX3_flow 25 = .ok (.iconst 0, 1) := by decide +kernel
theorem dX3_flow_26 : decode cX3_flow 26 = .ok (.istore_n 1, 1) := by decide +kernel
theorem dX3_flow_27 : decode cX3_flow 27 = .ok (.iload_n 1, 1) := by decide +kernel
theorem dX3_flow_28 : decode cX3_flow 28 = .ok (.bipush 12, 2) := by decide +kernel
theorem dX3_flow_30 : decode cX3_flow 30 = .ok (.if_icmp .ge 16, 3) := by decide +kernel
theorem dX3_flow_33 : decode cX3_flow 33 = .ok (.aload_n 0, 1) := by decide +kernel
theorem dX3_flow_34 : decode cX3_flow 34 = .ok (.getfield 41, 3) := by decide +kernel
theorem dX3_flow_37 : decode cX3_flow 37 = .ok (.iload_n 1, 1) := by decide +kernel
theorem dX3_flow_38 : decode cX3_flow 38 = .ok (.iconst 0, 1) := by decide +kernel
theorem dX3_flow_39 : decode cX3_flow 39 = .ok (.iastore, 1) := by decide +kernel
theorem dX3_flow_40 : decode cX3_flow 40 = .ok (.iinc 1 1, 3) := by decide +kernel
theorem dX3_flow_43 : decode cX3_flow 43 = .ok (.goto (-16), 3) := by decide +kernel
theorem dX3_flow_46 : decode cX3_flow 46 = .ok (.iconst 0, 1) := by decide +kernel
theorem dX3_flow_47 : decode cX3_flow 47 = .ok (.istore_n 1, 1) := by decide +kernel
theorem dX3_flow_48 : decode cX3_flow 48 = .ok (.iload_n 1, 1) := by decide +kernel
theorem dX3_flow_49 : decode cX3_flow 49 = .ok (.bipush 11, 2) := by decide +kernel
theorem dX3_flow_51 : decode cX3_flow 51 = .ok (.if_icmp .ge 74, 3) := by decide +kernel
theorem dX3_flow_54 : decode cX3_flow 54 = .ok (.aload_n 0, 1) := by decide +kernel
theorem dX3_flow_55 : decode cX3_flow 55 = .ok (.getfield 44, 3) := by decide +kernel
theorem dX3_flow_58 : decode cX3_flow 58 = .ok (.iload_n 1, 1) := by decide +kernel
theorem dX3_flow_59 : decode cX3_flow 59 = .ok (.iaload, 1) := by decide +kernel
theorem dX3_flow_60 : decode cX3_flow 60 = .ok (.istore_n 2, 1) := by decide +kernel
theorem dX3_flow_61 : decode cX3_flow 61 = .ok (.aload_n 0, 1) := by decide +kernel
theorem dX3_flow_62 : decode cX3_flow 62 = .ok (.getfield 41, 3) := by decide +kernel
theorem dX3_flow_65 : decode cX3_flow 65 = .ok (.iload_n 1, 1) := by decide +kernel
theorem dX3_flow_66 : decode cX3_flow 66 = .ok (.dup2, 1) := by decide +kernel
theorem dX3_flow_67 : decode cX3_flow 67 = .ok (.iaload, 1) := by decide +kernel
theorem dX3_flow_68 : decode cX3_flow 68 = .ok (.iload_n 2, 1) := by decide +kernel
theorem dX3_flow_69 : decode cX3_flow 69 = .ok (.isub, 1) := by decide +kernel
theorem dX3_flow_70 : decode cX3_flow 70 = .ok (.iastore, 1) := by decide +kernel
theorem dX3_flow_71 : decode cX3_flow 71 = .ok (.aload_n 0, 1) := by decide +kernel
theorem dX3_flow_72 : decode cX3_flow 72 = .ok (.getfield 41, 3) := by decide +kernel
theorem dX3_flow_75 : decode cX3_flow 75 = .ok (.iload_n 1, 1) := by decide +kernel
theorem dX3_flow_76 : decode cX3_flow 76 = .ok (.iconst 1, 1) := by decide +kernel
theorem dX3_flow_77 : decode cX3_flow 77 = .ok (.iadd, 1) := by decide +kernel
theorem dX3_flow_78 : decode cX3_flow 78 = .ok (.dup2, 1) := by decide +kernel
theorem dX3_flow_79 : decode cX3_flow 79 = .ok (.iaload, 1) := by decide +kernel
theorem dX3_flow_80 : decode cX3_flow 80 = .ok (.iload_n 2, 1) := by decide +kernel
theorem dX3_flow_81 : decode cX3_flow 81 = .ok (.iadd, 1) := by decide +kernel
theorem dX3_flow_82 : decode cX3_flow 82 = .ok (.iastore, 1) := by decide +kernel
theorem dX3_flow_83 : decode cX3_flow 83 = .ok (.iload_n 2, 1) := by decide +kernel
theorem dX3_flow_84 : decode cX3_flow 84 = .ok (.ifCond .le 18, 3) := by decide +kernel
theorem dX3_flow_87 : decode cX3_flow 87 = .ok (.aload_n 0, 1) := by decide +kernel
theorem dX3_flow_88 : decode cX3_flow 88 = .ok (.getfield 12, 3) := by decide +kernel
theorem dX3_flow_91 : decode cX3_flow 91 = .ok (.iload_n 1, 1) := by decide +kernel
theorem dX3_flow_92 : decode cX3_flow 92 = .ok (.iload_n 1, 1) := by decide +kernel
theorem dX3_flow_93 : decode cX3_flow 93 = .ok (.iconst 1, 1) := by decide +kernel
theorem dX3_flow_94 : decode cX3_flow 94 = .ok (.iadd, 1) := by decide +kernel
theorem dX3_flow_95 : decode cX3_flow 95 = .ok (.iload_n 2, 1) := by decide +kernel
theorem dX3_flow_96 : decode cX3_flow 96 = .ok (.invokevirtual 147, 3) := by decide +kernel
theorem dX3_flow_99 : decode cX3_flow 99 = .ok (.goto 20, 3) := by decide +kernel
theorem dX3_flow_102 : decode cX3_flow 102 = .ok (.iload_n 2, 1) := by decide +kernel
theorem dX3_flow_103 : decode cX3_flow 103 = .ok (.ifCond .ge 16, 3) := by decide +kernel
theorem dX3_flow_106 : decode cX3_flow 106 = .ok (.aload_n 0, 1) := by decide +kernel
theorem dX3_flow_107 : decode cX3_flow 107 = .ok (.getfield 12, 3) := by decide +kernel
theorem dX3_flow_110 : decode cX3_flow 110 = .ok (.iload_n 1, 1) := by decide +kernel
theorem dX3_flow_111 : decode cX3_flow 111 = .ok (.iconst 1, 1) := by decide +kernel
theorem dX3_flow_112 : decode cX3_flow 112 = .ok (.iadd, 1) := by decide +kernel
theorem dX3_flow_113 : decode cX3_flow 113 = .ok (.iload_n 1, 1) := by decide +kernel
theorem dX3_flow_114 : decode cX3_flow 114 = .ok (.iload_n 2, 1) := by decide +kernel
theorem dX3_flow_115 : decode cX3_flow 115 = .ok (.ineg, 1) := by decide +kernel
theorem dX3_flow_116 : decode cX3_flow 116 = .ok (.invokevirtual 147, 3) := by decide +kernel
theorem dX3_flow_119 : decode cX3_flow 119 = .ok (.iinc 1 1, 3) := by decide +kernel
theorem dX3_flow_122 : decode cX3_flow 122 = .ok (.goto (-74), 3) := by decide +kernel
theorem dX3_flow_125 : decode cX3_flow 125 = .ok (.return_, 1) := by decide +kernel
set_option maxRecDepth 20000 in
theorem ggX3_givenToNext_X3_surface : GoodIn wsX3_givenToNext wsX3_surface := goodIn_r _ [5, 6, 7, 8, 27, 28, 29, 30, 31, 32, 33, 34, 35, 36, 37, 38, 39, 40, 41, 42, 43, 44] (by decide +kernel) (by decide +kernel)
set_option maxRecDepth 20000 in
theorem gX3_givenToNext_X3_surface : GoodIn wsX3_givenToNext (wsV RX3 104 RX3 yX3_surface wsX3_surface) := goodIn_app (goodIn_of _ (by decide +kernel)) ggX3_givenToNext_X3_surface
set_option maxRecDepth 20000 in
theorem ggX3_givenToNext_X3_givenBy : GoodIn wsX3_givenToNext wsX3_givenBy := goodIn_r _ [12, 7, 8, 13, 14, 15, 16, 17, 18, 19, 20, 21, 22, 23, 24, 25, 26, 27, 28, 29, 30, 31, 32, 33, 34, 35, 36, 37, 38, 39, 40, 41, 42, 43, 44] (by decide +kernel) (by decide +kernel)
set_option maxRecDepth 20000 in
theorem gX3_givenToNext_X3_givenBy : GoodIn wsX3_givenToNext (wsV RX3 150 RX3 yX3_givenBy wsX3_givenBy) := goodIn_app (goodIn_of _ (by decide +kernel)) ggX3_givenToNext_X3_givenBy
theorem dX3_givenToNext_0 : decode cX3_givenToNext 0 = .ok (.aload_n 0, 1) := by decide +kernel
theorem dX3_givenToNext_1 : decode cX3_givenToNext 1 = .ok (.iload_n 1, 1) := by decide +kernel
theorem dX3_givenToNext_2 : decode cX3_givenToNext 2 = .ok (.invokevirtual 104, 3) := by decide +kernel
theorem dX3_givenToNext_5 : decode cX3_givenToNext 5 = .ok (.aload_n 0, 1) := by decide +kernel
theorem dX3_givenToNext_6 : decode cX3_givenToNext 6 = .ok (.iload_n 1, 1) := by decide +kernel
theorem dX3_givenToNext_7 : decode cX3_givenToNext 7 = .ok (.iconst 1, 1) := by decide +kernel
theorem dX3_givenToNext_8 : decode cX3_givenToNext 8 = .ok (.iadd, 1) := by decide +kernel
theorem dX3_givenToNext_9 : decode cX3_givenToNext 9 = .ok (.invokevirtual 104, 3) := by decide +kernel
theorem dX3_givenToNext_12 : decode cX3_givenToNext 12 = .ok (.isub, 1) := by decide +kernel
theorem dX3_givenToNext_13 : decode cX3_givenToNext 13 = .ok (.istore_n 2, 1) := by decide +kernel
theorem dX3_givenToNext_14 : decode cX3_givenToNext 14 = .ok (.iload_n 2, 1) := by decide +kernel
theorem dX3_givenToNext_15 : decode cX3_givenToNext 15 = .ok (.ifCond .le 10, 3) := by decide +kernel
theorem dX3_givenToNext_18 : decode cX3_givenToNext 18 = .ok (.aload_n 0, 1) := by decide +kernel
theorem dX3_givenToNext_19 : decode cX3_givenToNext 19 = .ok (.iload_n 1, 1) := by decide +kernel
theorem dX3_givenToNext_20 : decode cX3_givenToNext 20 = .ok (.iload_n 2, 1) := by decide +kernel
theorem dX3_givenToNext_21 : decode cX3_givenToNext 21 = .ok (.invokevirtual 150, 3) := by decide +kernel
theorem dX3_givenToNext_24 : decode cX3_givenToNext 24 = .ok (.ireturn, 1) := by decide +kernel
theorem dX3_givenToNext_25 : decode cX3_givenToNext 25 = .ok (.aload_n 0, 1) := by decide +kernel
theorem dX3_givenToNext_26 : decode cX3_givenToNext 26 = .ok (.iload_n 1, 1) := by decide +kernel
theorem dX3_givenToNext_27 : decode cX3_givenToNext 27 = .ok (.iconst 1, 1) := by decide +kernel
theorem dX3_givenToNext_28 : decode cX3_givenToNext 28 = .ok (.iadd, 1) := by decide +kernel
theorem dX3_givenToNext_29 : decode cX3_givenToNext 29 = .ok (.iload_n 2, 1) := by decide +kernel
theorem dX3_givenToNext_30 : decode cX3_givenToNext 30 = .ok (.ineg, 1) := by decide +kernel
theorem dX3_givenToNext_31 : decode cX3_givenToNext 31 = .ok (.invokevirtual 150, 3) := by decide +kernel
theorem dX3_givenToNext_34 : decode cX3_givenToNext 34 = .ok (.ineg, 1) := by decide +kernel
theorem dX3_givenToNext_35 : decode cX3_givenToNext 35 = .ok (.ireturn, 1) := by decide +kernel
set_option maxRecDepth 20000 in
theorem ggX3_givenBy_J9_floorDiv_f86c9 : GoodIn wsX3_givenBy wsJ9_floorDiv_f86c9 := goodIn_r _ [13] (by decide +kernel) (by decide +kernel)
set_option maxRecDepth 20000 in
theorem gX3_givenBy_J9_floorDiv_f86c9 : GoodIn wsX3_givenBy (va_wsS RX3 155 yJ9_floorDiv_f86c9 wsJ9_floorDiv_f86c9) := goodIn_app (goodIn_of _ (by decide +kernel)) ggX3_givenBy_J9_floorDiv_f86c9
set_option maxRecDepth 20000 in
theorem ggX3_givenBy_J9_floorDiv_7cf53 : GoodIn wsX3_givenBy wsJ9_floorDiv_7cf53 := goodIn_r _ [16] (by decide +kernel) (by decide +kernel)
set_option maxRecDepth 20000 in
theorem gX3_givenBy_J9_floorDiv_7cf53 : GoodIn wsX3_givenBy (va_wsS RX3 123 yJ9_floorDiv_7cf53 wsJ9_floorDiv_7cf53) := goodIn_app (goodIn_of _ (by decide +kernel)) ggX3_givenBy_J9_floorDiv_7cf53
theorem dX3_givenBy_0 : decode cX3_givenBy 0 = .ok (.iload_n 2, 1) := by decide +kernel
theorem dX3_givenBy_1 : decode cX3_givenBy 1 = .ok (.i2l, 1) := by decide +kernel
theorem dX3_givenBy_2 : decode cX3_givenBy 2 = .ok (.aload_n 0, 1) := by decide +kernel
theorem dX3_givenBy_3 : decode cX3_givenBy 3 = .ok (.getfield 12, 3) := by decide +kernel
theorem dX3_givenBy_6 : decode cX3_givenBy 6 = .ok (.getfield 101, 3) := by decide +kernel
theorem dX3_givenBy_9 : decode cX3_givenBy 9 = .ok (.iload_n 1, 1) := by decide +kernel
theorem dX3_givenBy_10 : decode cX3_givenBy 10 = .ok (.iaload, 1) := by decide +kernel
theorem dX3_givenBy_11 : decode cX3_givenBy 11 = .ok (.i2l, 1) := by decide +kernel
theorem dX3_givenBy_12 : decode cX3_givenBy 12 = .ok (.lmul, 1) := by decide +kernel
theorem dX3_givenBy_13 : decode cX3_givenBy 13 = .ok (.ldc2_w 153, 3) := by decide +kernel
theorem dX3_givenBy_16 : decode cX3_givenBy 16 = .ok (.invokestatic 155, 3) := by decide +kernel
theorem dX3_givenBy_19 : decode cX3_givenBy 19 = .ok (.lstore_n 3, 1) := by decide +kernel
theorem dX3_givenBy_20 : decode cX3_givenBy 20 = .ok (.aload_n 0, 1) := by decide +kernel
theorem dX3_givenBy_21 : decode cX3_givenBy 21 = .ok (.getfield 32, 3) := by decide +kernel
theorem dX3_givenBy_24 : decode cX3_givenBy 24 = .ok (.iload_n 1, 1) := by decide +kernel
theorem dX3_givenBy_25 : decode cX3_givenBy 25 = .ok (.iaload, 1) := by decide +kernel
theorem dX3_givenBy_26 : decode cX3_givenBy 26 = .ok (.iconst 4, 1) := by decide +kernel
theorem dX3_givenBy_27 : decode cX3_givenBy 27 = .ok (.if_icmp .lt 9, 3) := by decide +kernel
theorem dX3_givenBy_30 : decode cX3_givenBy 30 = .ok (.lload_n 3, 1) := by decide +kernel
theorem dX3_givenBy_31 : decode cX3_givenBy 31 = .ok (.ldc2_w 158, 3) := by decide +kernel
theorem dX3_givenBy_34 : decode cX3_givenBy 34 = .ok (.lmul, 1) := by decide +kernel
theorem dX3_givenBy_35 : decode cX3_givenBy 35 = .ok (.lstore_n 3, 1) := by decide +kernel
theorem dX3_givenBy_36 : decode cX3_givenBy 36 = .ok (.lload_n 3, 1) := by decide +kernel
theorem dX3_givenBy_37 : decode cX3_givenBy 37 = .ok (.aload_n 0, 1) := by decide +kernel
theorem dX3_givenBy_38 : decode cX3_givenBy 38 = .ok (.getfield 12, 3) := by decide +kernel
theorem dX3_givenBy_41 : decode cX3_givenBy 41 = .ok (.getfield 101, 3) := by decide +kernel
theorem dX3_givenBy_44 : decode cX3_givenBy 44 = .ok (.iload_n 1, 1) := by decide +kernel
theorem dX3_givenBy_45 : decode cX3_givenBy 45 = .ok (.iaload, 1) := by decide +kernel
theorem dX3_givenBy_46 : decode cX3_givenBy 46 = .ok (.iconst 4, 1) := by decide +kernel
theorem dX3_givenBy_47 : decode cX3_givenBy 47 = .ok (.invokestatic 123, 3) := by decide +kernel
theorem dX3_givenBy_50 : decode cX3_givenBy 50 = .ok (.i2l, 1) := by decide +kernel
theorem dX3_givenBy_51 : decode cX3_givenBy 51 = .ok (.invokestatic 160, 3) := by decide +kernel
theorem dX3_givenBy_54 : decode cX3_givenBy 54 = .ok (.l2i, 1) := by decide +kernel
theorem dX3_givenBy_55 : decode cX3_givenBy 55 = .ok (.ireturn, 1) := by decide +kernel
set_option maxRecDepth 20000 in
theorem ggX3_runOff_X3_standsInSea : GoodIn wsX3_runOff wsX3_standsInSea := goodIn_r _ [8, 9, 10, 17, 18, 19, 20, 21, 22, 23, 24, 25, 26, 27, 28, 29, 30, 31, 32] (by decide +kernel) (by decide +kernel)
set_option maxRecDepth 20000 in
theorem gX3_runOff_X3_standsInSea : GoodIn wsX3_runOff (wsV RX3 112 RX3 yX3_standsInSea wsX3_standsInSea) := goodIn_app (goodIn_of _ (by decide +kernel)) ggX3_runOff_X3_standsInSea
set_option maxRecDepth 20000 in
theorem ggX3_runOff_X3_potential : GoodIn wsX3_runOff wsX3_potential := goodIn_r _ [14, 9, 15, 16, 17, 18, 19, 20, 21, 22, 23, 24, 25, 26, 27, 28, 29, 30, 31, 32, 38, 39] (by decide +kernel) (by decide +kernel)
set_option maxRecDepth 20000 in
theorem gX3_runOff_X3_potential : GoodIn wsX3_runOff (wsV RX3 115 RX3 yX3_potential wsX3_potential) := goodIn_app (goodIn_of _ (by decide +kernel)) ggX3_runOff_X3_potential
theorem dX3_runOff_0 : decode cX3_runOff 0 = .ok (.iload_n 1, 1) := by decide +kernel
theorem dX3_runOff_1 : decode cX3_runOff 1 = .ok (.bipush 11, 2) := by decide +kernel
theorem dX3_runOff_3 : decode cX3_runOff 3 = .ok (.if_icmp .eq 11, 3) := by decide +kernel
theorem dX3_runOff_6 : decode cX3_runOff 6 = .ok (.aload_n 0, 1) := by decide +kernel
theorem dX3_runOff_7 : decode cX3_runOff 7 = .ok (.iload_n 1, 1) := by decide +kernel
theorem dX3_runOff_8 : decode cX3_runOff 8 = .ok (.invokevirtual 112, 3) := by decide +kernel
theorem dX3_runOff_11 : decode cX3_runOff 11 = .ok (.ifCond .eq 29, 3) := by decide +kernel
theorem dX3_runOff_14 : decode cX3_runOff 14 = .ok (.aload_n 0, 1) := by decide +kernel
theorem dX3_runOff_15 : decode cX3_runOff 15 = .ok (.getfield 21, 3) := by decide +kernel
theorem dX3_runOff_18 : decode cX3_runOff 18 = .ok (.dup, 1) := by decide +kernel
theorem dX3_runOff_19 : decode cX3_runOff 19 = .ok (.getfield 162, 3) := by decide +kernel
theorem dX3_runOff_22 : decode cX3_runOff 22 = .ok (.aload_n 0, 1) := by decide +kernel
theorem dX3_runOff_23 : decode cX3_runOff 23 = .ok (.getfield 32, 3) := by decide +kernel
theorem dX3_runOff_26 : decode cX3_runOff 26 = .ok (.iload_n 1, 1) := by decide +kernel
theorem dX3_runOff_27 : decode cX3_runOff 27 = .ok (.iaload, 1) := by decide +kernel
theorem dX3_runOff_28 : decode cX3_runOff 28 = .ok (.iadd, 1) := by decide +kernel
theorem dX3_runOff_29 : decode cX3_runOff 29 = .ok (.putfield 162, 3) := by decide +kernel
theorem dX3_runOff_32 : decode cX3_runOff 32 = .ok (.aload_n 0, 1) := by decide +kernel
theorem dX3_runOff_33 : decode cX3_runOff 33 = .ok (.getfield 32, 3) := by decide +kernel
theorem dX3_runOff_36 : decode cX3_runOff 36 = .ok (.iload_n 1, 1) := by decide +kernel
theorem dX3_runOff_37 : decode cX3_runOff 37 = .ok (.iconst 0, 1) := by decide +kernel
theorem dX3_runOff_38 : decode cX3_runOff 38 = .ok (.iastore, 1) := by decide +kernel
theorem dX3_runOff_39 : decode cX3_runOff 39 = .ok (.return_, 1) := by decide +kernel
theorem dX3_runOff_40 : decode cX3_runOff 40 = .ok (.iload_n 1, 1) := by decide +kernel
theorem dX3_runOff_41 : decode cX3_runOff 41 = .ok (.iconst 1, 1) := by decide +kernel
theorem dX3_runOff_42 : decode cX3_runOff 42 = .ok (.iadd, 1) := by decide +kernel
theorem dX3_runOff_43 : decode cX3_runOff 43 = .ok (.istore_n 2, 1) := by decide +kernel
theorem dX3_runOff_44 : decode cX3_runOff 44 = .ok (.iload_n 1, 1) := by decide +kernel
theorem dX3_runOff_45 : decode cX3_runOff 45 = .ok (.ifCond .le 22, 3) := by decide +kernel
theorem dX3_runOff_48 : decode cX3_runOff 48 = .ok (.aload_n 0, 1) := by decide +kernel
theorem dX3_runOff_49 : decode cX3_runOff 49 = .ok (.iload_n 1, 1) := by decide +kernel
theorem dX3_runOff_50 : decode cX3_runOff 50 = .ok (.iconst 1, 1) := by decide +kernel
theorem dX3_runOff_51 : decode cX3_runOff 51 = .ok (.isub, 1) := by decide +kernel
theorem dX3_runOff_52 : decode cX3_runOff 52 = .ok (.invokevirtual 115, 3) := by decide +kernel
theorem dX3_runOff_55 : decode cX3_runOff 55 = .ok (.aload_n 0, 1) := by decide +kernel
theorem dX3_runOff_56 : decode cX3_runOff 56 = .ok (.iload_n 2, 1) := by decide +kernel
theorem dX3_runOff_57 : decode cX3_runOff 57 = .ok (.invokevirtual 115, 3) := by decide +kernel
theorem dX3_runOff_60 : decode cX3_runOff 60 = .ok (.if_icmp .ge 7, 3) := by decide +kernel
theorem dX3_runOff_63 : decode cX3_runOff 63 = .ok (.iload_n 1, 1) := by decide +kernel
theorem dX3_runOff_64 : decode cX3_runOff 64 = .ok (.iconst 1, 1) := by decide +kernel
theorem dX3_runOff_65 : decode cX3_runOff 65 = .ok (.isub, 1) := by decide +kernel
theorem dX3_runOff_66 : decode cX3_runOff 66 = .ok (.istore_n 2, 1) := by decide +kernel
theorem dX3_runOff_67 : decode cX3_runOff 67 = .ok (.aload_n 0, 1) := by decide +kernel
theorem dX3_runOff_68 : decode cX3_runOff 68 = .ok (.iload_n 2, 1) := by decide +kernel
theorem dX3_runOff_69 : decode cX3_runOff 69 = .ok (.invokevirtual 115, 3) := by decide +kernel
theorem dX3_runOff_72 : decode cX3_runOff 72 = .ok (.aload_n 0, 1) := by decide +kernel
theorem dX3_runOff_73 : decode cX3_runOff 73 = .ok (.iload_n 1, 1) := by decide +kernel
theorem dX3_runOff_74 : decode cX3_runOff 74 = .ok (.invokevirtual 115, 3) := by decide +kernel
theorem dX3_runOff_77 : decode cX3_runOff 77 = .ok (.if_icmp .ge 25, 3) := by decide +kernel
theorem dX3_runOff_80 : decode cX3_runOff 80 = .ok (.aload_n 0, 1) := by decide +kernel
theorem dX3_runOff_81 : decode cX3_runOff 81 = .ok (.getfield 32, 3) := by decide +kernel
theorem dX3_runOff_84 : decode cX3_runOff 84 = .ok (.iload_n 2, 1) := by decide +kernel
theorem dX3_runOff_85 : decode cX3_runOff 85 = .ok (.dup2, 1) := by decide +kernel
theorem dX3_runOff_86 : decode cX3_runOff 86 = .ok (.iaload, 1) := by decide +kernel
theorem dX3_runOff_87 : decode cX3_runOff 87 = .ok (.aload_n 0, 1) := by decide +kernel
theorem dX3_runOff_88 : decode cX3_runOff 88 = .ok (.getfield 32, 3) := by decide +kernel
theorem dX3_runOff_91 : decode cX3_runOff 91 = .ok (.iload_n 1, 1) := by decide +kernel
theorem dX3_runOff_92 : decode cX3_runOff 92 = .ok (.iaload, 1) := by decide +kernel
theorem dX3_runOff_93 : decode cX3_runOff 93 = .ok (.iadd, 1) := by decide +kernel
theorem dX3_runOff_94 : decode cX3_runOff 94 = .ok (.iastore, 1) := by decide +kernel
theorem dX3_runOff_95 : decode cX3_runOff 95 = .ok (.aload_n 0, 1) := by decide +kernel
theorem dX3_runOff_96 : decode cX3_runOff 96 = .ok (.getfield 32, 3) := by decide +kernel
theorem dX3_runOff_99 : decode cX3_runOff 99 = .ok (.iload_n 1, 1) := by decide +kernel
theorem dX3_runOff_100 : decode cX3_runOff 100 = .ok (.iconst 0, 1) := by decide +kernel
theorem dX3_runOff_101 : decode cX3_runOff 101 = .ok (.iastore, 1) := by decide +kernel
theorem dX3_runOff_102 : decode cX3_runOff 102 = .ok (.return_, 1) := by decide +kernel
set_option maxRecDepth 20000 in
theorem ggX3_breakOut_X3_leastIceBeside : GoodIn wsX3_breakOut wsX3_leastIceBeside := goodIn_r _ [9, 10, 11, 12, 13, 14, 15, 16, 17, 18, 19, 20, 21, 22, 23, 24, 25, 26, 27, 28, 29, 30, 31, 37, 38] (by decide +kernel) (by decide +kernel)
set_option maxRecDepth 20000 in
theorem gX3_breakOut_X3_leastIceBeside : GoodIn wsX3_breakOut (wsV RX3 165 RX3 yX3_leastIceBeside wsX3_leastIceBeside) := goodIn_app (goodIn_of _ (by decide +kernel)) ggX3_breakOut_X3_leastIceBeside
theorem dX3_breakOut_0 : decode cX3_breakOut 0 = .ok (.aload_n 0, 1) := by decide +kernel
theorem dX3_breakOut_1 : decode cX3_breakOut 1 = .ok (.getfield 47, 3) := by decide +kernel
theorem dX3_breakOut_4 : decode cX3_breakOut 4 = .ok (.iload_n 1, 1) := by decide +kernel
theorem dX3_breakOut_5 : decode cX3_breakOut 5 = .ok (.iconst 0, 1) := by decide +kernel
theorem dX3_breakOut_6 : decode cX3_breakOut 6 = .ok (.iastore, 1) := by decide +kernel
theorem dX3_breakOut_7 : decode cX3_breakOut 7 = .ok (.aload_n 0, 1) := by decide +kernel
theorem dX3_breakOut_8 : decode cX3_breakOut 8 = .ok (.iload_n 1, 1) := by decide +kernel
theorem dX3_breakOut_9 : decode cX3_breakOut 9 = .ok (.invokevirtual 165, 3) := by decide +kernel
theorem dX3_breakOut_12 : decode cX3_breakOut 12 = .ok (.istore_n 2, 1) := by decide +kernel
theorem dX3_breakOut_13 : decode cX3_breakOut 13 = .ok (.aload_n 0, 1) := by decide +kernel
theorem dX3_breakOut_14 : decode cX3_breakOut 14 = .ok (.getfield 32, 3) := by decide +kernel
theorem dX3_breakOut_17 : decode cX3_breakOut 17 = .ok (.iload_n 1, 1) := by decide +kernel
theorem dX3_breakOut_18 : decode cX3_breakOut 18 = .ok (.iaload, 1) := by decide +kernel
theorem dX3_breakOut_19 : decode cX3_breakOut 19 = .ok (.bipush 10, 2) := by decide +kernel
theorem dX3_breakOut_21 : decode cX3_breakOut 21 = .ok (.if_icmp .lt 60, 3) := by decide +kernel
theorem dX3_breakOut_24 : decode cX3_breakOut 24 = .ok (.iload_n 2, 1) := by decide +kernel
theorem dX3_breakOut_25 : decode cX3_breakOut 25 = .ok (.ifCond .le 56, 3) := by decide +kernel
theorem dX3_breakOut_28 : decode cX3_breakOut 28 = .ok (.bipush 10, 2) := by decide +kernel
theorem dX3_breakOut_30 : decode cX3_breakOut 30 = .ok (.aload_n 0, 1) := by decide +kernel
theorem dX3_breakOut_31 : decode cX3_breakOut 31 = .ok (.getfield 32, 3) := by decide +kernel
theorem dX3_breakOut_34 : decode cX3_breakOut 34 = .ok (.iload_n 1, 1) := by decide +kernel
theorem dX3_breakOut_35 : decode cX3_breakOut 35 = .ok (.iaload, 1) := by decide +kernel
theorem dX3_breakOut_36 : decode cX3_breakOut 36 = .ok (.imul, 1) := by decide +kernel
theorem dX3_breakOut_37 : decode cX3_breakOut 37 = .ok (.bipush 9, 2) := by decide +kernel
theorem dX3_breakOut_39 : decode cX3_breakOut 39 = .ok (.iload_n 2, 1) := by decide +kernel
theorem dX3_breakOut_40 : decode cX3_breakOut 40 = .ok (.imul, 1) := by decide +kernel
theorem dX3_breakOut_41 : decode cX3_breakOut 41 = .ok (.if_icmp .le 40, 3) := by decide +kernel
theorem dX3_breakOut_44 : decode cX3_breakOut 44 = .ok (.aload_n 0, 1) := by decide +kernel
theorem dX3_breakOut_45 : decode cX3_breakOut 45 = .ok (.getfield 47, 3) := by decide +kernel
theorem dX3_breakOut_48 : decode cX3_breakOut 48 = .ok (.iload_n 1, 1) := by decide +kernel
theorem dX3_breakOut_49 : decode cX3_breakOut 49 = .ok (.aload_n 0, 1) := by decide +kernel
theorem dX3_breakOut_50 : decode cX3_breakOut 50 = .ok (.getfield 32, 3) := by decide +kernel
theorem dX3_breakOut_53 : decode cX3_breakOut 53 = .ok (.iload_n 1, 1) := by decide +kernel
theorem dX3_breakOut_54 : decode cX3_breakOut 54 = .ok (.iaload, 1) := by decide +kernel
theorem dX3_breakOut_55 : decode cX3_breakOut 55 = .ok (.iastore, 1) := by decide +kernel
theorem dX3_breakOut_56 : decode cX3_breakOut 56 = .ok (.aload_n 0, 1) := by decide +kernel
theorem dX3_breakOut_57 : decode cX3_breakOut 57 = .ok (.getfield 21, 3) := by decide +kernel
theorem dX3_breakOut_60 : decode cX3_breakOut 60 = .ok (.dup, 1) := by decide +kernel
theorem dX3_breakOut_61 : decode cX3_breakOut 61 = .ok (.getfield 162, 3) := by decide +kernel
theorem dX3_breakOut_64 : decode cX3_breakOut 64 = .ok (.aload_n 0, 1) := by decide +kernel
theorem dX3_breakOut_65 : decode cX3_breakOut 65 = .ok (.getfield 32, 3) := by decide +kernel
theorem dX3_breakOut_68 : decode cX3_breakOut 68 = .ok (.iload_n 1, 1) := by decide +kernel
theorem dX3_breakOut_69 : decode cX3_breakOut 69 = .ok (.iaload, 1) := by decide +kernel
theorem dX3_breakOut_70 : decode cX3_breakOut 70 = .ok (.iadd, 1) := by decide +kernel
theorem dX3_breakOut_71 : decode cX3_breakOut 71 = .ok (.putfield 162, 3) := by decide +kernel
theorem dX3_breakOut_74 : decode cX3_breakOut 74 = .ok (.aload_n 0, 1) := by decide +kernel
theorem dX3_breakOut_75 : decode cX3_breakOut 75 = .ok (.getfield 32, 3) := by decide +kernel
theorem dX3_breakOut_78 : decode cX3_breakOut 78 = .ok (.iload_n 1, 1) := by decide +kernel
theorem dX3_breakOut_79 : decode cX3_breakOut 79 = .ok (.iconst 0, 1) := by decide +kernel
theorem dX3_breakOut_80 : decode cX3_breakOut 80 = .ok (.iastore, 1) := by decide +kernel
theorem dX3_breakOut_81 : decode cX3_breakOut 81 = .ok (.return_, 1) := by decide +kernel
theorem dX3_leastIceBeside_0 : decode cX3_leastIceBeside 0 = .ok (.iload_n 1, 1) := by decide +kernel
theorem dX3_leastIceBeside_1 : decode cX3_leastIceBeside 1 = .ok (.ifCond .le 17, 3) := by decide +kernel
theorem dX3_leastIceBeside_4 : decode cX3_leastIceBeside 4 = .ok (.aload_n 0, 1) := by decide +kernel
theorem dX3_leastIceBeside_5 : decode cX3_leastIceBeside 5 = .ok (.getfield 12, 3) := by decide +kernel
theorem dX3_leastIceBeside_8 : decode cX3_leastIceBeside 8 = .ok (.getfield 101, 3) := by decide +kernel
theorem dX3_leastIceBeside_11 : decode cX3_leastIceBeside 11 = .ok (.iload_n 1, 1) := by decide +kernel
theorem dX3_leastIceBeside_12 : decode cX3_leastIceBeside 12 = .ok (.iconst 1, 1) := by decide +kernel
theorem dX3_leastIceBeside_13 : decode cX3_leastIceBeside 13 = .ok (.isub, 1) := by decide +kernel
theorem dX3_leastIceBeside_14 : decode cX3_leastIceBeside 14 = .ok (.iaload, 1) := by decide +kernel
theorem dX3_leastIceBeside_15 : decode cX3_leastIceBeside 15 = .ok (.goto 4, 3) := by decide +kernel
theorem dX3_leastIceBeside_18 : decode cX3_leastIceBeside 18 = .ok (.iconst 0, 1) := by decide +kernel
theorem dX3_leastIceBeside_19 : decode cX3_leastIceBeside 19 = .ok (.istore_n 2, 1) := by decide +kernel
theorem dX3_leastIceBeside_20 : decode cX3_leastIceBeside 20 = .ok (.iload_n 1, 1) := by decide +kernel
theorem dX3_leastIceBeside_21 : decode cX3_leastIceBeside 21 = .ok (.bipush 11, 2) := by decide +kernel
theorem dX3_leastIceBeside_23 : decode cX3_leastIceBeside 23 = .ok (.if_icmp .ge 17, 3) := by decide +kernel
theorem dX3_leastIceBeside_26 : decode cX3_leastIceBeside 26 = .ok (.aload_n 0, 1) := by decide +kernel
theorem dX3_leastIceBeside_27 : decode cX3_leastIceBeside 27 = .ok (.getfield 12, 3) := by decide +kernel
theorem dX3_leastIceBeside_30 : decode cX3_leastIceBeside 30 = .ok (.getfield 101, 3) := by decide +kernel
theorem dX3_leastIceBeside_33 : decode cX3_leastIceBeside 33 = .ok (.iload_n 1, 1) := by decide +kernel
theorem dX3_leastIceBeside_34 : decode cX3_leastIceBeside 34 = .ok (.iconst 1, 1) := by decide +kernel
theorem dX3_leastIceBeside_35 : decode cX3_leastIceBeside 35 = .ok (.iadd, 1) := by decide +kernel
theorem dX3_leastIceBeside_36 : decode cX3_leastIceBeside 36 = .ok (.iaload, 1) := by decide +kernel
theorem dX3_leastIceBeside_37 : decode cX3_leastIceBeside 37 = .ok (.goto 4, 3) := by decide +kernel
theorem dX3_leastIceBeside_40 : decode cX3_leastIceBeside 40 = .ok (.iconst 0, 1) := by decide +kernel
theorem dX3_leastIceBeside_41 : decode cX3_leastIceBeside 41 = .ok (.istore_n 3, 1) := by decide +kernel
theorem dX3_leastIceBeside_42 : decode cX3_leastIceBeside 42 = .ok (.iload_n 2, 1) := by decide +kernel
theorem dX3_leastIceBeside_43 : decode cX3_leastIceBeside 43 = .ok (.ifCond .ne 5, 3) := by decide +kernel
theorem dX3_leastIceBeside_46 : decode cX3_leastIceBeside 46 = .ok (.iload_n 3, 1) := by decide +kernel
theorem dX3_leastIceBeside_47 : decode cX3_leastIceBeside 47 = .ok (.ireturn, 1) := by decide +kernel
theorem dX3_leastIceBeside_48 : decode cX3_leastIceBeside 48 = .ok (.iload_n 3, 1) := by decide +kernel
theorem dX3_leastIceBeside_49 : decode cX3_leastIceBeside 49 = .ok (.ifCond .ne 7, 3) := by decide +kernel
theorem dX3_leastIceBeside_52 : decode cX3_leastIceBeside 52 = .ok (.iload_n 2, 1) := by decide +kernel
theorem dX3_leastIceBeside_53 : decode cX3_leastIceBeside 53 = .ok (.goto 8, 3) := by decide +kernel
theorem dX3_leastIceBeside_56 : decode cX3_leastIceBeside 56 = .ok (.iload_n 2, 1) := by decide +kernel
theorem dX3_leastIceBeside_57 : decode cX3_leastIceBeside 57 = .ok (.iload_n 3, 1) := by decide +kernel
theorem dX3_leastIceBeside_58 : decode cX3_leastIceBeside 58 = .ok (.invokestatic 134, 3) := by decide +kernel
theorem dX3_leastIceBeside_61 : decode cX3_leastIceBeside 61 = .ok (.ireturn, 1) := by decide +kernel
set_option maxRecDepth 20000 in
theorem ggX3_calve_X3_standsInSea : GoodIn wsX3_calve wsX3_standsInSea := goodIn_r _ [11, 4, 3, 31, 32, 33, 34, 35, 36, 37, 38, 39, 40, 41, 42, 43, 44, 45, 46] (by decide +kernel) (by decide +kernel)
set_option maxRecDepth 20000 in
theorem gX3_calve_X3_standsInSea : GoodIn wsX3_calve (wsV RX3 112 RX3 yX3_standsInSea wsX3_standsInSea) := goodIn_app (goodIn_of _ (by decide +kernel)) ggX3_calve_X3_standsInSea
set_option maxRecDepth 20000 in
theorem ggX3_calve_X1_takeLatest : GoodIn wsX3_calve wsX1_takeLatest := goodIn_r _ [16, 17, 18, 19, 20, 21, 22, 23, 15, 24, 25, 26, 27, 28, 29, 30, 47, 48] (by decide +kernel) (by decide +kernel)
set_option maxRecDepth 20000 in
theorem gX3_calve_X1_takeLatest : GoodIn wsX3_calve (wsV RX3 137 RX1 yX1_takeLatest wsX1_takeLatest) := goodIn_app (goodIn_of _ (by decide +kernel)) ggX3_calve_X1_takeLatest
theorem dX3_calve_0 : decode cX3_calve 0 = .ok (.bipush 11, 2) := by decide +kernel
theorem dX3_calve_2 : decode cX3_calve 2 = .ok (.istore_n 1, 1) := by decide +kernel
theorem dX3_calve_3 : decode cX3_calve 3 = .ok (.iload_n 1, 1) := by decide +kernel
theorem dX3_calve_4 : decode cX3_calve 4 = .ok (.ifCond .lt 85, 3) := by decide +kernel
theorem dX3_calve_7 : decode cX3_calve 7 = .ok (.aload_n 0, 1) := by decide +kernel
theorem dX3_calve_8 : decode cX3_calve 8 = .ok (.getfield 12, 3) := by decide +kernel
theorem dX3_calve_11 : decode cX3_calve 11 = .ok (.getfield 101, 3) := by decide +kernel
theorem dX3_calve_14 : decode cX3_calve 14 = .ok (.iload_n 1, 1) := by decide +kernel
theorem dX3_calve_15 : decode cX3_calve 15 = .ok (.iaload, 1) := by decide +kernel
theorem dX3_calve_16 : decode cX3_calve 16 = .ok (.istore_n 2, 1) := by decide +kernel
theorem dX3_calve_17 : decode cX3_calve 17 = .ok (.bipush 9, 2) := by decide +kernel
theorem dX3_calve_19 : decode cX3_calve 19 = .ok (.iload_n 2, 1) := by decide +kernel
theorem dX3_calve_20 : decode cX3_calve 20 = .ok (.imul, 1) := by decide +kernel
theorem dX3_calve_21 : decode cX3_calve 21 = .ok (.bipush 10, 2) := by decide +kernel
theorem dX3_calve_23 : decode cX3_calve 23 = .ok (.aload_n 0, 1) := by decide +kernel
theorem dX3_calve_24 : decode cX3_calve 24 = .ok (.getfield 57, 3) := by decide +kernel
theorem dX3_calve_27 : decode cX3_calve 27 = .ok (.aload_n 0, 1) := by decide +kernel
theorem dX3_calve_28 : decode cX3_calve 28 = .ok (.getfield 25, 3) := by decide +kernel
theorem dX3_calve_31 : decode cX3_calve 31 = .ok (.iload_n 1, 1) := by decide +kernel
theorem dX3_calve_32 : decode cX3_calve 32 = .ok (.iaload, 1) := by decide +kernel
theorem dX3_calve_33 : decode cX3_calve 33 = .ok (.isub, 1) := by decide +kernel
theorem dX3_calve_34 : decode cX3_calve 34 = .ok (.imul, 1) := by decide +kernel
theorem dX3_calve_35 : decode cX3_calve 35 = .ok (.if_icmp .lt 7, 3) := by decide +kernel
theorem dX3_calve_38 : decode cX3_calve 38 = .ok (.iconst 1, 1) := by decide +kernel
theorem dX3_calve_39 : decode cX3_calve 39 = .ok (.goto 4, 3) := by decide +kernel
theorem dX3_calve_42 : decode cX3_calve 42 = .ok (.iconst 0, 1) := by decide +kernel
theorem dX3_calve_43 : decode cX3_calve 43 = .ok (.istore_n 3, 1) := by decide +kernel
theorem dX3_calve_44 : decode cX3_calve 44 = .ok (.aload_n 0, 1) := by decide +kernel
theorem dX3_calve_45 : decode cX3_calve 45 = .ok (.iload_n 1, 1) := by decide +kernel
theorem dX3_calve_46 : decode cX3_calve 46 = .ok (.invokevirtual 112, 3) := by decide +kernel
theorem dX3_calve_49 : decode cX3_calve 49 = .ok (.ifCond .eq 11, 3) := by decide +kernel
theorem dX3_calve_52 : decode cX3_calve 52 = .ok (.iload_n 2, 1) := by decide +kernel
theorem dX3_calve_53 : decode cX3_calve 53 = .ok (.ifCond .le 8, 3) := by decide +kernel
theorem dX3_calve_56 : decode cX3_calve 56 = .ok (.iload_n 3, 1) := by decide +kernel
theorem dX3_calve_57 : decode cX3_calve 57 = .ok (.ifCond .eq 4, 3) := by decide +kernel
theorem dX3_calve_60 : decode cX3_calve 60 = .ok (.return_, 1) := by decide +kernel
theorem dX3_calve_61 : decode cX3_calve 61 = .ok (.aload_n 0, 1) := by decide +kernel
theorem dX3_calve_62 : decode cX3_calve 62 = .ok (.getfield 21, 3) := by decide +kernel
theorem dX3_calve_65 : decode cX3_calve 65 = .ok (.dup, 1) := by decide +kernel
theorem dX3_calve_66 : decode cX3_calve 66 = .ok (.getfield 168, 3) := by decide +kernel
theorem dX3_calve_69 : decode cX3_calve 69 = .ok (.iload_n 2, 1) := by decide +kernel
theorem dX3_calve_70 : decode cX3_calve 70 = .ok (.iadd, 1) := by decide +kernel
theorem dX3_calve_71 : decode cX3_calve 71 = .ok (.putfield 168, 3) := by decide +kernel
theorem dX3_calve_74 : decode cX3_calve 74 = .ok (.aload_n 0, 1) := by decide +kernel
theorem dX3_calve_75 : decode cX3_calve 75 = .ok (.getfield 12, 3) := by decide +kernel
theorem dX3_calve_78 : decode cX3_calve 78 = .ok (.iload_n 1, 1) := by decide +kernel
theorem dX3_calve_79 : decode cX3_calve 79 = .ok (.iload_n 2, 1) := by decide +kernel
theorem dX3_calve_80 : decode cX3_calve 80 = .ok (.invokevirtual 137, 3) := by decide +kernel
theorem dX3_calve_83 : decode cX3_calve 83 = .ok (.iinc 1 (-1), 3) := by decide +kernel
theorem dX3_calve_86 : decode cX3_calve 86 = .ok (.goto (-83), 3) := by decide +kernel
theorem dX3_calve_89 : decode cX3_calve 89 = .ok (.return_, 1) := by decide +kernel
set_option maxRecDepth 20000 in
theorem ggX3_moveBed_J9_floorDiv_7cf53 : GoodIn wsX3_moveBed wsJ9_floorDiv_7cf53 := goodIn_r _ [8] (by decide +kernel) (by decide +kernel)
set_option maxRecDepth 20000 in
theorem gX3_moveBed_J9_floorDiv_7cf53 : GoodIn wsX3_moveBed (va_wsS RX3 123 yJ9_floorDiv_7cf53 wsJ9_floorDiv_7cf53) := goodIn_app (goodIn_of _ (by decide +kernel)) ggX3_moveBed_J9_floorDiv_7cf53
theorem dX3_moveBed_0 : decode cX3_moveBed 0 = .ok (.aload_n 0, 1) := by decide +kernel
theorem dX3_moveBed_1 : decode cX3_moveBed 1 = .ok (.getfield 29, 3) := by decide +kernel
theorem dX3_moveBed_4 : decode cX3_moveBed 4 = .ok (.iload_n 1, 1) := by decide +kernel
theorem dX3_moveBed_5 : decode cX3_moveBed 5 = .ok (.iaload, 1) := by decide +kernel
theorem dX3_moveBed_6 : decode cX3_moveBed 6 = .ok (.aload_n 0, 1) := by decide +kernel
theorem dX3_moveBed_7 : decode cX3_moveBed 7 = .ok (.getfield 12, 3) := by decide +kernel
theorem dX3_moveBed_10 : decode cX3_moveBed 10 = .ok (.getfield 101, 3) := by decide +kernel
theorem dX3_moveBed_13 : decode cX3_moveBed 13 = .ok (.iload_n 1, 1) := by decide +kernel
theorem dX3_moveBed_14 : decode cX3_moveBed 14 = .ok (.iaload, 1) := by decide +kernel
theorem dX3_moveBed_15 : decode cX3_moveBed 15 = .ok (.iconst 3, 1) := by decide +kernel
theorem dX3_moveBed_16 : decode cX3_moveBed 16 = .ok (.invokestatic 123, 3) := by decide +kernel
theorem dX3_moveBed_19 : decode cX3_moveBed 19 = .ok (.isub, 1) := by decide +kernel
theorem dX3_moveBed_20 : decode cX3_moveBed 20 = .ok (.istore_n 2, 1) := by decide +kernel
theorem dX3_moveBed_21 : decode cX3_moveBed 21 = .ok (.aload_n 0, 1) := by decide +kernel
theorem dX3_moveBed_22 : decode cX3_moveBed 22 = .ok (.getfield 25, 3) := by decide +kernel
theorem dX3_moveBed_25 : decode cX3_moveBed 25 = .ok (.iload_n 1, 1) := by decide +kernel
theorem dX3_moveBed_26 : decode cX3_moveBed 26 = .ok (.iaload, 1) := by decide +kernel
theorem dX3_moveBed_27 : decode cX3_moveBed 27 = .ok (.iload_n 2, 1) := by decide +kernel
theorem dX3_moveBed_28 : decode cX3_moveBed 28 = .ok (.if_icmp .ge 16, 3) := by decide +kernel
theorem dX3_moveBed_31 : decode cX3_moveBed 31 = .ok (.aload_n 0, 1) := by decide +kernel
theorem dX3_moveBed_32 : decode cX3_moveBed 32 = .ok (.getfield 25, 3) := by decide +kernel
theorem dX3_moveBed_35 : decode cX3_moveBed 35 = .ok (.iload_n 1, 1) := by decide +kernel
theorem dX3_moveBed_36 : decode cX3_moveBed 36 = .ok (.dup2, 1) := by decide +kernel
theorem dX3_moveBed_37 : decode cX3_moveBed 37 = .ok (.iaload, 1) := by decide +kernel
theorem dX3_moveBed_38 : decode cX3_moveBed 38 = .ok (.iconst 1, 1) := by decide +kernel
theorem dX3_moveBed_39 : decode cX3_moveBed 39 = .ok (.iadd, 1) := by decide +kernel
theorem dX3_moveBed_40 : decode cX3_moveBed 40 = .ok (.iastore, 1) := by decide +kernel
theorem dX3_moveBed_41 : decode cX3_moveBed 41 = .ok (.goto 23, 3) := by decide +kernel
theorem dX3_moveBed_44 : decode cX3_moveBed 44 = .ok (.aload_n 0, 1) := by decide +kernel
theorem dX3_moveBed_45 : decode cX3_moveBed 45 = .ok (.getfield 25, 3) := by decide +kernel
theorem dX3_moveBed_48 : decode cX3_moveBed 48 = .ok (.iload_n 1, 1) := by decide +kernel
theorem dX3_moveBed_49 : decode cX3_moveBed 49 = .ok (.iaload, 1) := by decide +kernel
theorem dX3_moveBed_50 : decode cX3_moveBed 50 = .ok (.iload_n 2, 1) := by decide +kernel
theorem dX3_moveBed_51 : decode cX3_moveBed 51 = .ok (.if_icmp .le 13, 3) := by decide +kernel
theorem dX3_moveBed_54 : decode cX3_moveBed 54 = .ok (.aload_n 0, 1) := by decide +kernel
theorem dX3_moveBed_55 : decode cX3_moveBed 55 = .ok (.getfield 25, 3) := by decide +kernel
theorem dX3_moveBed_58 : decode cX3_moveBed 58 = .ok (.iload_n 1, 1) := by decide +kernel
theorem dX3_moveBed_59 : decode cX3_moveBed 59 = .ok (.dup2, 1) := by decide +kernel
theorem dX3_moveBed_60 : decode cX3_moveBed 60 = .ok (.iaload, 1) := by decide +kernel
theorem dX3_moveBed_61 : decode cX3_moveBed 61 = .ok (.iconst 1, 1) := by decide +kernel
theorem dX3_moveBed_62 : decode cX3_moveBed 62 = .ok (.isub, 1) := by decide +kernel
theorem dX3_moveBed_63 : decode cX3_moveBed 63 = .ok (.iastore, 1) := by decide +kernel
theorem dX3_moveBed_64 : decode cX3_moveBed 64 = .ok (.return_, 1) := by decide +kernel
theorem dX3_markFront_0 : decode cX3_markFront 0 = .ok (.aload_n 0, 1) := by decide +kernel
theorem dX3_markFront_1 : decode cX3_markFront 1 = .ok (.iconst (-1), 1) := by decide +kernel
theorem dX3_markFront_2 : decode cX3_markFront 2 = .ok (.putfield 50, 3) := by decide +kernel
theorem dX3_markFront_5 : decode cX3_markFront 5 = .ok (.iconst 0, 1) := by decide +kernel
theorem dX3_markFront_6 : decode cX3_markFront 6 = .ok (.istore_n 1, 1) := by decide +kernel
theorem dX3_markFront_7 : decode cX3_markFront 7 = .ok (.iload_n 1, 1) := by decide +kernel
theorem dX3_markFront_8 : decode cX3_markFront 8 = .ok (.bipush 12, 2) := by decide +kernel
theorem dX3_markFront_10 : decode cX3_markFront 10 = .ok (.if_icmp .ge 26, 3) := by decide +kernel
theorem dX3_markFront_13 : decode cX3_markFront 13 = .ok (.aload_n 0, 1) := by decide +kernel
theorem dX3_markFront_14 : decode cX3_markFront 14 = .ok (.getfield 12, 3) := by decide +kernel
theorem dX3_markFront_17 : decode cX3_markFront 17 = .ok (.getfield 101, 3) := by decide +kernel
theorem dX3_markFront_20 : decode cX3_markFront 20 = .ok (.iload_n 1, 1) := by decide +kernel
theorem dX3_markFront_21 : decode cX3_markFront 21 = .ok (.iaload, 1) := by decide +kernel
theorem dX3_markFront_22 : decode cX3_markFront 22 = .ok (.ifCond .le 8, 3) := by decide +kernel
theorem dX3_markFront_25 : decode cX3_markFront 25 = .ok (.aload_n 0, 1) := by decide +kernel
theorem dX3_markFront_26 : decode cX3_markFront 26 = .ok (.iload_n 1, 1) := by decide +kernel
theorem dX3_markFront_27 : decode cX3_markFront 27 = .ok (.putfield 50, 3) := by decide +kernel
theorem dX3_markFront_30 : decode cX3_markFront 30 = .ok (.iinc 1 1, 3) := by decide +kernel
theorem dX3_markFront_33 : decode cX3_markFront 33 = .ok (.goto (-26), 3) := by decide +kernel
theorem dX3_markFront_36 : decode cX3_markFront 36 = .ok (.aload_n 0, 1) := by decide +kernel
theorem dX3_markFront_37 : decode cX3_markFront 37 = .ok (.getfield 50, 3) := by decide +kernel
theorem dX3_markFront_40 : decode cX3_markFront 40 = .ok (.ifCond .lt 16, 3) := by decide +kernel
theorem dX3_markFront_43 : decode cX3_markFront 43 = .ok (.aload_n 0, 1) := by decide +kernel
theorem dX3_markFront_44 : decode cX3_markFront 44 = .ok (.getfield 35, 3) := by decide +kernel
theorem dX3_markFront_47 : decode cX3_markFront 47 = .ok (.aload_n 0, 1) := by decide +kernel
theorem dX3_markFront_48 : decode cX3_markFront 48 = .ok (.getfield 50, 3) := by decide +kernel
theorem dX3_markFront_51 : decode cX3_markFront 51 = .ok (.dup2, 1) := by decide +kernel
theorem dX3_markFront_52 : decode cX3_markFront 52 = .ok (.iaload, 1) := by decide +kernel
theorem dX3_markFront_53 : decode cX3_markFront 53 = .ok (.iconst 1, 1) := by decide +kernel
theorem dX3_markFront_54 : decode cX3_markFront 54 = .ok (.iadd, 1) := by decide +kernel
theorem dX3_markFront_55 : decode cX3_markFront 55 = .ok (.iastore, 1) := by decide +kernel
theorem dX3_markFront_56 : decode cX3_markFront 56 = .ok (.return_, 1) := by decide +kernel
theorem dX4_init_0 : decode cX4_init 0 = .ok (.aload_n 0, 1) := by decide +kernel
theorem dX4_init_1 : decode cX4_init 1 = .ok (.invokespecial 1, 3) := by decide +kernel
theorem dX4_init_4 : decode cX4_init 4 = .ok (.return_, 1) := by decide +kernel
set_option maxRecDepth 20000 in
theorem ggX5_init_X3_init : GoodIn wsX5_init wsX3_init := goodIn_r _ [19, 20, 2, 3, 21, 22, 23, 24, 25, 26, 27, 28, 29, 30, 31, 32, 33, 34, 35, 36, 37, 38, 39, 40, 41, 42, 43, 44, 45, 46, 93, 94, 63, 64, 65, 66, 67, 68, 69, 70, 71, 72, 73, 74, 75, 76, 77, 78, 95, 96, 97, 98, 99] (by decide +kernel) (by decide +kernel)
set_option maxRecDepth 20000 in
theorem gX5_init_X3_init : GoodIn wsX5_init (wsX3_init) := ggX5_init_X3_init
set_option maxRecDepth 20000 in
theorem ggX5_init_X0_init : GoodIn wsX5_init wsX0_init := goodIn_r _ [49, 50, 2, 3, 51, 52, 29, 53, 54, 55, 56, 57, 83, 84, 85, 86, 87, 88, 89] (by decide +kernel) (by decide +kernel)
set_option maxRecDepth 20000 in
theorem gX5_init_X0_init : GoodIn wsX5_init (wsX0_init) := ggX5_init_X0_init
set_option maxRecDepth 20000 in
theorem ggX5_init_X2_init : GoodIn wsX5_init wsX2_init := goodIn_r _ [59, 60, 2, 3, 29, 61, 62, 90, 91, 92] (by decide +kernel) (by decide +kernel)
set_option maxRecDepth 20000 in
theorem gX5_init_X2_init_n28 : GoodIn wsX5_init (wsX2_init) := ggX5_init_X2_init
theorem dX5_init_0 : decode cX5_init 0 = .ok (.aload_n 0, 1) := by decide +kernel
theorem dX5_init_1 : decode cX5_init 1 = .ok (.invokespecial 1, 3) := by decide +kernel
theorem dX5_init_4 : decode cX5_init 4 = .ok (.aload_n 0, 1) := by decide +kernel
theorem dX5_init_5 : decode cX5_init 5 = .ok (.new 7, 3) := by decide +kernel
theorem dX5_init_8 : decode cX5_init 8 = .ok (.dup, 1) := by decide +kernel
theorem dX5_init_9 : decode cX5_init 9 = .ok (.invokespecial 9, 3) := by decide +kernel
theorem dX5_init_12 : decode cX5_init 12 = .ok (.putfield 10, 3) := by decide +kernel
theorem dX5_init_15 : decode cX5_init 15 = .ok (.aload_n 0, 1) := by decide +kernel
theorem dX5_init_16 : decode cX5_init 16 = .ok (.new 7, 3) := by decide +kernel
theorem dX5_init_19 : decode cX5_init 19 = .ok (.dup, 1) := by decide +kernel
theorem dX5_init_20 : decode cX5_init 20 = .ok (.invokespecial 9, 3) := by decide +kernel
theorem dX5_init_23 : decode cX5_init 23 = .ok (.putfield 16, 3) := by decide +kernel
theorem dX5_init_26 : decode cX5_init 26 = .ok (.aload_n 0, 1) := by decide +kernel
theorem dX5_init_27 : decode cX5_init 27 = .ok (.new 19, 3) := by decide +kernel
theorem dX5_init_30 : decode cX5_init 30 = .ok (.dup, 1) := by decide +kernel
theorem dX5_init_31 : decode cX5_init 31 = .ok (.invokespecial 21, 3) := by decide +kernel
theorem dX5_init_34 : decode cX5_init 34 = .ok (.putfield 22, 3) := by decide +kernel
theorem dX5_init_37 : decode cX5_init 37 = .ok (.aload_n 0, 1) := by decide +kernel
theorem dX5_init_38 : decode cX5_init 38 = .ok (.new 26, 3) := by decide +kernel
theorem dX5_init_41 : decode cX5_init 41 = .ok (.dup, 1) := by decide +kernel
theorem dX5_init_42 : decode cX5_init 42 = .ok (.invokespecial 28, 3) := by decide +kernel
theorem dX5_init_45 : decode cX5_init 45 = .ok (.putfield 29, 3) := by decide +kernel
theorem dX5_init_48 : decode cX5_init 48 = .ok (.return_, 1) := by decide +kernel
set_option maxRecDepth 20000 in
theorem ggX5_land_X5_needCell : GoodIn wsX5_land wsX5_needCell := goodIn_ca (goodIn_r _ [12, 13, 14] (by decide +kernel) (by decide +kernel)) (goodIn_sub (fun _ h => List.mem_cons_of_mem _ (List.mem_append_left _ (List.mem_append_right _ h))) (by decide +kernel))
set_option maxRecDepth 20000 in
theorem gX5_land_X5_needCell : GoodIn wsX5_land (va_wsS RX5 33 yX5_needCell wsX5_needCell) := goodIn_app (goodIn_of _ (by decide +kernel)) ggX5_land_X5_needCell
set_option maxRecDepth 20000 in
theorem ggX5_land_X5_needWithin : GoodIn wsX5_land wsX5_needWithin := goodIn_ca (goodIn_r _ [17, 18, 19] (by decide +kernel) (by decide +kernel)) (goodIn_sub (fun _ h => List.mem_cons_of_mem _ (List.mem_append_right _ h)) (by decide +kernel))
set_option maxRecDepth 20000 in
theorem gX5_land_X5_needWithin : GoodIn wsX5_land (va_wsS RX5 37 yX5_needWithin wsX5_needWithin) := goodIn_app (goodIn_of _ (by decide +kernel)) ggX5_land_X5_needWithin
theorem dX5_land_0 : decode cX5_land 0 = .ok (.iload_n 1, 1) := by decide +kernel
theorem dX5_land_1 : decode cX5_land 1 = .ok (.invokestatic 33, 3) := by decide +kernel
theorem dX5_land_4 : decode cX5_land 4 = .ok (.iload_n 2, 1) := by decide +kernel
theorem dX5_land_5 : decode cX5_land 5 = .ok (.iconst 0, 1) := by decide +kernel
theorem dX5_land_6 : decode cX5_land 6 = .ok (.sipush 500, 3) := by decide +kernel
theorem dX5_land_9 : decode cX5_land 9 = .ok (.invokestatic 37, 3) := by decide +kernel
theorem dX5_land_12 : decode cX5_land 12 = .ok (.aload_n 0, 1) := by decide +kernel
theorem dX5_land_13 : decode cX5_land 13 = .ok (.getfield 10, 3) := by decide +kernel
theorem dX5_land_16 : decode cX5_land 16 = .ok (.getfield 41, 3) := by decide +kernel
theorem dX5_land_19 : decode cX5_land 19 = .ok (.getfield 45, 3) := by decide +kernel
theorem dX5_land_22 : decode cX5_land 22 = .ok (.iload_n 1, 1) := by decide +kernel
theorem dX5_land_23 : decode cX5_land 23 = .ok (.iaload, 1) := by decide +kernel
theorem dX5_land_24 : decode cX5_land 24 = .ok (.ifCond .gt 15, 3) := by decide +kernel
theorem dX5_land_27 : decode cX5_land 27 = .ok (.aload_n 0, 1) := by decide +kernel
theorem dX5_land_28 : decode cX5_land 28 = .ok (.getfield 10, 3) := by decide +kernel
theorem dX5_land_31 : decode cX5_land 31 = .ok (.getfield 51, 3) := by decide +kernel
theorem dX5_land_34 : decode cX5_land 34 = .ok (.iload_n 1, 1) := by decide +kernel
theorem dX5_land_35 : decode cX5_land 35 = .ok (.iaload, 1) := by decide +kernel
theorem dX5_land_36 : decode cX5_land 36 = .ok (.ifCond .le 13, 3) := by decide +kernel
theorem dX5_land_39 : decode cX5_land 39 = .ok (.new 54, 3) := by decide +kernel
theorem dX5_land_42 : decode cX5_land 42 = .ok (.dup, 1) := by decide +kernel
theorem dX5_land_43 : decode cX5_land 43 = .ok (.ldc 56, 2) := by decide +kernel
theorem dX5_land_45 : decode cX5_land 45 = .ok (.invokespecial 58, 3) := by decide +kernel
theorem dX5_land_48 : decode cX5_land 48 = .ok (.athrow, 1) := by decide +kernel
theorem dX5_land_49 : decode cX5_land 49 = .ok (.aload_n 0, 1) := by decide +kernel
theorem dX5_land_50 : decode cX5_land 50 = .ok (.getfield 10, 3) := by decide +kernel
theorem dX5_land_53 : decode cX5_land 53 = .ok (.getfield 61, 3) := by decide +kernel
theorem dX5_land_56 : decode cX5_land 56 = .ok (.iload_n 1, 1) := by decide +kernel
theorem dX5_land_57 : decode cX5_land 57 = .ok (.iaload, 1) := by decide +kernel
theorem dX5_land_58 : decode cX5_land 58 = .ok (.istore_n 3, 1) := by decide +kernel
theorem dX5_land_59 : decode cX5_land 59 = .ok (.aload_n 0, 1) := by decide +kernel
theorem dX5_land_60 : decode cX5_land 60 = .ok (.getfield 10, 3) := by decide +kernel
theorem dX5_land_63 : decode cX5_land 63 = .ok (.getfield 61, 3) := by decide +kernel
theorem dX5_land_66 : decode cX5_land 66 = .ok (.iload_n 1, 1) := by decide +kernel
theorem dX5_land_67 : decode cX5_land 67 = .ok (.iload_n 2, 1) := by decide +kernel
theorem dX5_land_68 : decode cX5_land 68 = .ok (.iastore, 1) := by decide +kernel
theorem dX5_land_69 : decode cX5_land 69 = .ok (.aload_n 0, 1) := by decide +kernel
theorem dX5_land_70 : decode cX5_land 70 = .ok (.getfield 10, 3) := by decide +kernel
theorem dX5_land_73 : decode cX5_land 73 = .ok (.getfield 64, 3) := by decide +kernel
theorem dX5_land_76 : decode cX5_land 76 = .ok (.iload_n 1, 1) := by decide +kernel
theorem dX5_land_77 : decode cX5_land 77 = .ok (.iload_n 2, 1) := by decide +kernel
theorem dX5_land_78 : decode cX5_land 78 = .ok (.iastore, 1) := by decide +kernel
theorem dX5_land_79 : decode cX5_land 79 = .ok (.iload_n 3, 1) := by decide +kernel
theorem dX5_land_80 : decode cX5_land 80 = .ok (.ireturn, 1) := by decide +kernel
set_option maxRecDepth 20000 in
theorem ggX5_sea_X5_needWithin : GoodIn wsX5_sea wsX5_needWithin := goodIn_ca (goodIn_r _ [6, 7, 8] (by decide +kernel) (by decide +kernel)) (goodIn_sub (fun _ h => List.mem_cons_of_mem _ (List.mem_append_right _ h)) (by decide +kernel))
set_option maxRecDepth 20000 in
theorem gX5_sea_X5_needWithin : GoodIn wsX5_sea (va_wsS RX5 37 yX5_needWithin wsX5_needWithin) := goodIn_app (goodIn_of _ (by decide +kernel)) ggX5_sea_X5_needWithin
theorem dX5_sea_0 : decode cX5_sea 0 = .ok (.iload_n 1, 1) := by decide +kernel
theorem dX5_sea_1 : decode cX5_sea 1 = .ok (.iconst 0, 1) := by decide +kernel
theorem dX5_sea_2 : decode cX5_sea 2 = .ok (.sipush 500, 3) := by decide +kernel
theorem dX5_sea_5 : decode cX5_sea 5 = .ok (.invokestatic 37, 3) := by decide +kernel
theorem dX5_sea_8 : decode cX5_sea 8 = .ok (.aload_n 0, 1) := by decide +kernel
theorem dX5_sea_9 : decode cX5_sea 9 = .ok (.getfield 10, 3) := by decide +kernel
theorem dX5_sea_12 : decode cX5_sea 12 = .ok (.getfield 67, 3) := by decide +kernel
theorem dX5_sea_15 : decode cX5_sea 15 = .ok (.istore_n 2, 1) := by decide +kernel
theorem dX5_sea_16 : decode cX5_sea 16 = .ok (.aload_n 0, 1) := by decide +kernel
theorem dX5_sea_17 : decode cX5_sea 17 = .ok (.getfield 10, 3) := by decide +kernel
theorem dX5_sea_20 : decode cX5_sea 20 = .ok (.iload_n 1, 1) := by decide +kernel
theorem dX5_sea_21 : decode cX5_sea 21 = .ok (.putfield 67, 3) := by decide +kernel
theorem dX5_sea_24 : decode cX5_sea 24 = .ok (.iload_n 2, 1) := by decide +kernel
theorem dX5_sea_25 : decode cX5_sea 25 = .ok (.ireturn, 1) := by decide +kernel
set_option maxRecDepth 20000 in
theorem ggX5_climate_X5_needWithin : GoodIn wsX5_climate wsX5_needWithin := goodIn_ca (goodIn_r _ [8, 9, 10] (by decide +kernel) (by decide +kernel)) (goodIn_sub (fun _ h => List.mem_cons_of_mem _ (List.mem_append_right _ h)) (by decide +kernel))
set_option maxRecDepth 20000 in
theorem gX5_climate_X5_needWithin : GoodIn wsX5_climate (va_wsS RX5 37 yX5_needWithin wsX5_needWithin) := goodIn_app (goodIn_of _ (by decide +kernel)) ggX5_climate_X5_needWithin
theorem dX5_climate_0 : decode cX5_climate 0 = .ok (.iload_n 1, 1) := by decide +kernel
theorem dX5_climate_1 : decode cX5_climate 1 = .ok (.sipush (-300), 3) := by decide +kernel
theorem dX5_climate_4 : decode cX5_climate 4 = .ok (.sipush 300, 3) := by decide +kernel
theorem dX5_climate_7 : decode cX5_climate 7 = .ok (.invokestatic 37, 3) := by decide +kernel
theorem dX5_climate_10 : decode cX5_climate 10 = .ok (.iload_n 2, 1) := by decide +kernel
theorem dX5_climate_11 : decode cX5_climate 11 = .ok (.iconst 0, 1) := by decide +kernel
theorem dX5_climate_12 : decode cX5_climate 12 = .ok (.bipush 20, 2) := by decide +kernel
theorem dX5_climate_14 : decode cX5_climate 14 = .ok (.invokestatic 37, 3) := by decide +kernel
theorem dX5_climate_17 : decode cX5_climate 17 = .ok (.iload_n 3, 1) := by decide +kernel
theorem dX5_climate_18 : decode cX5_climate 18 = .ok (.iconst 0, 1) := by decide +kernel
theorem dX5_climate_19 : decode cX5_climate 19 = .ok (.bipush 9, 2) := by decide +kernel
theorem dX5_climate_21 : decode cX5_climate 21 = .ok (.invokestatic 37, 3) := by decide +kernel
theorem dX5_climate_24 : decode cX5_climate 24 = .ok (.aload_n 0, 1) := by decide +kernel
theorem dX5_climate_25 : decode cX5_climate 25 = .ok (.getfield 10, 3) := by decide +kernel
theorem dX5_climate_28 : decode cX5_climate 28 = .ok (.iload_n 1, 1) := by decide +kernel
theorem dX5_climate_29 : decode cX5_climate 29 = .ok (.putfield 71, 3) := by decide +kernel
theorem dX5_climate_32 : decode cX5_climate 32 = .ok (.aload_n 0, 1) := by decide +kernel
theorem dX5_climate_33 : decode cX5_climate 33 = .ok (.getfield 10, 3) := by decide +kernel
theorem dX5_climate_36 : decode cX5_climate 36 = .ok (.iload_n 2, 1) := by decide +kernel
theorem dX5_climate_37 : decode cX5_climate 37 = .ok (.putfield 74, 3) := by decide +kernel
theorem dX5_climate_40 : decode cX5_climate 40 = .ok (.aload_n 0, 1) := by decide +kernel
theorem dX5_climate_41 : decode cX5_climate 41 = .ok (.getfield 10, 3) := by decide +kernel
theorem dX5_climate_44 : decode cX5_climate 44 = .ok (.iload_n 3, 1) := by decide +kernel
theorem dX5_climate_45 : decode cX5_climate 45 = .ok (.putfield 77, 3) := by decide +kernel
theorem dX5_climate_48 : decode cX5_climate 48 = .ok (.return_, 1) := by decide +kernel
set_option maxRecDepth 20000 in
theorem ggX5_ice_X5_needCell : GoodIn wsX5_ice wsX5_needCell := goodIn_ca (goodIn_r _ [12, 13, 14] (by decide +kernel) (by decide +kernel)) (goodIn_sub (fun _ h => List.mem_cons_of_mem _ (List.mem_append_left _ (List.mem_append_right _ h))) (by decide +kernel))
set_option maxRecDepth 20000 in
theorem gX5_ice_X5_needCell : GoodIn wsX5_ice (va_wsS RX5 33 yX5_needCell wsX5_needCell) := goodIn_app (goodIn_of _ (by decide +kernel)) ggX5_ice_X5_needCell
set_option maxRecDepth 20000 in
theorem ggX5_ice_X5_needWithin : GoodIn wsX5_ice wsX5_needWithin := goodIn_ca (goodIn_r _ [17, 18, 19] (by decide +kernel) (by decide +kernel)) (goodIn_sub (fun _ h => List.mem_cons_of_mem _ (List.mem_append_right _ h)) (by decide +kernel))
set_option maxRecDepth 20000 in
theorem gX5_ice_X5_needWithin : GoodIn wsX5_ice (va_wsS RX5 37 yX5_needWithin wsX5_needWithin) := goodIn_app (goodIn_of _ (by decide +kernel)) ggX5_ice_X5_needWithin
set_option maxRecDepth 20000 in
theorem ggX5_ice_X1_lay : GoodIn wsX5_ice wsX1_lay := goodIn_r _ [24, 25, 26, 47, 48] (by decide +kernel) (by decide +kernel)
set_option maxRecDepth 20000 in
theorem gX5_ice_X1_lay : GoodIn wsX5_ice (wsV RX5 85 RX1 yX1_lay wsX1_lay) := goodIn_app (goodIn_of _ (by decide +kernel)) ggX5_ice_X1_lay
theorem dX5_ice_0 : decode cX5_ice 0 = .ok (.iload_n 1, 1) := by decide +kernel
theorem dX5_ice_1 : decode cX5_ice 1 = .ok (.invokestatic 33, 3) := by decide +kernel
theorem dX5_ice_4 : decode cX5_ice 4 = .ok (.iload_n 2, 1) := by decide +kernel
theorem dX5_ice_5 : decode cX5_ice 5 = .ok (.iconst 1, 1) := by decide +kernel
theorem dX5_ice_6 : decode cX5_ice 6 = .ok (.sipush 999, 3) := by decide +kernel
theorem dX5_ice_9 : decode cX5_ice 9 = .ok (.invokestatic 37, 3) := by decide +kernel
theorem dX5_ice_12 : decode cX5_ice 12 = .ok (.aload_n 0, 1) := by decide +kernel
theorem dX5_ice_13 : decode cX5_ice 13 = .ok (.getfield 10, 3) := by decide +kernel
theorem dX5_ice_16 : decode cX5_ice 16 = .ok (.getfield 41, 3) := by decide +kernel
theorem dX5_ice_19 : decode cX5_ice 19 = .ok (.getfield 45, 3) := by decide +kernel
theorem dX5_ice_22 : decode cX5_ice 22 = .ok (.iload_n 1, 1) := by decide +kernel
theorem dX5_ice_23 : decode cX5_ice 23 = .ok (.iaload, 1) := by decide +kernel
theorem dX5_ice_24 : decode cX5_ice 24 = .ok (.iload_n 2, 1) := by decide +kernel
theorem dX5_ice_25 : decode cX5_ice 25 = .ok (.iadd, 1) := by decide +kernel
theorem dX5_ice_26 : decode cX5_ice 26 = .ok (.sipush 9999, 3) := by decide +kernel
theorem dX5_ice_29 : decode cX5_ice 29 = .ok (.if_icmp .le 13, 3) := by decide +kernel
theorem dX5_ice_32 : decode cX5_ice 32 = .ok (.new 54, 3) := by decide +kernel
theorem dX5_ice_35 : decode cX5_ice 35 = .ok (.dup, 1) := by decide +kernel
theorem dX5_ice_36 : decode cX5_ice 36 = .ok (.ldc 80, 2) := by decide +kernel
theorem dX5_ice_38 : decode cX5_ice 38 = .ok (.invokespecial 58, 3) := by decide +kernel
theorem dX5_ice_41 : decode cX5_ice 41 = .ok (.athrow, 1) := by decide +kernel
theorem dX5_ice_42 : decode cX5_ice 42 = .ok (.aload_n 0, 1) := by decide +kernel
theorem dX5_ice_43 : decode cX5_ice 43 = .ok (.getfield 10, 3) := by decide +kernel
theorem dX5_ice_46 : decode cX5_ice 46 = .ok (.getfield 41, 3) := by decide +kernel
theorem dX5_ice_49 : decode cX5_ice 49 = .ok (.iload_n 1, 1) := by decide +kernel
theorem dX5_ice_50 : decode cX5_ice 50 = .ok (.aload_n 0, 1) := by decide +kernel
theorem dX5_ice_51 : decode cX5_ice 51 = .ok (.getfield 10, 3) := by decide +kernel
theorem dX5_ice_54 : decode cX5_ice 54 = .ok (.getfield 82, 3) := by decide +kernel
theorem dX5_ice_57 : decode cX5_ice 57 = .ok (.iload_n 2, 1) := by decide +kernel
theorem dX5_ice_58 : decode cX5_ice 58 = .ok (.invokevirtual 85, 3) := by decide +kernel
theorem dX5_ice_61 : decode cX5_ice 61 = .ok (.aload_n 0, 1) := by decide +kernel
theorem dX5_ice_62 : decode cX5_ice 62 = .ok (.getfield 10, 3) := by decide +kernel
theorem dX5_ice_65 : decode cX5_ice 65 = .ok (.getfield 88, 3) := by decide +kernel
theorem dX5_ice_68 : decode cX5_ice 68 = .ok (.dup, 1) := by decide +kernel
theorem dX5_ice_69 : decode cX5_ice 69 = .ok (.getfield 92, 3) := by decide +kernel
theorem dX5_ice_72 : decode cX5_ice 72 = .ok (.iload_n 2, 1) := by decide +kernel
theorem dX5_ice_73 : decode cX5_ice 73 = .ok (.iadd, 1) := by decide +kernel
theorem dX5_ice_74 : decode cX5_ice 74 = .ok (.putfield 92, 3) := by decide +kernel
theorem dX5_ice_77 : decode cX5_ice 77 = .ok (.aload_n 0, 1) := by decide +kernel
theorem dX5_ice_78 : decode cX5_ice 78 = .ok (.getfield 10, 3) := by decide +kernel
theorem dX5_ice_81 : decode cX5_ice 81 = .ok (.getfield 41, 3) := by decide +kernel
theorem dX5_ice_84 : decode cX5_ice 84 = .ok (.getfield 45, 3) := by decide +kernel
theorem dX5_ice_87 : decode cX5_ice 87 = .ok (.iload_n 1, 1) := by decide +kernel
theorem dX5_ice_88 : decode cX5_ice 88 = .ok (.iaload, 1) := by decide +kernel
theorem dX5_ice_89 : decode cX5_ice 89 = .ok (.ireturn, 1) := by decide +kernel
theorem dX5_ash_0 : decode cX5_ash 0 = .ok (.aload_n 0, 1) := by decide +kernel
theorem dX5_ash_1 : decode cX5_ash 1 = .ok (.getfield 22, 3) := by decide +kernel
theorem dX5_ash_4 : decode cX5_ash 4 = .ok (.getfield 97, 3) := by decide +kernel
theorem dX5_ash_7 : decode cX5_ash 7 = .ok (.aload_n 0, 1) := by decide +kernel
theorem dX5_ash_8 : decode cX5_ash 8 = .ok (.getfield 10, 3) := by decide +kernel
theorem dX5_ash_11 : decode cX5_ash 11 = .ok (.getfield 82, 3) := by decide +kernel
theorem dX5_ash_14 : decode cX5_ash 14 = .ok (.baload, 1) := by decide +kernel
theorem dX5_ash_15 : decode cX5_ash 15 = .ok (.istore_n 1, 1) := by decide +kernel
theorem dX5_ash_16 : decode cX5_ash 16 = .ok (.aload_n 0, 1) := by decide +kernel
theorem dX5_ash_17 : decode cX5_ash 17 = .ok (.getfield 22, 3) := by decide +kernel
theorem dX5_ash_20 : decode cX5_ash 20 = .ok (.getfield 97, 3) := by decide +kernel
theorem dX5_ash_23 : decode cX5_ash 23 = .ok (.aload_n 0, 1) := by decide +kernel
theorem dX5_ash_24 : decode cX5_ash 24 = .ok (.getfield 10, 3) := by decide +kernel
theorem dX5_ash_27 : decode cX5_ash 27 = .ok (.getfield 82, 3) := by decide +kernel
theorem dX5_ash_30 : decode cX5_ash 30 = .ok (.iconst 1, 1) := by decide +kernel
theorem dX5_ash_31 : decode cX5_ash 31 = .ok (.bastore, 1) := by decide +kernel
theorem dX5_ash_32 : decode cX5_ash 32 = .ok (.iload_n 1, 1) := by decide +kernel
theorem dX5_ash_33 : decode cX5_ash 33 = .ok (.ireturn, 1) := by decide +kernel
set_option maxRecDepth 20000 in
theorem ggX5_pass_X5_needWithin : GoodIn wsX5_pass wsX5_needWithin := goodIn_ca (goodIn_r _ [7, 8, 9] (by decide +kernel) (by decide +kernel)) (goodIn_sub (fun _ h => List.mem_cons_of_mem _ (List.mem_append_left _ (List.mem_append_right _ h))) (by decide +kernel))
set_option maxRecDepth 20000 in
theorem gX5_pass_X5_needWithin : GoodIn wsX5_pass (va_wsS RX5 37 yX5_needWithin wsX5_needWithin) := goodIn_app (goodIn_of _ (by decide +kernel)) ggX5_pass_X5_needWithin
set_option maxRecDepth 20000 in
theorem ggX5_pass_X5_needNotTooLate : GoodIn wsX5_pass wsX5_needNotTooLate := goodIn_ca (goodIn_r _ [13, 14, 15, 1, 3, 150, 151, 152, 153, 154, 155, 156, 157, 158, 159, 160, 161, 162, 163, 164, 165, 166, 167, 168, 169] (by decide +kernel) (by decide +kernel)) (goodIn_sub (fun _ h => List.mem_cons_of_mem _ (List.mem_append_right _ h)) (by decide +kernel))
set_option maxRecDepth 20000 in
theorem gX5_pass_X5_needNotTooLate : GoodIn wsX5_pass (wsV RX5 101 RX5 yX5_needNotTooLate wsX5_needNotTooLate) := goodIn_app (goodIn_of _ (by decide +kernel)) ggX5_pass_X5_needNotTooLate
set_option maxRecDepth 20000 in
theorem ggX5_pass_X3_goThroughYear : GoodIn wsX5_pass wsX3_goThroughYear := goodIn_r _ [20, 21, 22, 23, 24, 19, 25, 26, 27, 28, 29, 30, 31, 32, 33, 34, 35, 36, 37, 38, 39, 40, 41, 42, 43, 44, 45, 46, 47, 48, 49, 50, 51, 52, 53, 54, 55, 56, 57, 58, 59, 60, 61, 62, 63, 64, 65, 66, 67, 68, 69, 70, 71, 72, 73, 74, 75, 76, 77, 78, 79, 80, 81, 82, 83, 84, 85, 86, 87, 88, 89, 90, 91, 92, 93, 94, 95, 96, 97, 98, 99, 100, 101, 102, 103, 104, 105, 106, 107, 108, 109, 110, 111, 112, 113, 114, 115, 116, 117, 118, 119, 120, 121, 122, 123, 124, 125, 126, 127, 128, 129, 130, 154, 155, 156, 157, 158, 159, 160, 161, 162, 163, 164, 165, 166, 167, 168, 169, 170, 171, 172, 173, 174, 175, 176] (by decide +kernel) (by decide +kernel)
set_option maxRecDepth 20000 in
theorem gX5_pass_X3_goThroughYear : GoodIn wsX5_pass (wsV RX5 104 RX3 yX3_goThroughYear wsX3_goThroughYear) := goodIn_app (goodIn_of _ (by decide +kernel)) ggX5_pass_X3_goThroughYear
set_option maxRecDepth 20000 in
theorem ggX5_pass_X0_note : GoodIn wsX5_pass wsX0_note := goodIn_r _ [135, 136, 137, 138, 139, 140, 141, 142, 143, 144, 145, 146, 147, 148, 57, 149, 60, 177, 178, 179, 180, 181, 182, 183, 154, 155, 156, 157, 158, 159, 160, 161, 162, 163, 164, 165, 166, 167, 168, 169, 170, 171] (by decide +kernel) (by decide +kernel)
set_option maxRecDepth 20000 in
theorem gX5_pass_X0_note : GoodIn wsX5_pass (wsV RX5 107 RX0 yX0_note wsX0_note) := goodIn_app (goodIn_of _ (by decide +kernel)) ggX5_pass_X0_note
theorem dX5_pass_0 : decode cX5_pass 0 = .ok (.iload_n 1, 1) := by decide +kernel
theorem dX5_pass_1 : decode cX5_pass 1 = .ok (.iconst 1, 1) := by decide +kernel
theorem dX5_pass_2 : decode cX5_pass 2 = .ok (.bipush 20, 2) := by decide +kernel
theorem dX5_pass_4 : decode cX5_pass 4 = .ok (.invokestatic 37, 3) := by decide +kernel
theorem dX5_pass_7 : decode cX5_pass 7 = .ok (.aload_n 0, 1) := by decide +kernel
theorem dX5_pass_8 : decode cX5_pass 8 = .ok (.iload_n 1, 1) := by decide +kernel
theorem dX5_pass_9 : decode cX5_pass 9 = .ok (.invokevirtual 101, 3) := by decide +kernel
theorem dX5_pass_12 : decode cX5_pass 12 = .ok (.iconst 0, 1) := by decide +kernel
theorem dX5_pass_13 : decode cX5_pass 13 = .ok (.istore_n 2, 1) := by decide +kernel
theorem dX5_pass_14 : decode cX5_pass 14 = .ok (.iload_n 2, 1) := by decide +kernel
theorem dX5_pass_15 : decode cX5_pass 15 = .ok (.iload_n 1, 1) := by decide +kernel
theorem dX5_pass_16 : decode cX5_pass 16 = .ok (.if_icmp .ge 27, 3) := by decide +kernel
theorem dX5_pass_19 : decode cX5_pass 19 = .ok (.aload_n 0, 1) := by decide +kernel
theorem dX5_pass_20 : decode cX5_pass 20 = .ok (.getfield 10, 3) := by decide +kernel
theorem dX5_pass_23 : decode cX5_pass 23 = .ok (.invokevirtual 104, 3) := by decide +kernel
theorem dX5_pass_26 : decode cX5_pass 26 = .ok (.aload_n 0, 1) := by decide +kernel
theorem dX5_pass_27 : decode cX5_pass 27 = .ok (.getfield 22, 3) := by decide +kernel
theorem dX5_pass_30 : decode cX5_pass 30 = .ok (.aload_n 0, 1) := by decide +kernel
theorem dX5_pass_31 : decode cX5_pass 31 = .ok (.getfield 10, 3) := by decide +kernel
theorem dX5_pass_34 : decode cX5_pass 34 = .ok (.invokevirtual 107, 3) := by decide +kernel
theorem dX5_pass_37 : decode cX5_pass 37 = .ok (.iinc 2 1, 3) := by decide +kernel
theorem dX5_pass_40 : decode cX5_pass 40 = .ok (.goto (-26), 3) := by decide +kernel
theorem dX5_pass_43 : decode cX5_pass 43 = .ok (.aload_n 0, 1) := by decide +kernel
theorem dX5_pass_44 : decode cX5_pass 44 = .ok (.getfield 10, 3) := by decide +kernel
theorem dX5_pass_47 : decode cX5_pass 47 = .ok (.getfield 82, 3) := by decide +kernel
theorem dX5_pass_50 : decode cX5_pass 50 = .ok (.ireturn, 1) := by decide +kernel
set_option maxRecDepth 20000 in
theorem ggX5_cellIs_X5_needCell : GoodIn wsX5_cellIs wsX5_needCell := goodIn_ca (goodIn_r _ [5, 6, 7] (by decide +kernel) (by decide +kernel)) (goodIn_sub (fun _ h => List.mem_cons_of_mem _ (List.mem_append_left _ (List.mem_append_right _ h))) (by decide +kernel))
set_option maxRecDepth 20000 in
theorem gX5_cellIs_X5_needCell : GoodIn wsX5_cellIs (va_wsS RX5 33 yX5_needCell wsX5_needCell) := goodIn_app (goodIn_of _ (by decide +kernel)) ggX5_cellIs_X5_needCell
set_option maxRecDepth 20000 in
theorem ggX5_cellIs_X5_needWithin : GoodIn wsX5_cellIs wsX5_needWithin := goodIn_ca (goodIn_r _ [10, 11, 12] (by decide +kernel) (by decide +kernel)) (goodIn_sub (fun _ h => List.mem_cons_of_mem _ (List.mem_append_right _ h)) (by decide +kernel))
set_option maxRecDepth 20000 in
theorem gX5_cellIs_X5_needWithin : GoodIn wsX5_cellIs (va_wsS RX5 37 yX5_needWithin wsX5_needWithin) := goodIn_app (goodIn_of _ (by decide +kernel)) ggX5_cellIs_X5_needWithin
set_option maxRecDepth 20000 in
theorem ggX5_cellIs_X3_tellOf : GoodIn wsX5_cellIs wsX3_tellOf := goodIn_r _ [17, 18, 19, 20, 21, 22, 23, 24, 25, 26, 27, 16, 28, 29, 30, 31, 32, 33, 34, 35, 36, 37, 38, 39, 40, 41, 42, 43, 44, 45, 46, 51, 52, 53, 54, 55, 56, 57, 58, 59, 60, 61, 62, 63, 64, 65, 66, 67, 68] (by decide +kernel) (by decide +kernel)
set_option maxRecDepth 20000 in
theorem gX5_cellIs_X3_tellOf : GoodIn wsX5_cellIs (wsV RX5 111 RX3 yX3_tellOf wsX3_tellOf) := goodIn_app (goodIn_of _ (by decide +kernel)) ggX5_cellIs_X3_tellOf
theorem dX5_cellIs_0 : decode cX5_cellIs 0 = .ok (.iload_n 1, 1) := by decide +kernel
theorem dX5_cellIs_1 : decode cX5_cellIs 1 = .ok (.invokestatic 33, 3) := by decide +kernel
theorem dX5_cellIs_4 : decode cX5_cellIs 4 = .ok (.iload_n 2, 1) := by decide +kernel
theorem dX5_cellIs_5 : decode cX5_cellIs 5 = .ok (.iconst 0, 1) := by decide +kernel
theorem dX5_cellIs_6 : decode cX5_cellIs 6 = .ok (.bipush 9, 2) := by decide +kernel
theorem dX5_cellIs_8 : decode cX5_cellIs 8 = .ok (.invokestatic 37, 3) := by decide +kernel
theorem dX5_cellIs_11 : decode cX5_cellIs 11 = .ok (.aload_n 0, 1) := by decide +kernel
theorem dX5_cellIs_12 : decode cX5_cellIs 12 = .ok (.getfield 10, 3) := by decide +kernel
theorem dX5_cellIs_15 : decode cX5_cellIs 15 = .ok (.iload_n 1, 1) := by decide +kernel
theorem dX5_cellIs_16 : decode cX5_cellIs 16 = .ok (.iload_n 2, 1) := by decide +kernel
theorem dX5_cellIs_17 : decode cX5_cellIs 17 = .ok (.invokevirtual 111, 3) := by decide +kernel
theorem dX5_cellIs_20 : decode cX5_cellIs 20 = .ok (.ireturn, 1) := by decide +kernel
set_option maxRecDepth 20000 in
theorem ggX5_layer_X5_needCell : GoodIn wsX5_layer wsX5_needCell := goodIn_ca (goodIn_r _ [6, 7, 8] (by decide +kernel) (by decide +kernel)) (goodIn_sub (fun _ h => List.mem_cons_of_mem _ (List.mem_append_left _ (List.mem_append_right _ h))) (by decide +kernel))
set_option maxRecDepth 20000 in
theorem gX5_layer_X5_needCell : GoodIn wsX5_layer (va_wsS RX5 33 yX5_needCell wsX5_needCell) := goodIn_app (goodIn_of _ (by decide +kernel)) ggX5_layer_X5_needCell
set_option maxRecDepth 20000 in
theorem ggX5_layer_X5_needWithin : GoodIn wsX5_layer wsX5_needWithin := goodIn_ca (goodIn_r _ [11, 12, 13] (by decide +kernel) (by decide +kernel)) (goodIn_sub (fun _ h => List.mem_cons_of_mem _ (List.mem_append_right _ h)) (by decide +kernel))
set_option maxRecDepth 20000 in
theorem gX5_layer_X5_needWithin : GoodIn wsX5_layer (va_wsS RX5 37 yX5_needWithin wsX5_needWithin) := goodIn_app (goodIn_of _ (by decide +kernel)) ggX5_layer_X5_needWithin
set_option maxRecDepth 20000 in
theorem ggX5_layer_X1_unitsOf : GoodIn wsX5_layer wsX1_unitsOf := goodIn_r _ [18, 19, 40, 41] (by decide +kernel) (by decide +kernel)
set_option maxRecDepth 20000 in
theorem gX5_layer_X1_unitsOf : GoodIn wsX5_layer (wsV RX5 115 RX1 yX1_unitsOf wsX1_unitsOf) := goodIn_app (goodIn_of _ (by decide +kernel)) ggX5_layer_X1_unitsOf
theorem dX5_layer_0 : decode cX5_layer 0 = .ok (.iload_n 1, 1) := by decide +kernel
theorem dX5_layer_1 : decode cX5_layer 1 = .ok (.invokestatic 33, 3) := by decide +kernel
theorem dX5_layer_4 : decode cX5_layer 4 = .ok (.iload_n 2, 1) := by decide +kernel
theorem dX5_layer_5 : decode cX5_layer 5 = .ok (.iconst 0, 1) := by decide +kernel
theorem dX5_layer_6 : decode cX5_layer 6 = .ok (.bipush 60, 2) := by decide +kernel
theorem dX5_layer_8 : decode cX5_layer 8 = .ok (.invokestatic 37, 3) := by decide +kernel
theorem dX5_layer_11 : decode cX5_layer 11 = .ok (.aload_n 0, 1) := by decide +kernel
theorem dX5_layer_12 : decode cX5_layer 12 = .ok (.getfield 10, 3) := by decide +kernel
theorem dX5_layer_15 : decode cX5_layer 15 = .ok (.getfield 41, 3) := by decide +kernel
theorem dX5_layer_18 : decode cX5_layer 18 = .ok (.iload_n 1, 1) := by decide +kernel
theorem dX5_layer_19 : decode cX5_layer 19 = .ok (.iload_n 2, 1) := by decide +kernel
theorem dX5_layer_20 : decode cX5_layer 20 = .ok (.invokevirtual 115, 3) := by decide +kernel
theorem dX5_layer_23 : decode cX5_layer 23 = .ok (.ireturn, 1) := by decide +kernel
set_option maxRecDepth 20000 in
theorem ggX5_yearAt_X5_needCell : GoodIn wsX5_yearAt wsX5_needCell := goodIn_ca (goodIn_r _ [7, 8, 9] (by decide +kernel) (by decide +kernel)) (goodIn_sub (fun _ h => List.mem_cons_of_mem _ (List.mem_append_left _ (List.mem_append_right _ h))) (by decide +kernel))
set_option maxRecDepth 20000 in
theorem gX5_yearAt_X5_needCell : GoodIn wsX5_yearAt (va_wsS RX5 33 yX5_needCell wsX5_needCell) := goodIn_app (goodIn_of _ (by decide +kernel)) ggX5_yearAt_X5_needCell
set_option maxRecDepth 20000 in
theorem ggX5_yearAt_X5_needWithin : GoodIn wsX5_yearAt wsX5_needWithin := goodIn_ca (goodIn_r _ [12, 13, 14] (by decide +kernel) (by decide +kernel)) (goodIn_sub (fun _ h => List.mem_cons_of_mem _ (List.mem_append_right _ h)) (by decide +kernel))
set_option maxRecDepth 20000 in
theorem gX5_yearAt_X5_needWithin : GoodIn wsX5_yearAt (va_wsS RX5 37 yX5_needWithin wsX5_needWithin) := goodIn_app (goodIn_of _ (by decide +kernel)) ggX5_yearAt_X5_needWithin
set_option maxRecDepth 20000 in
theorem ggX5_yearAt_X1_yearBelow : GoodIn wsX5_yearAt wsX1_yearBelow := goodIn_r _ [19, 20, 21, 22, 18, 23, 24, 45, 46] (by decide +kernel) (by decide +kernel)
set_option maxRecDepth 20000 in
theorem gX5_yearAt_X1_yearBelow : GoodIn wsX5_yearAt (wsV RX5 121 RX1 yX1_yearBelow wsX1_yearBelow) := goodIn_app (goodIn_of _ (by decide +kernel)) ggX5_yearAt_X1_yearBelow
theorem dX5_yearAt_0 : decode cX5_yearAt 0 = .ok (.iload_n 1, 1) := by decide +kernel
theorem dX5_yearAt_1 : decode cX5_yearAt 1 = .ok (.invokestatic 33, 3) := by decide +kernel
theorem dX5_yearAt_4 : decode cX5_yearAt 4 = .ok (.iload_n 2, 1) := by decide +kernel
theorem dX5_yearAt_5 : decode cX5_yearAt 5 = .ok (.iconst 0, 1) := by decide +kernel
theorem dX5_yearAt_6 : decode cX5_yearAt 6 = .ok (.ldc 120, 2) := by decide +kernel
theorem dX5_yearAt_8 : decode cX5_yearAt 8 = .ok (.invokestatic 37, 3) := by decide +kernel
theorem dX5_yearAt_11 : decode cX5_yearAt 11 = .ok (.aload_n 0, 1) := by decide +kernel
theorem dX5_yearAt_12 : decode cX5_yearAt 12 = .ok (.getfield 10, 3) := by decide +kernel
theorem dX5_yearAt_15 : decode cX5_yearAt 15 = .ok (.getfield 41, 3) := by decide +kernel
theorem dX5_yearAt_18 : decode cX5_yearAt 18 = .ok (.iload_n 1, 1) := by decide +kernel
theorem dX5_yearAt_19 : decode cX5_yearAt 19 = .ok (.iload_n 2, 1) := by decide +kernel
theorem dX5_yearAt_20 : decode cX5_yearAt 20 = .ok (.invokevirtual 121, 3) := by decide +kernel
theorem dX5_yearAt_23 : decode cX5_yearAt 23 = .ok (.ireturn, 1) := by decide +kernel
set_option maxRecDepth 20000 in
theorem ggX5_common_X5_needCell : GoodIn wsX5_common wsX5_needCell := goodIn_ca (goodIn_r _ [8, 9, 10] (by decide +kernel) (by decide +kernel)) (goodIn_sub (fun _ h => List.mem_cons_of_mem _ (List.mem_append_right _ h)) (by decide +kernel))
set_option maxRecDepth 20000 in
theorem gX5_common_X5_needCell : GoodIn wsX5_common (va_wsS RX5 33 yX5_needCell wsX5_needCell) := goodIn_app (goodIn_of _ (by decide +kernel)) ggX5_common_X5_needCell
set_option maxRecDepth 20000 in
theorem ggX5_common_X1_unitsOf : GoodIn wsX5_common wsX1_unitsOf := goodIn_r _ [15, 16, 44, 45] (by decide +kernel) (by decide +kernel)
set_option maxRecDepth 20000 in
theorem gX5_common_X1_unitsOf : GoodIn wsX5_common (wsV RX5 115 RX1 yX1_unitsOf wsX1_unitsOf) := goodIn_app (goodIn_of _ (by decide +kernel)) ggX5_common_X1_unitsOf
theorem dX5_common_0 : decode cX5_common 0 = .ok (.iload_n 1, 1) := by decide +kernel
theorem dX5_common_1 : decode cX5_common 1 = .ok (.invokestatic 33, 3) := by decide +kernel
theorem dX5_common_4 : decode cX5_common 4 = .ok (.iload_n 2, 1) := by decide +kernel
theorem dX5_common_5 : decode cX5_common 5 = .ok (.invokestatic 33, 3) := by decide +kernel
theorem dX5_common_8 : decode cX5_common 8 = .ok (.iconst 0, 1) := by decide +kernel
theorem dX5_common_9 : decode cX5_common 9 = .ok (.istore_n 3, 1) := by decide +kernel
theorem dX5_common_10 : decode cX5_common 10 = .ok (.iconst 0, 1) := by decide +kernel
theorem dX5_common_11 : decode cX5_common 11 = .ok (.istore 4, 2) := by decide +kernel
theorem dX5_common_13 : decode cX5_common 13 = .ok (.iload 4, 2) := by decide +kernel
theorem dX5_common_15 : decode cX5_common 15 = .ok (.bipush 61, 2) := by decide +kernel
theorem dX5_common_17 : decode cX5_common 17 = .ok (.if_icmp .ge 57, 3) := by decide +kernel
theorem dX5_common_20 : decode cX5_common 20 = .ok (.aload_n 0, 1) := by decide +kernel
theorem dX5_common_21 : decode cX5_common 21 = .ok (.getfield 22, 3) := by decide +kernel
theorem dX5_common_24 : decode cX5_common 24 = .ok (.getfield 97, 3) := by decide +kernel
theorem dX5_common_27 : decode cX5_common 27 = .ok (.iload 4, 2) := by decide +kernel
theorem dX5_common_29 : decode cX5_common 29 = .ok (.baload, 1) := by decide +kernel
theorem dX5_common_30 : decode cX5_common 30 = .ok (.ifCond .eq 38, 3) := by decide +kernel
theorem dX5_common_33 : decode cX5_common 33 = .ok (.aload_n 0, 1) := by decide +kernel
theorem dX5_common_34 : decode cX5_common 34 = .ok (.getfield 10, 3) := by decide +kernel
theorem dX5_common_37 : decode cX5_common 37 = .ok (.getfield 41, 3) := by decide +kernel
theorem dX5_common_40 : decode cX5_common 40 = .ok (.iload_n 1, 1) := by decide +kernel
theorem dX5_common_41 : decode cX5_common 41 = .ok (.iload 4, 2) := by decide +kernel
theorem dX5_common_43 : decode cX5_common 43 = .ok (.invokevirtual 115, 3) := by decide +kernel
theorem dX5_common_46 : decode cX5_common 46 = .ok (.ifCond .le 22, 3) := by decide +kernel
theorem dX5_common_49 : decode cX5_common 49 = .ok (.aload_n 0, 1) := by decide +kernel
theorem dX5_common_50 : decode cX5_common 50 = .ok (.getfield 10, 3) := by decide +kernel
theorem dX5_common_53 : decode cX5_common 53 = .ok (.getfield 41, 3) := by decide +kernel
theorem dX5_common_56 : decode cX5_common 56 = .ok (.iload_n 2, 1) := by decide +kernel
theorem dX5_common_57 : decode cX5_common 57 = .ok (.iload 4, 2) := by decide +kernel
theorem dX5_common_59 : decode cX5_common 59 = .ok (.invokevirtual 115, 3) := by decide +kernel
theorem dX5_common_62 : decode cX5_common 62 = .ok (.ifCond .le 6, 3) := by decide +kernel
theorem dX5_common_65 : decode cX5_common 65 = .ok (.iinc 3 1, 3) := by decide +kernel
theorem dX5_common_68 : decode cX5_common 68 = .ok (.iinc 4 1, 3) := by decide +kernel
theorem dX5_common_71 : decode cX5_common 71 = .ok (.goto (-58), 3) := by decide +kernel
theorem dX5_common_74 : decode cX5_common 74 = .ok (.iload_n 3, 1) := by decide +kernel
theorem dX5_common_75 : decode cX5_common 75 = .ok (.ireturn, 1) := by decide +kernel
theorem dX5_floods_0 : decode cX5_floods 0 = .ok (.aload_n 0, 1) := by decide +kernel
theorem dX5_floods_1 : decode cX5_floods 1 = .ok (.getfield 22, 3) := by decide +kernel
theorem dX5_floods_4 : decode cX5_floods 4 = .ok (.getfield 124, 3) := by decide +kernel
theorem dX5_floods_7 : decode cX5_floods 7 = .ok (.ireturn, 1) := by decide +kernel
set_option maxRecDepth 20000 in
theorem ggX5_flood_X5_needWithin : GoodIn wsX5_flood wsX5_needWithin := goodIn_ca (goodIn_r _ [11, 12, 13] (by decide +kernel) (by decide +kernel)) (goodIn_sub (fun _ h => List.mem_cons_of_mem _ (List.mem_append_right _ h)) (by decide +kernel))
set_option maxRecDepth 20000 in
theorem gX5_flood_X5_needWithin : GoodIn wsX5_flood (va_wsS RX5 37 yX5_needWithin wsX5_needWithin) := goodIn_app (goodIn_of _ (by decide +kernel)) ggX5_flood_X5_needWithin
theorem dX5_flood_0 : decode cX5_flood 0 = .ok (.iload_n 1, 1) := by decide +kernel
theorem dX5_flood_1 : decode cX5_flood 1 = .ok (.ifCond .lt 14, 3) := by decide +kernel
theorem dX5_flood_4 : decode cX5_flood 4 = .ok (.iload_n 1, 1) := by decide +kernel
theorem dX5_flood_5 : decode cX5_flood 5 = .ok (.aload_n 0, 1) := by decide +kernel
theorem dX5_flood_6 : decode cX5_flood 6 = .ok (.getfield 22, 3) := by decide +kernel
theorem dX5_flood_9 : decode cX5_flood 9 = .ok (.getfield 124, 3) := by decide +kernel
theorem dX5_flood_12 : decode cX5_flood 12 = .ok (.if_icmp .lt 13, 3) := by decide +kernel
theorem dX5_flood_15 : decode cX5_flood 15 = .ok (.new 127, 3) := by decide +kernel
theorem dX5_flood_18 : decode cX5_flood 18 = .ok (.dup, 1) := by decide +kernel
theorem dX5_flood_19 : decode cX5_flood 19 = .ok (.ldc 129, 2) := by decide +kernel
theorem dX5_flood_21 : decode cX5_flood 21 = .ok (.invokespecial 131, 3) := by decide +kernel
theorem dX5_flood_24 : decode cX5_flood 24 = .ok (.athrow, 1) := by decide +kernel
theorem dX5_flood_25 : decode cX5_flood 25 = .ok (.iload_n 2, 1) := by decide +kernel
theorem dX5_flood_26 : decode cX5_flood 26 = .ok (.iconst 0, 1) := by decide +kernel
theorem dX5_flood_27 : decode cX5_flood 27 = .ok (.iconst 2, 1) := by decide +kernel
theorem dX5_flood_28 : decode cX5_flood 28 = .ok (.invokestatic 37, 3) := by decide +kernel
theorem dX5_flood_31 : decode cX5_flood 31 = .ok (.iload_n 2, 1) := by decide +kernel
theorem dX5_flood_32 : decode cX5_flood 32 = .ok (.lookupswitch 48 #[(0, 28), (1, 38)], 28) := by decide +kernel
theorem dX5_flood_60 : decode cX5_flood 60 = .ok (.aload_n 0, 1) := by decide +kernel
theorem dX5_flood_61 : decode cX5_flood 61 = .ok (.getfield 22, 3) := by decide +kernel
theorem dX5_flood_64 : decode cX5_flood 64 = .ok (.getfield 132, 3) := by decide +kernel
theorem dX5_flood_67 : decode cX5_flood 67 = .ok (.iload_n 1, 1) := by decide +kernel
theorem dX5_flood_68 : decode cX5_flood 68 = .ok (.iaload, 1) := by decide +kernel
theorem dX5_flood_69 : decode cX5_flood 69 = .ok (.ireturn, 1) := by decide +kernel
theorem dX5_flood_70 : decode cX5_flood 70 = .ok (.aload_n 0, 1) := by decide +kernel
theorem dX5_flood_71 : decode cX5_flood 71 = .ok (.getfield 22, 3) := by decide +kernel
theorem dX5_flood_74 : decode cX5_flood 74 = .ok (.getfield 135, 3) := by decide +kernel
theorem dX5_flood_77 : decode cX5_flood 77 = .ok (.iload_n 1, 1) := by decide +kernel
theorem dX5_flood_78 : decode cX5_flood 78 = .ok (.iaload, 1) := by decide +kernel
theorem dX5_flood_79 : decode cX5_flood 79 = .ok (.ireturn, 1) := by decide +kernel
theorem dX5_flood_80 : decode cX5_flood 80 = .ok (.aload_n 0, 1) := by decide +kernel
theorem dX5_flood_81 : decode cX5_flood 81 = .ok (.getfield 22, 3) := by decide +kernel
theorem dX5_flood_84 : decode cX5_flood 84 = .ok (.getfield 138, 3) := by decide +kernel
theorem dX5_flood_87 : decode cX5_flood 87 = .ok (.iload_n 1, 1) := by decide +kernel
theorem dX5_flood_88 : decode cX5_flood 88 = .ok (.iaload, 1) := by decide +kernel
theorem dX5_flood_89 : decode cX5_flood 89 = .ok (.ireturn, 1) := by decide +kernel
set_option maxRecDepth 20000 in
theorem ggX5_front_X5_needWithin : GoodIn wsX5_front wsX5_needWithin := goodIn_ca (goodIn_r _ [8, 9, 10] (by decide +kernel) (by decide +kernel)) (goodIn_sub (fun _ h => List.mem_cons_of_mem _ (List.mem_append_right _ h)) (by decide +kernel))
set_option maxRecDepth 20000 in
theorem gX5_front_X5_needWithin : GoodIn wsX5_front (va_wsS RX5 37 yX5_needWithin wsX5_needWithin) := goodIn_app (goodIn_of _ (by decide +kernel)) ggX5_front_X5_needWithin
theorem dX5_front_0 : decode cX5_front 0 = .ok (.iload_n 1, 1) := by decide +kernel
theorem dX5_front_1 : decode cX5_front 1 = .ok (.iconst 0, 1) := by decide +kernel
theorem dX5_front_2 : decode cX5_front 2 = .ok (.aload_n 0, 1) := by decide +kernel
theorem dX5_front_3 : decode cX5_front 3 = .ok (.getfield 10, 3) := by decide +kernel
theorem dX5_front_6 : decode cX5_front 6 = .ok (.getfield 82, 3) := by decide +kernel
theorem dX5_front_9 : decode cX5_front 9 = .ok (.invokestatic 37, 3) := by decide +kernel
theorem dX5_front_12 : decode cX5_front 12 = .ok (.aload_n 0, 1) := by decide +kernel
theorem dX5_front_13 : decode cX5_front 13 = .ok (.getfield 22, 3) := by decide +kernel
theorem dX5_front_16 : decode cX5_front 16 = .ok (.getfield 141, 3) := by decide +kernel
theorem dX5_front_19 : decode cX5_front 19 = .ok (.iload_n 1, 1) := by decide +kernel
theorem dX5_front_20 : decode cX5_front 20 = .ok (.iaload, 1) := by decide +kernel
theorem dX5_front_21 : decode cX5_front 21 = .ok (.ireturn, 1) := by decide +kernel
set_option maxRecDepth 20000 in
theorem ggX5_total_X5_needWithin : GoodIn wsX5_total wsX5_needWithin := goodIn_ca (goodIn_r _ [11, 12, 13] (by decide +kernel) (by decide +kernel)) (goodIn_sub (fun _ h => List.mem_cons_of_mem _ (List.mem_append_right _ h)) (by decide +kernel))
set_option maxRecDepth 20000 in
theorem gX5_total_X5_needWithin : GoodIn wsX5_total (va_wsS RX5 37 yX5_needWithin wsX5_needWithin) := goodIn_app (goodIn_of _ (by decide +kernel)) ggX5_total_X5_needWithin
set_option maxRecDepth 20000 in
theorem ggX5_total_X1_allIce : GoodIn wsX5_total wsX1_allIce := goodIn_r _ [18, 19, 51, 52] (by decide +kernel) (by decide +kernel)
set_option maxRecDepth 20000 in
theorem gX5_total_X1_allIce : GoodIn wsX5_total (wsV RX5 144 RX1 yX1_allIce wsX1_allIce) := goodIn_app (goodIn_of _ (by decide +kernel)) ggX5_total_X1_allIce
set_option maxRecDepth 20000 in
theorem ggX5_total_X3_allWater : GoodIn wsX5_total wsX3_allWater := goodIn_r _ [24, 25, 30, 31, 32, 33, 34, 35, 36, 37, 38, 39, 40, 41, 42, 43, 44, 45] (by decide +kernel) (by decide +kernel)
set_option maxRecDepth 20000 in
theorem gX5_total_X3_allWater : GoodIn wsX5_total (wsV RX5 148 RX3 yX3_allWater wsX3_allWater) := goodIn_app (goodIn_of _ (by decide +kernel)) ggX5_total_X3_allWater
theorem dX5_total_0 : decode cX5_total 0 = .ok (.iload_n 1, 1) := by decide +kernel
theorem dX5_total_1 : decode cX5_total 1 = .ok (.iconst 0, 1) := by decide +kernel
theorem dX5_total_2 : decode cX5_total 2 = .ok (.iconst 5, 1) := by decide +kernel
theorem dX5_total_3 : decode cX5_total 3 = .ok (.invokestatic 37, 3) := by decide +kernel
theorem dX5_total_6 : decode cX5_total 6 = .ok (.iload_n 1, 1) := by decide +kernel
theorem dX5_total_7 : decode cX5_total 7 = .ok (.tableswitch 85 0 4 #[33, 44, 52, 63, 74], 33) := by decide +kernel
theorem dX5_total_40 : decode cX5_total 40 = .ok (.aload_n 0, 1) := by decide +kernel
theorem dX5_total_41 : decode cX5_total 41 = .ok (.getfield 10, 3) := by decide +kernel
theorem dX5_total_44 : decode cX5_total 44 = .ok (.getfield 41, 3) := by decide +kernel
theorem dX5_total_47 : decode cX5_total 47 = .ok (.invokevirtual 144, 3) := by decide +kernel
theorem dX5_total_50 : decode cX5_total 50 = .ok (.ireturn, 1) := by decide +kernel
theorem dX5_total_51 : decode cX5_total 51 = .ok (.aload_n 0, 1) := by decide +kernel
theorem dX5_total_52 : decode cX5_total 52 = .ok (.getfield 10, 3) := by decide +kernel
theorem dX5_total_55 : decode cX5_total 55 = .ok (.invokevirtual 148, 3) := by decide +kernel
theorem dX5_total_58 : decode cX5_total 58 = .ok (.ireturn, 1) := by decide +kernel
theorem dX5_total_59 : decode cX5_total 59 = .ok (.aload_n 0, 1) := by decide +kernel
theorem dX5_total_60 : decode cX5_total 60 = .ok (.getfield 10, 3) := by decide +kernel
theorem dX5_total_63 : decode cX5_total 63 = .ok (.getfield 88, 3) := by decide +kernel
theorem dX5_total_66 : decode cX5_total 66 = .ok (.getfield 151, 3) := by decide +kernel
theorem dX5_total_69 : decode cX5_total 69 = .ok (.ireturn, 1) := by decide +kernel
theorem dX5_total_70 : decode cX5_total 70 = .ok (.aload_n 0, 1) := by decide +kernel
theorem dX5_total_71 : decode cX5_total 71 = .ok (.getfield 10, 3) := by decide +kernel
theorem dX5_total_74 : decode cX5_total 74 = .ok (.getfield 88, 3) := by decide +kernel
theorem dX5_total_77 : decode cX5_total 77 = .ok (.getfield 154, 3) := by decide +kernel
theorem dX5_total_80 : decode cX5_total 80 = .ok (.ireturn, 1) := by decide +kernel
theorem dX5_total_81 : decode cX5_total 81 = .ok (.aload_n 0, 1) := by decide +kernel
theorem dX5_total_82 : decode cX5_total 82 = .ok (.getfield 10, 3) := by decide +kernel
theorem dX5_total_85 : decode cX5_total 85 = .ok (.getfield 88, 3) := by decide +kernel
theorem dX5_total_88 : decode cX5_total 88 = .ok (.getfield 157, 3) := by decide +kernel
theorem dX5_total_91 : decode cX5_total 91 = .ok (.ireturn, 1) := by decide +kernel
theorem dX5_total_92 : decode cX5_total 92 = .ok (.aload_n 0, 1) := by decide +kernel
theorem dX5_total_93 : decode cX5_total 93 = .ok (.getfield 10, 3) := by decide +kernel
theorem dX5_total_96 : decode cX5_total 96 = .ok (.getfield 88, 3) := by decide +kernel
theorem dX5_total_99 : decode cX5_total 99 = .ok (.getfield 92, 3) := by decide +kernel
theorem dX5_total_102 : decode cX5_total 102 = .ok (.ireturn, 1) := by decide +kernel
theorem dX5_iceAnew_0 : decode cX5_iceAnew 0 = .ok (.aload_n 0, 1) := by decide +kernel
theorem dX5_iceAnew_1 : decode cX5_iceAnew 1 = .ok (.getfield 10, 3) := by decide +kernel
theorem dX5_iceAnew_4 : decode cX5_iceAnew 4 = .ok (.getfield 88, 3) := by decide +kernel
theorem dX5_iceAnew_7 : decode cX5_iceAnew 7 = .ok (.astore_n 1, 1) := by decide +kernel
theorem dX5_iceAnew_8 : decode cX5_iceAnew 8 = .ok (.aload_n 1, 1) := by decide +kernel
theorem dX5_iceAnew_9 : decode cX5_iceAnew 9 = .ok (.getfield 157, 3) := by decide +kernel
end
section
theorem dX5_iceAnew_12 : decode cX5_iceAnew 12 = .ok (.aload_n 1, 1) := by decide +kernel
theorem dX5_iceAnew_13 : decode cX5_iceAnew 13 = .ok (.getfield 92, 3) := by decide +kernel
theorem dX5_iceAnew_16 : decode cX5_iceAnew 16 = .ok (.iadd, 1) := by decide +kernel
theorem dX5_iceAnew_17 : decode cX5_iceAnew 17 = .ok (.aload_n 1, 1) := by decide +kernel
theorem dX5_iceAnew_18 : decode cX5_iceAnew 18 = .ok (.getfield 160, 3) := by decide +kernel
theorem dX5_iceAnew_21 : decode cX5_iceAnew 21 = .ok (.isub, 1) := by decide +kernel
theorem dX5_iceAnew_22 : decode cX5_iceAnew 22 = .ok (.aload_n 1, 1) := by decide +kernel
theorem dX5_iceAnew_23 : decode cX5_iceAnew 23 = .ok (.getfield 154, 3) := by decide +kernel
theorem dX5_iceAnew_26 : decode cX5_iceAnew 26 = .ok (.isub, 1) := by decide +kernel
theorem dX5_iceAnew_27 : decode cX5_iceAnew 27 = .ok (.ireturn, 1) := by decide +kernel
set_option maxRecDepth 20000 in
theorem ggX5_would_X5_needCell : GoodIn wsX5_would wsX5_needCell := goodIn_ca (goodIn_r _ [5, 6, 7] (by decide +kernel) (by decide +kernel)) (goodIn_sub (fun _ h => List.mem_cons_of_mem _ (List.mem_append_left _ (List.mem_append_left _ (List.mem_append_right _ h)))) (by decide +kernel))
set_option maxRecDepth 20000 in
theorem gX5_would_X5_needCell : GoodIn wsX5_would (va_wsS RX5 33 yX5_needCell wsX5_needCell) := goodIn_app (goodIn_of _ (by decide +kernel)) ggX5_would_X5_needCell
set_option maxRecDepth 20000 in
theorem ggX5_would_X5_needWithin : GoodIn wsX5_would wsX5_needWithin := goodIn_ca (goodIn_r _ [10, 11, 12] (by decide +kernel) (by decide +kernel)) (goodIn_sub (fun _ h => List.mem_cons_of_mem _ (List.mem_append_left _ (List.mem_append_right _ h))) (by decide +kernel))
set_option maxRecDepth 20000 in
theorem gX5_would_X5_needWithin : GoodIn wsX5_would (va_wsS RX5 37 yX5_needWithin wsX5_needWithin) := goodIn_app (goodIn_of _ (by decide +kernel)) ggX5_would_X5_needWithin
set_option maxRecDepth 20000 in
theorem ggX5_would_X5_needNotTooLate : GoodIn wsX5_would wsX5_needNotTooLate := goodIn_ca (goodIn_r _ [16, 17, 18, 19, 20, 164, 165, 166, 167, 168, 169, 170, 171, 172, 173, 174, 175, 176, 177, 178, 179, 180, 181, 182, 183] (by decide +kernel) (by decide +kernel)) (goodIn_sub (fun _ h => List.mem_cons_of_mem _ (List.mem_append_right _ h)) (by decide +kernel))
set_option maxRecDepth 20000 in
theorem gX5_would_X5_needNotTooLate : GoodIn wsX5_would (wsV RX5 101 RX5 yX5_needNotTooLate wsX5_needNotTooLate) := goodIn_app (goodIn_of _ (by decide +kernel)) ggX5_would_X5_needNotTooLate
set_option maxRecDepth 20000 in
theorem ggX5_would_X5_tryOut : GoodIn wsX5_would wsX5_tryOut := goodIn_r _ [24, 1, 19, 25, 26, 27, 28, 29, 30, 31, 32, 33, 34, 35, 36, 37, 38, 39, 40, 41, 42, 43, 44, 45, 46, 47, 48, 49, 50, 51, 52, 53, 54, 55, 56, 57, 58, 59, 60, 61, 62, 63, 64, 65, 66, 67, 68, 69, 70, 71, 72, 73, 74, 75, 76, 77, 78, 79, 80, 81, 82, 83, 84, 85, 86, 87, 88, 89, 90, 91, 92, 93, 94, 95, 96, 97, 98, 99, 100, 101, 102, 103, 104, 105, 106, 107, 108, 109, 110, 111, 112, 113, 114, 115, 116, 117, 118, 119, 120, 121, 122, 123, 124, 125, 126, 127, 128, 129, 130, 131, 132, 133, 134, 135, 136, 137, 138, 139, 140, 141, 142, 143, 144, 145, 146, 147, 148, 149, 150, 151, 152, 164, 165, 166, 167, 168, 169, 170, 171, 172, 173, 174, 175, 176, 177, 178, 179, 180, 181, 182, 183, 184, 185, 186, 187, 188, 189, 190] (by decide +kernel) (by decide +kernel)
set_option maxRecDepth 20000 in
theorem gX5_would_X5_tryOut : GoodIn wsX5_would (wsV RX5 163 RX5 yX5_tryOut wsX5_tryOut) := goodIn_app (goodIn_of _ (by decide +kernel)) ggX5_would_X5_tryOut
set_option maxRecDepth 20000 in
theorem ggX5_would_X3_tellOf : GoodIn wsX5_would wsX3_tellOf := goodIn_r _ [156, 36, 35, 61, 42, 43, 60, 41, 69, 70, 71, 28, 72, 157, 158, 159, 160, 100, 161, 162, 66, 163, 77, 78, 79, 80, 31, 126, 127, 128, 129, 168, 169, 170, 171, 172, 173, 174, 175, 176, 177, 178, 179, 180, 181, 182, 183, 184, 185] (by decide +kernel) (by decide +kernel)
set_option maxRecDepth 20000 in
theorem gX5_would_X3_tellOf : GoodIn wsX5_would (wsV RX5 111 RX3 yX3_tellOf wsX3_tellOf) := goodIn_app (goodIn_of _ (by decide +kernel)) ggX5_would_X3_tellOf
theorem dX5_would_0 : decode cX5_would 0 = .ok (.iload_n 2, 1) := by decide +kernel
theorem dX5_would_1 : decode cX5_would 1 = .ok (.invokestatic 33, 3) := by decide +kernel
theorem dX5_would_4 : decode cX5_would 4 = .ok (.iload_n 1, 1) := by decide +kernel
theorem dX5_would_5 : decode cX5_would 5 = .ok (.iconst 1, 1) := by decide +kernel
theorem dX5_would_6 : decode cX5_would 6 = .ok (.bipush 20, 2) := by decide +kernel
theorem dX5_would_8 : decode cX5_would 8 = .ok (.invokestatic 37, 3) := by decide +kernel
theorem dX5_would_11 : decode cX5_would 11 = .ok (.iload_n 3, 1) := by decide +kernel
theorem dX5_would_12 : decode cX5_would 12 = .ok (.iconst 0, 1) := by decide +kernel
theorem dX5_would_13 : decode cX5_would 13 = .ok (.bipush 9, 2) := by decide +kernel
theorem dX5_would_15 : decode cX5_would 15 = .ok (.invokestatic 37, 3) := by decide +kernel
theorem dX5_would_18 : decode cX5_would 18 = .ok (.aload_n 0, 1) := by decide +kernel
theorem dX5_would_19 : decode cX5_would 19 = .ok (.iload_n 1, 1) := by decide +kernel
theorem dX5_would_20 : decode cX5_would 20 = .ok (.invokevirtual 101, 3) := by decide +kernel
theorem dX5_would_23 : decode cX5_would 23 = .ok (.aload_n 0, 1) := by decide +kernel
theorem dX5_would_24 : decode cX5_would 24 = .ok (.iload_n 1, 1) := by decide +kernel
theorem dX5_would_25 : decode cX5_would 25 = .ok (.invokevirtual 163, 3) := by decide +kernel
theorem dX5_would_28 : decode cX5_would 28 = .ok (.aload_n 0, 1) := by decide +kernel
theorem dX5_would_29 : decode cX5_would 29 = .ok (.getfield 16, 3) := by decide +kernel
theorem dX5_would_32 : decode cX5_would 32 = .ok (.iload_n 2, 1) := by decide +kernel
theorem dX5_would_33 : decode cX5_would 33 = .ok (.iload_n 3, 1) := by decide +kernel
theorem dX5_would_34 : decode cX5_would 34 = .ok (.invokevirtual 111, 3) := by decide +kernel
theorem dX5_would_37 : decode cX5_would 37 = .ok (.ireturn, 1) := by decide +kernel
set_option maxRecDepth 20000 in
theorem ggX5_forecast_X5_needWithin : GoodIn wsX5_forecast wsX5_needWithin := goodIn_ca (goodIn_r _ [11, 12, 13] (by decide +kernel) (by decide +kernel)) (goodIn_sub (fun _ h => List.mem_cons_of_mem _ (List.mem_append_right _ h)) (by decide +kernel))
set_option maxRecDepth 20000 in
theorem gX5_forecast_X5_needWithin : GoodIn wsX5_forecast (va_wsS RX5 37 yX5_needWithin wsX5_needWithin) := goodIn_app (goodIn_of _ (by decide +kernel)) ggX5_forecast_X5_needWithin
set_option maxRecDepth 20000 in
theorem ggX5_forecast_X5_needNotTooLate : GoodIn wsX5_forecast wsX5_needNotTooLate := goodIn_ca (goodIn_r _ [17, 1, 2, 18, 7, 163, 164, 165, 166, 170, 171, 172, 173, 174, 175, 176, 177, 178, 179, 180, 181, 182, 183, 184, 185] (by decide +kernel) (by decide +kernel)) (goodIn_sub (fun _ h => List.mem_cons_of_mem _ (List.mem_append_left _ (List.mem_append_right _ h))) (by decide +kernel))
set_option maxRecDepth 20000 in
theorem gX5_forecast_X5_needNotTooLate : GoodIn wsX5_forecast (wsV RX5 101 RX5 yX5_needNotTooLate wsX5_needNotTooLate) := goodIn_app (goodIn_of _ (by decide +kernel)) ggX5_forecast_X5_needNotTooLate
set_option maxRecDepth 20000 in
theorem ggX5_forecast_X5_tryOut : GoodIn wsX5_forecast wsX5_tryOut := goodIn_r _ [22, 5, 18, 23, 24, 25, 26, 27, 28, 29, 30, 31, 32, 33, 34, 35, 36, 37, 38, 39, 40, 41, 42, 43, 44, 45, 46, 47, 48, 49, 50, 51, 52, 53, 54, 55, 56, 57, 58, 59, 60, 61, 62, 63, 64, 65, 66, 67, 68, 69, 70, 71, 72, 73, 74, 75, 76, 77, 78, 79, 80, 81, 82, 83, 84, 85, 86, 87, 88, 89, 90, 91, 92, 93, 94, 95, 96, 97, 98, 99, 100, 101, 102, 103, 104, 105, 106, 107, 108, 109, 110, 111, 112, 113, 114, 115, 116, 117, 118, 119, 120, 121, 122, 123, 124, 125, 126, 127, 128, 129, 130, 131, 132, 133, 134, 135, 136, 137, 138, 139, 140, 141, 142, 143, 144, 145, 146, 147, 148, 149, 150, 163, 164, 165, 166, 170, 171, 172, 173, 174, 175, 176, 177, 178, 179, 180, 181, 182, 183, 184, 185, 186, 187, 188, 189, 190, 191, 192] (by decide +kernel) (by decide +kernel)
set_option maxRecDepth 20000 in
theorem gX5_forecast_X5_tryOut : GoodIn wsX5_forecast (wsV RX5 163 RX5 yX5_tryOut wsX5_tryOut) := goodIn_app (goodIn_of _ (by decide +kernel)) ggX5_forecast_X5_tryOut
set_option maxRecDepth 20000 in
theorem ggX5_forecast_X1_allIce : GoodIn wsX5_forecast wsX1_allIce := goodIn_r _ [154, 47, 186, 187] (by decide +kernel) (by decide +kernel)
set_option maxRecDepth 20000 in
theorem gX5_forecast_X1_allIce : GoodIn wsX5_forecast (wsV RX5 144 RX1 yX1_allIce wsX1_allIce) := goodIn_app (goodIn_of _ (by decide +kernel)) ggX5_forecast_X1_allIce
set_option maxRecDepth 20000 in
theorem ggX5_forecast_X2_keep : GoodIn wsX5_forecast wsX2_keep := goodIn_r _ [159, 160, 161, 162, 167, 168, 169] (by decide +kernel) (by decide +kernel)
set_option maxRecDepth 20000 in
theorem gX5_forecast_X2_keep : GoodIn wsX5_forecast (wsV RX5 171 RX2 yX2_keep wsX2_keep) := goodIn_app (goodIn_of _ (by decide +kernel)) ggX5_forecast_X2_keep
theorem dX5_forecast_0 : decode cX5_forecast 0 = .ok (.iload_n 1, 1) := by decide +kernel
theorem dX5_forecast_1 : decode cX5_forecast 1 = .ok (.iconst 1, 1) := by decide +kernel
theorem dX5_forecast_2 : decode cX5_forecast 2 = .ok (.bipush 20, 2) := by decide +kernel
theorem dX5_forecast_4 : decode cX5_forecast 4 = .ok (.invokestatic 37, 3) := by decide +kernel
theorem dX5_forecast_7 : decode cX5_forecast 7 = .ok (.aload_n 0, 1) := by decide +kernel
theorem dX5_forecast_8 : decode cX5_forecast 8 = .ok (.iload_n 1, 1) := by decide +kernel
theorem dX5_forecast_9 : decode cX5_forecast 9 = .ok (.invokevirtual 101, 3) := by decide +kernel
theorem dX5_forecast_12 : decode cX5_forecast 12 = .ok (.aload_n 0, 1) := by decide +kernel
theorem dX5_forecast_13 : decode cX5_forecast 13 = .ok (.getfield 29, 3) := by decide +kernel
theorem dX5_forecast_16 : decode cX5_forecast 16 = .ok (.getfield 166, 3) := by decide +kernel
theorem dX5_forecast_19 : decode cX5_forecast 19 = .ok (.bipush 10, 2) := by decide +kernel
theorem dX5_forecast_21 : decode cX5_forecast 21 = .ok (.if_icmp .lt 13, 3) := by decide +kernel
theorem dX5_forecast_24 : decode cX5_forecast 24 = .ok (.new 54, 3) := by decide +kernel
theorem dX5_forecast_27 : decode cX5_forecast 27 = .ok (.dup, 1) := by decide +kernel
theorem dX5_forecast_28 : decode cX5_forecast 28 = .ok (.ldc 169, 2) := by decide +kernel
theorem dX5_forecast_30 : decode cX5_forecast 30 = .ok (.invokespecial 58, 3) := by decide +kernel
theorem dX5_forecast_33 : decode cX5_forecast 33 = .ok (.athrow, 1) := by decide +kernel
theorem dX5_forecast_34 : decode cX5_forecast 34 = .ok (.aload_n 0, 1) := by decide +kernel
theorem dX5_forecast_35 : decode cX5_forecast 35 = .ok (.iload_n 1, 1) := by decide +kernel
theorem dX5_forecast_36 : decode cX5_forecast 36 = .ok (.invokevirtual 163, 3) := by decide +kernel
theorem dX5_forecast_39 : decode cX5_forecast 39 = .ok (.aload_n 0, 1) := by decide +kernel
theorem dX5_forecast_40 : decode cX5_forecast 40 = .ok (.getfield 16, 3) := by decide +kernel
theorem dX5_forecast_43 : decode cX5_forecast 43 = .ok (.getfield 41, 3) := by decide +kernel
theorem dX5_forecast_46 : decode cX5_forecast 46 = .ok (.invokevirtual 144, 3) := by decide +kernel
theorem dX5_forecast_49 : decode cX5_forecast 49 = .ok (.istore_n 2, 1) := by decide +kernel
theorem dX5_forecast_50 : decode cX5_forecast 50 = .ok (.aload_n 0, 1) := by decide +kernel
theorem dX5_forecast_51 : decode cX5_forecast 51 = .ok (.getfield 29, 3) := by decide +kernel
theorem dX5_forecast_54 : decode cX5_forecast 54 = .ok (.aload_n 0, 1) := by decide +kernel
theorem dX5_forecast_55 : decode cX5_forecast 55 = .ok (.getfield 16, 3) := by decide +kernel
theorem dX5_forecast_58 : decode cX5_forecast 58 = .ok (.getfield 82, 3) := by decide +kernel
theorem dX5_forecast_61 : decode cX5_forecast 61 = .ok (.iload_n 2, 1) := by decide +kernel
theorem dX5_forecast_62 : decode cX5_forecast 62 = .ok (.invokevirtual 171, 3) := by decide +kernel
theorem dX5_forecast_65 : decode cX5_forecast 65 = .ok (.iload_n 2, 1) := by decide +kernel
theorem dX5_forecast_66 : decode cX5_forecast 66 = .ok (.ireturn, 1) := by decide +kernel
theorem dX5_miss_0 : decode cX5_miss 0 = .ok (.iload_n 1, 1) := by decide +kernel
theorem dX5_miss_1 : decode cX5_miss 1 = .ok (.ifCond .lt 14, 3) := by decide +kernel
theorem dX5_miss_4 : decode cX5_miss 4 = .ok (.iload_n 1, 1) := by decide +kernel
theorem dX5_miss_5 : decode cX5_miss 5 = .ok (.aload_n 0, 1) := by decide +kernel
theorem dX5_miss_6 : decode cX5_miss 6 = .ok (.getfield 29, 3) := by decide +kernel
theorem dX5_miss_9 : decode cX5_miss 9 = .ok (.getfield 166, 3) := by decide +kernel
theorem dX5_miss_12 : decode cX5_miss 12 = .ok (.if_icmp .lt 13, 3) := by decide +kernel
theorem dX5_miss_15 : decode cX5_miss 15 = .ok (.new 127, 3) := by decide +kernel
theorem dX5_miss_18 : decode cX5_miss 18 = .ok (.dup, 1) := by decide +kernel
theorem dX5_miss_19 : decode cX5_miss 19 = .ok (.ldc 175, 2) := by decide +kernel
theorem dX5_miss_21 : decode cX5_miss 21 = .ok (.invokespecial 131, 3) := by decide +kernel
theorem dX5_miss_24 : decode cX5_miss 24 = .ok (.athrow, 1) := by decide +kernel
theorem dX5_miss_25 : decode cX5_miss 25 = .ok (.aload_n 0, 1) := by decide +kernel
theorem dX5_miss_26 : decode cX5_miss 26 = .ok (.getfield 29, 3) := by decide +kernel
theorem dX5_miss_29 : decode cX5_miss 29 = .ok (.getfield 177, 3) := by decide +kernel
theorem dX5_miss_32 : decode cX5_miss 32 = .ok (.iload_n 1, 1) := by decide +kernel
theorem dX5_miss_33 : decode cX5_miss 33 = .ok (.iaload, 1) := by decide +kernel
theorem dX5_miss_34 : decode cX5_miss 34 = .ok (.istore_n 2, 1) := by decide +kernel
theorem dX5_miss_35 : decode cX5_miss 35 = .ok (.iload_n 2, 1) := by decide +kernel
theorem dX5_miss_36 : decode cX5_miss 36 = .ok (.aload_n 0, 1) := by decide +kernel
theorem dX5_miss_37 : decode cX5_miss 37 = .ok (.getfield 10, 3) := by decide +kernel
theorem dX5_miss_40 : decode cX5_miss 40 = .ok (.getfield 82, 3) := by decide +kernel
theorem dX5_miss_43 : decode cX5_miss 43 = .ok (.if_icmp .le 5, 3) := by decide +kernel
theorem dX5_miss_46 : decode cX5_miss 46 = .ok (.iconst (-1), 1) := by decide +kernel
theorem dX5_miss_47 : decode cX5_miss 47 = .ok (.ireturn, 1) := by decide +kernel
theorem dX5_miss_48 : decode cX5_miss 48 = .ok (.aload_n 0, 1) := by decide +kernel
theorem dX5_miss_49 : decode cX5_miss 49 = .ok (.getfield 29, 3) := by decide +kernel
theorem dX5_miss_52 : decode cX5_miss 52 = .ok (.getfield 180, 3) := by decide +kernel
theorem dX5_miss_55 : decode cX5_miss 55 = .ok (.iload_n 1, 1) := by decide +kernel
theorem dX5_miss_56 : decode cX5_miss 56 = .ok (.iaload, 1) := by decide +kernel
theorem dX5_miss_57 : decode cX5_miss 57 = .ok (.aload_n 0, 1) := by decide +kernel
theorem dX5_miss_58 : decode cX5_miss 58 = .ok (.getfield 22, 3) := by decide +kernel
theorem dX5_miss_61 : decode cX5_miss 61 = .ok (.getfield 183, 3) := by decide +kernel
theorem dX5_miss_64 : decode cX5_miss 64 = .ok (.iload_n 2, 1) := by decide +kernel
theorem dX5_miss_65 : decode cX5_miss 65 = .ok (.iaload, 1) := by decide +kernel
theorem dX5_miss_66 : decode cX5_miss 66 = .ok (.isub, 1) := by decide +kernel
theorem dX5_miss_67 : decode cX5_miss 67 = .ok (.invokestatic 186, 3) := by decide +kernel
theorem dX5_miss_70 : decode cX5_miss 70 = .ok (.ireturn, 1) := by decide +kernel
set_option maxRecDepth 20000 in
theorem ggX5_tryOut_X3_becomeLike : GoodIn wsX5_tryOut wsX3_becomeLike := goodIn_r _ [7, 8, 9, 10, 11, 12, 13, 14, 15, 16, 17, 18, 19, 20, 21, 22, 23, 24, 25, 26, 27, 28, 29, 135, 136, 137, 138, 139, 140, 141, 142, 143, 144, 145, 146, 147, 148, 149, 150, 151, 152] (by decide +kernel) (by decide +kernel)
set_option maxRecDepth 20000 in
theorem gX5_tryOut_X3_becomeLike : GoodIn wsX5_tryOut (wsV RX5 192 RX3 yX3_becomeLike wsX3_becomeLike) := goodIn_app (goodIn_of _ (by decide +kernel)) ggX5_tryOut_X3_becomeLike
set_option maxRecDepth 20000 in
theorem ggX5_tryOut_X3_goThroughYear : GoodIn wsX5_tryOut wsX3_goThroughYear := goodIn_r _ [33, 8, 34, 35, 36, 6, 37, 10, 38, 13, 39, 11, 40, 41, 12, 42, 43, 44, 45, 20, 46, 47, 48, 49, 50, 14, 51, 52, 53, 54, 55, 56, 57, 58, 9, 59, 60, 61, 25, 62, 29, 27, 63, 64, 65, 66, 67, 68, 69, 70, 71, 72, 73, 74, 75, 76, 77, 78, 79, 80, 81, 82, 83, 84, 85, 86, 87, 88, 89, 90, 91, 92, 93, 94, 95, 96, 97, 98, 99, 100, 101, 102, 103, 104, 105, 106, 107, 108, 109, 110, 111, 112, 113, 114, 115, 116, 117, 118, 119, 120, 121, 122, 123, 124, 125, 19, 126, 127, 128, 129, 130, 21, 135, 136, 137, 138, 139, 140, 141, 142, 143, 144, 145, 146, 147, 148, 149, 150, 151, 152, 153, 154, 155, 156, 157] (by decide +kernel) (by decide +kernel)
set_option maxRecDepth 20000 in
theorem gX5_tryOut_X3_goThroughYear : GoodIn wsX5_tryOut (wsV RX5 104 RX3 yX3_goThroughYear wsX3_goThroughYear) := goodIn_app (goodIn_of _ (by decide +kernel)) ggX5_tryOut_X3_goThroughYear
theorem dX5_tryOut_0 : decode cX5_tryOut 0 = .ok (.aload_n 0, 1) := by decide +kernel
theorem dX5_tryOut_1 : decode cX5_tryOut 1 = .ok (.getfield 16, 3) := by decide +kernel
theorem dX5_tryOut_4 : decode cX5_tryOut 4 = .ok (.aload_n 0, 1) := by decide +kernel
theorem dX5_tryOut_5 : decode cX5_tryOut 5 = .ok (.getfield 10, 3) := by decide +kernel
theorem dX5_tryOut_8 : decode cX5_tryOut 8 = .ok (.invokevirtual 192, 3) := by decide +kernel
theorem dX5_tryOut_11 : decode cX5_tryOut 11 = .ok (.iconst 0, 1) := by decide +kernel
theorem dX5_tryOut_12 : decode cX5_tryOut 12 = .ok (.istore_n 2, 1) := by decide +kernel
theorem dX5_tryOut_13 : decode cX5_tryOut 13 = .ok (.iload_n 2, 1) := by decide +kernel
theorem dX5_tryOut_14 : decode cX5_tryOut 14 = .ok (.iload_n 1, 1) := by decide +kernel
theorem dX5_tryOut_15 : decode cX5_tryOut 15 = .ok (.if_icmp .ge 16, 3) := by decide +kernel
theorem dX5_tryOut_18 : decode cX5_tryOut 18 = .ok (.aload_n 0, 1) := by decide +kernel
theorem dX5_tryOut_19 : decode cX5_tryOut 19 = .ok (.getfield 16, 3) := by decide +kernel
theorem dX5_tryOut_22 : decode cX5_tryOut 22 = .ok (.invokevirtual 104, 3) := by decide +kernel
theorem dX5_tryOut_25 : decode cX5_tryOut 25 = .ok (.iinc 2 1, 3) := by decide +kernel
theorem dX5_tryOut_28 : decode cX5_tryOut 28 = .ok (.goto (-15), 3) := by decide +kernel
theorem dX5_tryOut_31 : decode cX5_tryOut 31 = .ok (.return_, 1) := by decide +kernel
theorem dX5_needNotTooLate_0 : decode cX5_needNotTooLate 0 = .ok (.aload_n 0, 1) := by decide +kernel
theorem dX5_needNotTooLate_1 : decode cX5_needNotTooLate 1 = .ok (.getfield 10, 3) := by decide +kernel
theorem dX5_needNotTooLate_4 : decode cX5_needNotTooLate 4 = .ok (.getfield 82, 3) := by decide +kernel
theorem dX5_needNotTooLate_7 : decode cX5_needNotTooLate 7 = .ok (.iload_n 1, 1) := by decide +kernel
theorem dX5_needNotTooLate_8 : decode cX5_needNotTooLate 8 = .ok (.iadd, 1) := by decide +kernel
theorem dX5_needNotTooLate_9 : decode cX5_needNotTooLate 9 = .ok (.bipush 60, 2) := by decide +kernel
theorem dX5_needNotTooLate_11 : decode cX5_needNotTooLate 11 = .ok (.if_icmp .le 13, 3) := by decide +kernel
theorem dX5_needNotTooLate_14 : decode cX5_needNotTooLate 14 = .ok (.new 54, 3) := by decide +kernel
theorem dX5_needNotTooLate_17 : decode cX5_needNotTooLate 17 = .ok (.dup, 1) := by decide +kernel
theorem dX5_needNotTooLate_18 : decode cX5_needNotTooLate 18 = .ok (.ldc 195, 2) := by decide +kernel
theorem dX5_needNotTooLate_20 : decode cX5_needNotTooLate 20 = .ok (.invokespecial 58, 3) := by decide +kernel
theorem dX5_needNotTooLate_23 : decode cX5_needNotTooLate 23 = .ok (.athrow, 1) := by decide +kernel
theorem dX5_needNotTooLate_24 : decode cX5_needNotTooLate 24 = .ok (.return_, 1) := by decide +kernel
theorem dX5_needCell_0 : decode cX5_needCell 0 = .ok (.iload_n 0, 1) := by decide +kernel
theorem dX5_needCell_1 : decode cX5_needCell 1 = .ok (.ifCond .lt 9, 3) := by decide +kernel
theorem dX5_needCell_4 : decode cX5_needCell 4 = .ok (.iload_n 0, 1) := by decide +kernel
theorem dX5_needCell_5 : decode cX5_needCell 5 = .ok (.bipush 12, 2) := by decide +kernel
theorem dX5_needCell_7 : decode cX5_needCell 7 = .ok (.if_icmp .lt 13, 3) := by decide +kernel
theorem dX5_needCell_10 : decode cX5_needCell 10 = .ok (.new 127, 3) := by decide +kernel
theorem dX5_needCell_13 : decode cX5_needCell 13 = .ok (.dup, 1) := by decide +kernel
theorem dX5_needCell_14 : decode cX5_needCell 14 = .ok (.ldc 197, 2) := by decide +kernel
theorem dX5_needCell_16 : decode cX5_needCell 16 = .ok (.invokespecial 131, 3) := by decide +kernel
theorem dX5_needCell_19 : decode cX5_needCell 19 = .ok (.athrow, 1) := by decide +kernel
theorem dX5_needCell_20 : decode cX5_needCell 20 = .ok (.return_, 1) := by decide +kernel
theorem dX5_needWithin_0 : decode cX5_needWithin 0 = .ok (.iload_n 0, 1) := by decide +kernel
theorem dX5_needWithin_1 : decode cX5_needWithin 1 = .ok (.iload_n 1, 1) := by decide +kernel
theorem dX5_needWithin_2 : decode cX5_needWithin 2 = .ok (.if_icmp .lt 8, 3) := by decide +kernel
theorem dX5_needWithin_5 : decode cX5_needWithin 5 = .ok (.iload_n 0, 1) := by decide +kernel
theorem dX5_needWithin_6 : decode cX5_needWithin 6 = .ok (.iload_n 2, 1) := by decide +kernel
theorem dX5_needWithin_7 : decode cX5_needWithin 7 = .ok (.if_icmp .le 13, 3) := by decide +kernel
theorem dX5_needWithin_10 : decode cX5_needWithin 10 = .ok (.new 199, 3) := by decide +kernel
theorem dX5_needWithin_13 : decode cX5_needWithin 13 = .ok (.dup, 1) := by decide +kernel
theorem dX5_needWithin_14 : decode cX5_needWithin 14 = .ok (.ldc 201, 2) := by decide +kernel
theorem dX5_needWithin_16 : decode cX5_needWithin 16 = .ok (.invokespecial 203, 3) := by decide +kernel
theorem dX5_needWithin_19 : decode cX5_needWithin 19 = .ok (.athrow, 1) := by decide +kernel
theorem dX5_needWithin_20 : decode cX5_needWithin 20 = .ok (.return_, 1) := by decide +kernel
theorem dX6_init_0 : decode cX6_init 0 = .ok (.aload_n 0, 1) := by decide +kernel
theorem dX6_init_1 : decode cX6_init 1 = .ok (.invokespecial 1, 3) := by decide +kernel
theorem dX6_init_4 : decode cX6_init 4 = .ok (.aload_n 0, 1) := by decide +kernel
theorem dX6_init_5 : decode cX6_init 5 = .ok (.sipush 1024, 3) := by decide +kernel
theorem dX6_init_8 : decode cX6_init 8 = .ok (.newarray .int, 2) := by decide +kernel
theorem dX6_init_10 : decode cX6_init 10 = .ok (.putfield 7, 3) := by decide +kernel
theorem dX6_init_13 : decode cX6_init 13 = .ok (.aload_n 0, 1) := by decide +kernel
theorem dX6_init_14 : decode cX6_init 14 = .ok (.sipush 1024, 3) := by decide +kernel
theorem dX6_init_17 : decode cX6_init 17 = .ok (.newarray .int, 2) := by decide +kernel
theorem dX6_init_19 : decode cX6_init 19 = .ok (.putfield 13, 3) := by decide +kernel
theorem dX6_init_22 : decode cX6_init 22 = .ok (.aload_n 0, 1) := by decide +kernel
theorem dX6_init_23 : decode cX6_init 23 = .ok (.bipush 61, 2) := by decide +kernel
theorem dX6_init_25 : decode cX6_init 25 = .ok (.newarray .boolean, 2) := by decide +kernel
theorem dX6_init_27 : decode cX6_init 27 = .ok (.putfield 16, 3) := by decide +kernel
theorem dX6_init_30 : decode cX6_init 30 = .ok (.aload_n 0, 1) := by decide +kernel
theorem dX6_init_31 : decode cX6_init 31 = .ok (.sipush 720, 3) := by decide +kernel
theorem dX6_init_34 : decode cX6_init 34 = .ok (.newarray .int, 2) := by decide +kernel
theorem dX6_init_36 : decode cX6_init 36 = .ok (.putfield 20, 3) := by decide +kernel
theorem dX6_init_39 : decode cX6_init 39 = .ok (.aload_n 0, 1) := by decide +kernel
theorem dX6_init_40 : decode cX6_init 40 = .ok (.sipush 720, 3) := by decide +kernel
theorem dX6_init_43 : decode cX6_init 43 = .ok (.newarray .int, 2) := by decide +kernel
theorem dX6_init_45 : decode cX6_init 45 = .ok (.putfield 23, 3) := by decide +kernel
theorem dX6_init_48 : decode cX6_init 48 = .ok (.aload_n 0, 1) := by decide +kernel
theorem dX6_init_49 : decode cX6_init 49 = .ok (.sipush 720, 3) := by decide +kernel
theorem dX6_init_52 : decode cX6_init 52 = .ok (.newarray .int, 2) := by decide +kernel
theorem dX6_init_54 : decode cX6_init 54 = .ok (.putfield 26, 3) := by decide +kernel
theorem dX6_init_57 : decode cX6_init 57 = .ok (.aload_n 0, 1) := by decide +kernel
theorem dX6_init_58 : decode cX6_init 58 = .ok (.bipush 10, 2) := by decide +kernel
theorem dX6_init_60 : decode cX6_init 60 = .ok (.newarray .int, 2) := by decide +kernel
theorem dX6_init_62 : decode cX6_init 62 = .ok (.putfield 29, 3) := by decide +kernel
theorem dX6_init_65 : decode cX6_init 65 = .ok (.aload_n 0, 1) := by decide +kernel
theorem dX6_init_66 : decode cX6_init 66 = .ok (.bipush 10, 2) := by decide +kernel
theorem dX6_init_68 : decode cX6_init 68 = .ok (.newarray .int, 2) := by decide +kernel
theorem dX6_init_70 : decode cX6_init 70 = .ok (.putfield 32, 3) := by decide +kernel
theorem dX6_init_73 : decode cX6_init 73 = .ok (.aload_n 0, 1) := by decide +kernel
theorem dX6_init_74 : decode cX6_init 74 = .ok (.bipush 10, 2) := by decide +kernel
theorem dX6_init_76 : decode cX6_init 76 = .ok (.newarray .int, 2) := by decide +kernel
theorem dX6_init_78 : decode cX6_init 78 = .ok (.putfield 35, 3) := by decide +kernel
theorem dX6_init_81 : decode cX6_init 81 = .ok (.aload_n 0, 1) := by decide +kernel
theorem dX6_init_82 : decode cX6_init 82 = .ok (.bipush 11, 2) := by decide +kernel
theorem dX6_init_84 : decode cX6_init 84 = .ok (.newarray .int, 2) := by decide +kernel
theorem dX6_init_86 : decode cX6_init 86 = .ok (.putfield 38, 3) := by decide +kernel
theorem dX6_init_89 : decode cX6_init 89 = .ok (.iconst 0, 1) := by decide +kernel
theorem dX6_init_90 : decode cX6_init 90 = .ok (.istore_n 1, 1) := by decide +kernel
theorem dX6_init_91 : decode cX6_init 91 = .ok (.iload_n 1, 1) := by decide +kernel
theorem dX6_init_92 : decode cX6_init 92 = .ok (.bipush 12, 2) := by decide +kernel
theorem dX6_init_94 : decode cX6_init 94 = .ok (.if_icmp .ge 30, 3) := by decide +kernel
theorem dX6_init_97 : decode cX6_init 97 = .ok (.aload_n 0, 1) := by decide +kernel
theorem dX6_init_98 : decode cX6_init 98 = .ok (.getfield 7, 3) := by decide +kernel
theorem dX6_init_101 : decode cX6_init 101 = .ok (.iconst 0, 1) := by decide +kernel
theorem dX6_init_102 : decode cX6_init 102 = .ok (.iload_n 1, 1) := by decide +kernel
theorem dX6_init_103 : decode cX6_init 103 = .ok (.iadd, 1) := by decide +kernel
theorem dX6_init_104 : decode cX6_init 104 = .ok (.bipush 100, 2) := by decide +kernel
theorem dX6_init_106 : decode cX6_init 106 = .ok (.iastore, 1) := by decide +kernel
theorem dX6_init_107 : decode cX6_init 107 = .ok (.aload_n 0, 1) := by decide +kernel
theorem dX6_init_108 : decode cX6_init 108 = .ok (.getfield 7, 3) := by decide +kernel
theorem dX6_init_111 : decode cX6_init 111 = .ok (.bipush 12, 2) := by decide +kernel
theorem dX6_init_113 : decode cX6_init 113 = .ok (.iload_n 1, 1) := by decide +kernel
theorem dX6_init_114 : decode cX6_init 114 = .ok (.iadd, 1) := by decide +kernel
theorem dX6_init_115 : decode cX6_init 115 = .ok (.bipush 100, 2) := by decide +kernel
theorem dX6_init_117 : decode cX6_init 117 = .ok (.iastore, 1) := by decide +kernel
theorem dX6_init_118 : decode cX6_init 118 = .ok (.iinc 1 1, 3) := by decide +kernel
theorem dX6_init_121 : decode cX6_init 121 = .ok (.goto (-30), 3) := by decide +kernel
theorem dX6_init_124 : decode cX6_init 124 = .ok (.aload_n 0, 1) := by decide +kernel
theorem dX6_init_125 : decode cX6_init 125 = .ok (.getfield 7, 3) := by decide +kernel
theorem dX6_init_128 : decode cX6_init 128 = .ok (.sipush 900, 3) := by decide +kernel
theorem dX6_init_131 : decode cX6_init 131 = .ok (.iconst (-1), 1) := by decide +kernel
theorem dX6_init_132 : decode cX6_init 132 = .ok (.iastore, 1) := by decide +kernel
theorem dX6_init_133 : decode cX6_init 133 = .ok (.return_, 1) := by decide +kernel
theorem dX6_thrown_0 : decode cX6_thrown 0 = .ok (.aload_n 0, 1) := by decide +kernel
theorem dX6_thrown_1 : decode cX6_thrown 1 = .ok (.getfield 41, 3) := by decide +kernel
theorem dX6_thrown_4 : decode cX6_thrown 4 = .ok (.ireturn, 1) := by decide +kernel
theorem dX6_asked_0 : decode cX6_asked 0 = .ok (.aload_n 0, 1) := by decide +kernel
theorem dX6_asked_1 : decode cX6_asked 1 = .ok (.iload_n 1, 1) := by decide +kernel
theorem dX6_asked_2 : decode cX6_asked 2 = .ok (.ifCond .eq 7, 3) := by decide +kernel
theorem dX6_asked_5 : decode cX6_asked 5 = .ok (.iconst 0, 1) := by decide +kernel
theorem dX6_asked_6 : decode cX6_asked 6 = .ok (.goto 4, 3) := by decide +kernel
theorem dX6_asked_9 : decode cX6_asked 9 = .ok (.iconst 1, 1) := by decide +kernel
theorem dX6_asked_10 : decode cX6_asked 10 = .ok (.putfield 41, 3) := by decide +kernel
theorem dX6_asked_13 : decode cX6_asked 13 = .ok (.iload_n 1, 1) := by decide +kernel
theorem dX6_asked_14 : decode cX6_asked 14 = .ok (.ireturn, 1) := by decide +kernel
theorem dX6_asked__0 : decode cX6_asked_ 0 = .ok (.aload_n 0, 1) := by decide +kernel
theorem dX6_asked__1 : decode cX6_asked_ 1 = .ok (.iload_n 1, 1) := by decide +kernel
theorem dX6_asked__2 : decode cX6_asked_ 2 = .ok (.ifCond .ne 7, 3) := by decide +kernel
theorem dX6_asked__5 : decode cX6_asked_ 5 = .ok (.iconst 1, 1) := by decide +kernel
theorem dX6_asked__6 : decode cX6_asked_ 6 = .ok (.goto 12, 3) := by decide +kernel
theorem dX6_asked__9 : decode cX6_asked_ 9 = .ok (.iload_n 2, 1) := by decide +kernel
theorem dX6_asked__10 : decode cX6_asked_ 10 = .ok (.ifCond .eq 7, 3) := by decide +kernel
theorem dX6_asked__13 : decode cX6_asked_ 13 = .ok (.iconst 0, 1) := by decide +kernel
theorem dX6_asked__14 : decode cX6_asked_ 14 = .ok (.goto 4, 3) := by decide +kernel
theorem dX6_asked__17 : decode cX6_asked_ 17 = .ok (.iconst 2, 1) := by decide +kernel
theorem dX6_asked__18 : decode cX6_asked_ 18 = .ok (.putfield 41, 3) := by decide +kernel
theorem dX6_asked__21 : decode cX6_asked_ 21 = .ok (.aload_n 0, 1) := by decide +kernel
theorem dX6_asked__22 : decode cX6_asked_ 22 = .ok (.getfield 41, 3) := by decide +kernel
theorem dX6_asked__25 : decode cX6_asked_ 25 = .ok (.ifCond .ne 7, 3) := by decide +kernel
theorem dX6_asked__28 : decode cX6_asked_ 28 = .ok (.iconst 1, 1) := by decide +kernel
theorem dX6_asked__29 : decode cX6_asked_ 29 = .ok (.goto 4, 3) := by decide +kernel
theorem dX6_asked__32 : decode cX6_asked_ 32 = .ok (.iconst 0, 1) := by decide +kernel
theorem dX6_asked__33 : decode cX6_asked_ 33 = .ok (.ireturn, 1) := by decide +kernel
theorem dX6_asked___0 : decode cX6_asked__ 0 = .ok (.aload_n 0, 1) := by decide +kernel
theorem dX6_asked___1 : decode cX6_asked__ 1 = .ok (.iload_n 1, 1) := by decide +kernel
theorem dX6_asked___2 : decode cX6_asked__ 2 = .ok (.ifCond .ne 7, 3) := by decide +kernel
theorem dX6_asked___5 : decode cX6_asked__ 5 = .ok (.iconst 1, 1) := by decide +kernel
theorem dX6_asked___6 : decode cX6_asked__ 6 = .ok (.goto 20, 3) := by decide +kernel
theorem dX6_asked___9 : decode cX6_asked__ 9 = .ok (.iload_n 2, 1) := by decide +kernel
theorem dX6_asked___10 : decode cX6_asked__ 10 = .ok (.ifCond .ne 7, 3) := by decide +kernel
theorem dX6_asked___13 : decode cX6_asked__ 13 = .ok (.iconst 2, 1) := by decide +kernel
theorem dX6_asked___14 : decode cX6_asked__ 14 = .ok (.goto 12, 3) := by decide +kernel
theorem dX6_asked___17 : decode cX6_asked__ 17 = .ok (.iload_n 3, 1) := by decide +kernel
theorem dX6_asked___18 : decode cX6_asked__ 18 = .ok (.ifCond .eq 7, 3) := by decide +kernel
theorem dX6_asked___21 : decode cX6_asked__ 21 = .ok (.iconst 0, 1) := by decide +kernel
theorem dX6_asked___22 : decode cX6_asked__ 22 = .ok (.goto 4, 3) := by decide +kernel
theorem dX6_asked___25 : decode cX6_asked__ 25 = .ok (.iconst 3, 1) := by decide +kernel
theorem dX6_asked___26 : decode cX6_asked__ 26 = .ok (.putfield 41, 3) := by decide +kernel
theorem dX6_asked___29 : decode cX6_asked__ 29 = .ok (.aload_n 0, 1) := by decide +kernel
theorem dX6_asked___30 : decode cX6_asked__ 30 = .ok (.getfield 41, 3) := by decide +kernel
theorem dX6_asked___33 : decode cX6_asked__ 33 = .ok (.ifCond .ne 7, 3) := by decide +kernel
theorem dX6_asked___36 : decode cX6_asked__ 36 = .ok (.iconst 1, 1) := by decide +kernel
theorem dX6_asked___37 : decode cX6_asked__ 37 = .ok (.goto 4, 3) := by decide +kernel
theorem dX6_asked___40 : decode cX6_asked__ 40 = .ok (.iconst 0, 1) := by decide +kernel
theorem dX6_asked___41 : decode cX6_asked__ 41 = .ok (.ireturn, 1) := by decide +kernel
theorem dX6_in_0 : decode cX6_in 0 = .ok (.iload_n 0, 1) := by decide +kernel
theorem dX6_in_1 : decode cX6_in 1 = .ok (.iload_n 1, 1) := by decide +kernel
theorem dX6_in_2 : decode cX6_in 2 = .ok (.if_icmp .lt 12, 3) := by decide +kernel
theorem dX6_in_5 : decode cX6_in 5 = .ok (.iload_n 0, 1) := by decide +kernel
theorem dX6_in_6 : decode cX6_in 6 = .ok (.iload_n 2, 1) := by decide +kernel
theorem dX6_in_7 : decode cX6_in 7 = .ok (.if_icmp .gt 7, 3) := by decide +kernel
theorem dX6_in_10 : decode cX6_in 10 = .ok (.iconst 1, 1) := by decide +kernel
theorem dX6_in_11 : decode cX6_in 11 = .ok (.goto 4, 3) := by decide +kernel
theorem dX6_in_14 : decode cX6_in 14 = .ok (.iconst 0, 1) := by decide +kernel
theorem dX6_in_15 : decode cX6_in 15 = .ok (.ireturn, 1) := by decide +kernel
set_option maxRecDepth 20000 in
theorem ggX6_isCell_X6_in : GoodIn wsX6_isCell wsX6_in := goodIn_r _ [4] (by decide +kernel) (by decide +kernel)
set_option maxRecDepth 20000 in
theorem gX6_isCell_X6_in : GoodIn wsX6_isCell (va_wsS RX6 45 yX6_in wsX6_in) := goodIn_app (goodIn_of _ (by decide +kernel)) ggX6_isCell_X6_in
theorem dX6_isCell_0 : decode cX6_isCell 0 = .ok (.iload_n 0, 1) := by decide +kernel
theorem dX6_isCell_1 : decode cX6_isCell 1 = .ok (.iconst 0, 1) := by decide +kernel
theorem dX6_isCell_2 : decode cX6_isCell 2 = .ok (.bipush 11, 2) := by decide +kernel
theorem dX6_isCell_4 : decode cX6_isCell 4 = .ok (.invokestatic 45, 3) := by decide +kernel
theorem dX6_isCell_7 : decode cX6_isCell 7 = .ok (.ireturn, 1) := by decide +kernel
theorem dX6_iceOf_0 : decode cX6_iceOf 0 = .ok (.iconst 0, 1) := by decide +kernel
theorem dX6_iceOf_1 : decode cX6_iceOf 1 = .ok (.istore_n 2, 1) := by decide +kernel
theorem dX6_iceOf_2 : decode cX6_iceOf 2 = .ok (.iconst 0, 1) := by decide +kernel
theorem dX6_iceOf_3 : decode cX6_iceOf 3 = .ok (.istore_n 3, 1) := by decide +kernel
theorem dX6_iceOf_4 : decode cX6_iceOf 4 = .ok (.iload_n 3, 1) := by decide +kernel
theorem dX6_iceOf_5 : decode cX6_iceOf 5 = .ok (.bipush 61, 2) := by decide +kernel
theorem dX6_iceOf_7 : decode cX6_iceOf 7 = .ok (.if_icmp .ge 26, 3) := by decide +kernel
theorem dX6_iceOf_10 : decode cX6_iceOf 10 = .ok (.iload_n 2, 1) := by decide +kernel
theorem dX6_iceOf_11 : decode cX6_iceOf 11 = .ok (.aload_n 0, 1) := by decide +kernel
theorem dX6_iceOf_12 : decode cX6_iceOf 12 = .ok (.getfield 7, 3) := by decide +kernel
theorem dX6_iceOf_15 : decode cX6_iceOf 15 = .ok (.bipush 100, 2) := by decide +kernel
theorem dX6_iceOf_17 : decode cX6_iceOf 17 = .ok (.bipush 61, 2) := by decide +kernel
theorem dX6_iceOf_19 : decode cX6_iceOf 19 = .ok (.iload_n 1, 1) := by decide +kernel
theorem dX6_iceOf_20 : decode cX6_iceOf 20 = .ok (.imul, 1) := by decide +kernel
theorem dX6_iceOf_21 : decode cX6_iceOf 21 = .ok (.iadd, 1) := by decide +kernel
theorem dX6_iceOf_22 : decode cX6_iceOf 22 = .ok (.iload_n 3, 1) := by decide +kernel
theorem dX6_iceOf_23 : decode cX6_iceOf 23 = .ok (.iadd, 1) := by decide +kernel
theorem dX6_iceOf_24 : decode cX6_iceOf 24 = .ok (.iaload, 1) := by decide +kernel
theorem dX6_iceOf_25 : decode cX6_iceOf 25 = .ok (.iadd, 1) := by decide +kernel
theorem dX6_iceOf_26 : decode cX6_iceOf 26 = .ok (.istore_n 2, 1) := by decide +kernel
theorem dX6_iceOf_27 : decode cX6_iceOf 27 = .ok (.iinc 3 1, 3) := by decide +kernel
theorem dX6_iceOf_30 : decode cX6_iceOf 30 = .ok (.goto (-26), 3) := by decide +kernel
theorem dX6_iceOf_33 : decode cX6_iceOf 33 = .ok (.iload_n 2, 1) := by decide +kernel
theorem dX6_iceOf_34 : decode cX6_iceOf 34 = .ok (.ireturn, 1) := by decide +kernel
set_option maxRecDepth 20000 in
theorem ggX6_allIce_X6_iceOf : GoodIn wsX6_allIce wsX6_iceOf := goodIn_r _ [5, 6, 7, 8, 9, 10, 11, 12, 13, 14, 15, 16, 17, 18, 19, 20, 21, 22] (by decide +kernel) (by decide +kernel)
set_option maxRecDepth 20000 in
theorem gX6_allIce_X6_iceOf : GoodIn wsX6_allIce (wsV RX6 49 RX6 yX6_iceOf wsX6_iceOf) := goodIn_app (goodIn_of _ (by decide +kernel)) ggX6_allIce_X6_iceOf
theorem dX6_allIce_0 : decode cX6_allIce 0 = .ok (.iconst 0, 1) := by decide +kernel
theorem dX6_allIce_1 : decode cX6_allIce 1 = .ok (.istore_n 1, 1) := by decide +kernel
theorem dX6_allIce_2 : decode cX6_allIce 2 = .ok (.iconst 0, 1) := by decide +kernel
theorem dX6_allIce_3 : decode cX6_allIce 3 = .ok (.istore_n 2, 1) := by decide +kernel
theorem dX6_allIce_4 : decode cX6_allIce 4 = .ok (.iload_n 2, 1) := by decide +kernel
theorem dX6_allIce_5 : decode cX6_allIce 5 = .ok (.bipush 12, 2) := by decide +kernel
theorem dX6_allIce_7 : decode cX6_allIce 7 = .ok (.if_icmp .ge 17, 3) := by decide +kernel
theorem dX6_allIce_10 : decode cX6_allIce 10 = .ok (.iload_n 1, 1) := by decide +kernel
theorem dX6_allIce_11 : decode cX6_allIce 11 = .ok (.aload_n 0, 1) := by decide +kernel
theorem dX6_allIce_12 : decode cX6_allIce 12 = .ok (.iload_n 2, 1) := by decide +kernel
theorem dX6_allIce_13 : decode cX6_allIce 13 = .ok (.invokevirtual 49, 3) := by decide +kernel
theorem dX6_allIce_16 : decode cX6_allIce 16 = .ok (.iadd, 1) := by decide +kernel
theorem dX6_allIce_17 : decode cX6_allIce 17 = .ok (.istore_n 1, 1) := by decide +kernel
theorem dX6_allIce_18 : decode cX6_allIce 18 = .ok (.iinc 2 1, 3) := by decide +kernel
theorem dX6_allIce_21 : decode cX6_allIce 21 = .ok (.goto (-17), 3) := by decide +kernel
theorem dX6_allIce_24 : decode cX6_allIce 24 = .ok (.iload_n 1, 1) := by decide +kernel
theorem dX6_allIce_25 : decode cX6_allIce 25 = .ok (.ireturn, 1) := by decide +kernel
set_option maxRecDepth 20000 in
theorem ggX6_surfaceOf_X6_iceOf : GoodIn wsX6_surfaceOf wsX6_iceOf := goodIn_r _ [6, 1, 7, 8, 9, 10, 11, 12, 13, 14, 15, 16, 17, 18, 19, 20, 21, 22] (by decide +kernel) (by decide +kernel)
set_option maxRecDepth 20000 in
theorem gX6_surfaceOf_X6_iceOf : GoodIn wsX6_surfaceOf (wsV RX6 49 RX6 yX6_iceOf wsX6_iceOf) := goodIn_app (goodIn_of _ (by decide +kernel)) ggX6_surfaceOf_X6_iceOf
theorem dX6_surfaceOf_0 : decode cX6_surfaceOf 0 = .ok (.aload_n 0, 1) := by decide +kernel
theorem dX6_surfaceOf_1 : decode cX6_surfaceOf 1 = .ok (.getfield 7, 3) := by decide +kernel
theorem dX6_surfaceOf_4 : decode cX6_surfaceOf 4 = .ok (.iconst 0, 1) := by decide +kernel
theorem dX6_surfaceOf_5 : decode cX6_surfaceOf 5 = .ok (.iload_n 1, 1) := by decide +kernel
theorem dX6_surfaceOf_6 : decode cX6_surfaceOf 6 = .ok (.iadd, 1) := by decide +kernel
theorem dX6_surfaceOf_7 : decode cX6_surfaceOf 7 = .ok (.iaload, 1) := by decide +kernel
theorem dX6_surfaceOf_8 : decode cX6_surfaceOf 8 = .ok (.aload_n 0, 1) := by decide +kernel
theorem dX6_surfaceOf_9 : decode cX6_surfaceOf 9 = .ok (.iload_n 1, 1) := by decide +kernel
theorem dX6_surfaceOf_10 : decode cX6_surfaceOf 10 = .ok (.invokevirtual 49, 3) := by decide +kernel
theorem dX6_surfaceOf_13 : decode cX6_surfaceOf 13 = .ok (.iadd, 1) := by decide +kernel
theorem dX6_surfaceOf_14 : decode cX6_surfaceOf 14 = .ok (.ireturn, 1) := by decide +kernel
theorem dX6_isInSea_0 : decode cX6_isInSea 0 = .ok (.aload_n 0, 1) := by decide +kernel
theorem dX6_isInSea_1 : decode cX6_isInSea 1 = .ok (.getfield 7, 3) := by decide +kernel
theorem dX6_isInSea_4 : decode cX6_isInSea 4 = .ok (.iconst 0, 1) := by decide +kernel
theorem dX6_isInSea_5 : decode cX6_isInSea 5 = .ok (.iload_n 1, 1) := by decide +kernel
theorem dX6_isInSea_6 : decode cX6_isInSea 6 = .ok (.iadd, 1) := by decide +kernel
theorem dX6_isInSea_7 : decode cX6_isInSea 7 = .ok (.iaload, 1) := by decide +kernel
theorem dX6_isInSea_8 : decode cX6_isInSea 8 = .ok (.aload_n 0, 1) := by decide +kernel
theorem dX6_isInSea_9 : decode cX6_isInSea 9 = .ok (.getfield 53, 3) := by decide +kernel
theorem dX6_isInSea_12 : decode cX6_isInSea 12 = .ok (.if_icmp .ge 7, 3) := by decide +kernel
theorem dX6_isInSea_15 : decode cX6_isInSea 15 = .ok (.iconst 1, 1) := by decide +kernel
theorem dX6_isInSea_16 : decode cX6_isInSea 16 = .ok (.goto 4, 3) := by decide +kernel
theorem dX6_isInSea_19 : decode cX6_isInSea 19 = .ok (.iconst 0, 1) := by decide +kernel
theorem dX6_isInSea_20 : decode cX6_isInSea 20 = .ok (.ireturn, 1) := by decide +kernel
set_option maxRecDepth 20000 in
theorem ggX6_potentialOf_X6_iceOf : GoodIn wsX6_potentialOf wsX6_iceOf := goodIn_r _ [6, 1, 7, 8, 9, 10, 11, 12, 13, 14, 15, 16, 17, 18, 19, 20, 21, 22] (by decide +kernel) (by decide +kernel)
set_option maxRecDepth 20000 in
theorem gX6_potentialOf_X6_iceOf : GoodIn wsX6_potentialOf (wsV RX6 49 RX6 yX6_iceOf wsX6_iceOf) := goodIn_app (goodIn_of _ (by decide +kernel)) ggX6_potentialOf_X6_iceOf
theorem dX6_potentialOf_0 : decode cX6_potentialOf 0 = .ok (.bipush 10, 2) := by decide +kernel
theorem dX6_potentialOf_2 : decode cX6_potentialOf 2 = .ok (.aload_n 0, 1) := by decide +kernel
theorem dX6_potentialOf_3 : decode cX6_potentialOf 3 = .ok (.getfield 7, 3) := by decide +kernel
theorem dX6_potentialOf_6 : decode cX6_potentialOf 6 = .ok (.iconst 0, 1) := by decide +kernel
theorem dX6_potentialOf_7 : decode cX6_potentialOf 7 = .ok (.iload_n 1, 1) := by decide +kernel
theorem dX6_potentialOf_8 : decode cX6_potentialOf 8 = .ok (.iadd, 1) := by decide +kernel
theorem dX6_potentialOf_9 : decode cX6_potentialOf 9 = .ok (.iaload, 1) := by decide +kernel
theorem dX6_potentialOf_10 : decode cX6_potentialOf 10 = .ok (.imul, 1) := by decide +kernel
theorem dX6_potentialOf_11 : decode cX6_potentialOf 11 = .ok (.bipush 9, 2) := by decide +kernel
theorem dX6_potentialOf_13 : decode cX6_potentialOf 13 = .ok (.aload_n 0, 1) := by decide +kernel
theorem dX6_potentialOf_14 : decode cX6_potentialOf 14 = .ok (.iload_n 1, 1) := by decide +kernel
theorem dX6_potentialOf_15 : decode cX6_potentialOf 15 = .ok (.invokevirtual 49, 3) := by decide +kernel
theorem dX6_potentialOf_18 : decode cX6_potentialOf 18 = .ok (.imul, 1) := by decide +kernel
theorem dX6_potentialOf_19 : decode cX6_potentialOf 19 = .ok (.iadd, 1) := by decide +kernel
theorem dX6_potentialOf_20 : decode cX6_potentialOf 20 = .ok (.ireturn, 1) := by decide +kernel
set_option maxRecDepth 20000 in
theorem ggX6_land_X6_isCell : GoodIn wsX6_land wsX6_isCell := goodIn_r _ [5, 6, 7, 4, 8] (by decide +kernel) (by decide +kernel)
set_option maxRecDepth 20000 in
theorem gX6_land_X6_isCell : GoodIn wsX6_land (va_wsS RX6 56 yX6_isCell wsX6_isCell) := goodIn_app (goodIn_of _ (by decide +kernel)) ggX6_land_X6_isCell
set_option maxRecDepth 20000 in
theorem ggX6_land_X6_in : GoodIn wsX6_land wsX6_in := goodIn_r _ [8] (by decide +kernel) (by decide +kernel)
set_option maxRecDepth 20000 in
theorem gX6_land_X6_in : GoodIn wsX6_land (va_wsS RX6 45 yX6_in wsX6_in) := goodIn_app (goodIn_of _ (by decide +kernel)) ggX6_land_X6_in
set_option maxRecDepth 20000 in
theorem ggX6_land_X6_iceOf : GoodIn wsX6_land wsX6_iceOf := goodIn_r _ [12, 1, 18, 19, 20, 21, 22, 23, 24, 25, 26, 27, 28, 29, 30, 31, 32, 33] (by decide +kernel) (by decide +kernel)
set_option maxRecDepth 20000 in
theorem gX6_land_X6_iceOf : GoodIn wsX6_land (wsV RX6 49 RX6 yX6_iceOf wsX6_iceOf) := goodIn_app (goodIn_of _ (by decide +kernel)) ggX6_land_X6_iceOf
set_option maxRecDepth 20000 in
theorem ggX6_land_X6_asked__ : GoodIn wsX6_land wsX6_asked__ := goodIn_r _ [16, 17, 18, 19, 20, 21, 22, 23, 24, 25, 26, 27, 28, 29, 30, 31, 32, 33] (by decide +kernel) (by decide +kernel)
set_option maxRecDepth 20000 in
theorem gX6_land_X6_asked__ : GoodIn wsX6_land (wsV RX6 60 RX6 yX6_asked__ wsX6_asked__) := goodIn_app (goodIn_of _ (by decide +kernel)) ggX6_land_X6_asked__
theorem dX6_land_0 : decode cX6_land 0 = .ok (.iload_n 1, 1) := by decide +kernel
theorem dX6_land_1 : decode cX6_land 1 = .ok (.invokestatic 56, 3) := by decide +kernel
theorem dX6_land_4 : decode cX6_land 4 = .ok (.istore_n 3, 1) := by decide +kernel
theorem dX6_land_5 : decode cX6_land 5 = .ok (.aload_n 0, 1) := by decide +kernel
theorem dX6_land_6 : decode cX6_land 6 = .ok (.iload_n 3, 1) := by decide +kernel
theorem dX6_land_7 : decode cX6_land 7 = .ok (.iload_n 2, 1) := by decide +kernel
theorem dX6_land_8 : decode cX6_land 8 = .ok (.iconst 0, 1) := by decide +kernel
theorem dX6_land_9 : decode cX6_land 9 = .ok (.sipush 500, 3) := by decide +kernel
theorem dX6_land_12 : decode cX6_land 12 = .ok (.invokestatic 45, 3) := by decide +kernel
theorem dX6_land_15 : decode cX6_land 15 = .ok (.iload_n 3, 1) := by decide +kernel
theorem dX6_land_16 : decode cX6_land 16 = .ok (.ifCond .eq 27, 3) := by decide +kernel
theorem dX6_land_19 : decode cX6_land 19 = .ok (.aload_n 0, 1) := by decide +kernel
theorem dX6_land_20 : decode cX6_land 20 = .ok (.iload_n 1, 1) := by decide +kernel
theorem dX6_land_21 : decode cX6_land 21 = .ok (.invokevirtual 49, 3) := by decide +kernel
theorem dX6_land_24 : decode cX6_land 24 = .ok (.ifCond .ne 19, 3) := by decide +kernel
theorem dX6_land_27 : decode cX6_land 27 = .ok (.aload_n 0, 1) := by decide +kernel
theorem dX6_land_28 : decode cX6_land 28 = .ok (.getfield 7, 3) := by decide +kernel
theorem dX6_land_31 : decode cX6_land 31 = .ok (.bipush 24, 2) := by decide +kernel
theorem dX6_land_33 : decode cX6_land 33 = .ok (.iload_n 1, 1) := by decide +kernel
theorem dX6_land_34 : decode cX6_land 34 = .ok (.iadd, 1) := by decide +kernel
theorem dX6_land_35 : decode cX6_land 35 = .ok (.iaload, 1) := by decide +kernel
theorem dX6_land_36 : decode cX6_land 36 = .ok (.ifCond .ne 7, 3) := by decide +kernel
theorem dX6_land_39 : decode cX6_land 39 = .ok (.iconst 1, 1) := by decide +kernel
theorem dX6_land_40 : decode cX6_land 40 = .ok (.goto 4, 3) := by decide +kernel
theorem dX6_land_43 : decode cX6_land 43 = .ok (.iconst 0, 1) := by decide +kernel
theorem dX6_land_44 : decode cX6_land 44 = .ok (.invokevirtual 60, 3) := by decide +kernel
theorem dX6_land_47 : decode cX6_land 47 = .ok (.ifCond .ne 5, 3) := by decide +kernel
theorem dX6_land_50 : decode cX6_land 50 = .ok (.iconst 0, 1) := by decide +kernel
theorem dX6_land_51 : decode cX6_land 51 = .ok (.ireturn, 1) := by decide +kernel
theorem dX6_land_52 : decode cX6_land 52 = .ok (.aload_n 0, 1) := by decide +kernel
theorem dX6_land_53 : decode cX6_land 53 = .ok (.getfield 7, 3) := by decide +kernel
theorem dX6_land_56 : decode cX6_land 56 = .ok (.iconst 0, 1) := by decide +kernel
theorem dX6_land_57 : decode cX6_land 57 = .ok (.iload_n 1, 1) := by decide +kernel
theorem dX6_land_58 : decode cX6_land 58 = .ok (.iadd, 1) := by decide +kernel
theorem dX6_land_59 : decode cX6_land 59 = .ok (.iaload, 1) := by decide +kernel
theorem dX6_land_60 : decode cX6_land 60 = .ok (.istore 4, 2) := by decide +kernel
theorem dX6_land_62 : decode cX6_land 62 = .ok (.aload_n 0, 1) := by decide +kernel
theorem dX6_land_63 : decode cX6_land 63 = .ok (.getfield 7, 3) := by decide +kernel
theorem dX6_land_66 : decode cX6_land 66 = .ok (.iconst 0, 1) := by decide +kernel
theorem dX6_land_67 : decode cX6_land 67 = .ok (.iload_n 1, 1) := by decide +kernel
theorem dX6_land_68 : decode cX6_land 68 = .ok (.iadd, 1) := by decide +kernel
theorem dX6_land_69 : decode cX6_land 69 = .ok (.iload_n 2, 1) := by decide +kernel
theorem dX6_land_70 : decode cX6_land 70 = .ok (.iastore, 1) := by decide +kernel
theorem dX6_land_71 : decode cX6_land 71 = .ok (.aload_n 0, 1) := by decide +kernel
theorem dX6_land_72 : decode cX6_land 72 = .ok (.getfield 7, 3) := by decide +kernel
theorem dX6_land_75 : decode cX6_land 75 = .ok (.bipush 12, 2) := by decide +kernel
theorem dX6_land_77 : decode cX6_land 77 = .ok (.iload_n 1, 1) := by decide +kernel
theorem dX6_land_78 : decode cX6_land 78 = .ok (.iadd, 1) := by decide +kernel
theorem dX6_land_79 : decode cX6_land 79 = .ok (.iload_n 2, 1) := by decide +kernel
theorem dX6_land_80 : decode cX6_land 80 = .ok (.iastore, 1) := by decide +kernel
theorem dX6_land_81 : decode cX6_land 81 = .ok (.iload 4, 2) := by decide +kernel
theorem dX6_land_83 : decode cX6_land 83 = .ok (.ireturn, 1) := by decide +kernel
set_option maxRecDepth 20000 in
theorem ggX6_sea_X6_in : GoodIn wsX6_sea wsX6_in := goodIn_r _ [5] (by decide +kernel) (by decide +kernel)
set_option maxRecDepth 20000 in
theorem gX6_sea_X6_in : GoodIn wsX6_sea (va_wsS RX6 45 yX6_in wsX6_in) := goodIn_app (goodIn_of _ (by decide +kernel)) ggX6_sea_X6_in
set_option maxRecDepth 20000 in
theorem ggX6_sea_X6_asked : GoodIn wsX6_sea wsX6_asked := goodIn_r _ [9, 10, 11, 12, 13, 14, 15, 16, 17, 18, 19, 20, 21, 22, 23, 24, 25, 26] (by decide +kernel) (by decide +kernel)
set_option maxRecDepth 20000 in
theorem gX6_sea_X6_asked : GoodIn wsX6_sea (wsV RX6 64 RX6 yX6_asked wsX6_asked) := goodIn_app (goodIn_of _ (by decide +kernel)) ggX6_sea_X6_asked
theorem dX6_sea_0 : decode cX6_sea 0 = .ok (.aload_n 0, 1) := by decide +kernel
theorem dX6_sea_1 : decode cX6_sea 1 = .ok (.iload_n 1, 1) := by decide +kernel
theorem dX6_sea_2 : decode cX6_sea 2 = .ok (.iconst 0, 1) := by decide +kernel
theorem dX6_sea_3 : decode cX6_sea 3 = .ok (.sipush 500, 3) := by decide +kernel
theorem dX6_sea_6 : decode cX6_sea 6 = .ok (.invokestatic 45, 3) := by decide +kernel
theorem dX6_sea_9 : decode cX6_sea 9 = .ok (.invokevirtual 64, 3) := by decide +kernel
theorem dX6_sea_12 : decode cX6_sea 12 = .ok (.ifCond .ne 5, 3) := by decide +kernel
theorem dX6_sea_15 : decode cX6_sea 15 = .ok (.iconst 0, 1) := by decide +kernel
theorem dX6_sea_16 : decode cX6_sea 16 = .ok (.ireturn, 1) := by decide +kernel
theorem dX6_sea_17 : decode cX6_sea 17 = .ok (.aload_n 0, 1) := by decide +kernel
theorem dX6_sea_18 : decode cX6_sea 18 = .ok (.getfield 53, 3) := by decide +kernel
theorem dX6_sea_21 : decode cX6_sea 21 = .ok (.istore_n 2, 1) := by decide +kernel
theorem dX6_sea_22 : decode cX6_sea 22 = .ok (.aload_n 0, 1) := by decide +kernel
theorem dX6_sea_23 : decode cX6_sea 23 = .ok (.iload_n 1, 1) := by decide +kernel
theorem dX6_sea_24 : decode cX6_sea 24 = .ok (.putfield 53, 3) := by decide +kernel
theorem dX6_sea_27 : decode cX6_sea 27 = .ok (.iload_n 2, 1) := by decide +kernel
theorem dX6_sea_28 : decode cX6_sea 28 = .ok (.ireturn, 1) := by decide +kernel
set_option maxRecDepth 20000 in
theorem ggX6_climate_X6_in : GoodIn wsX6_climate wsX6_in := goodIn_r _ [7] (by decide +kernel) (by decide +kernel)
set_option maxRecDepth 20000 in
theorem gX6_climate_X6_in : GoodIn wsX6_climate (va_wsS RX6 45 yX6_in wsX6_in) := goodIn_app (goodIn_of _ (by decide +kernel)) ggX6_climate_X6_in
set_option maxRecDepth 20000 in
theorem ggX6_climate_X6_asked : GoodIn wsX6_climate wsX6_asked := goodIn_r _ [11, 12, 13, 14, 15, 16, 17, 18, 19, 20, 21, 22, 23, 24, 25, 26, 27, 28] (by decide +kernel) (by decide +kernel)
set_option maxRecDepth 20000 in
theorem gX6_climate_X6_asked : GoodIn wsX6_climate (wsV RX6 64 RX6 yX6_asked wsX6_asked) := goodIn_app (goodIn_of _ (by decide +kernel)) ggX6_climate_X6_asked
theorem dX6_climate_0 : decode cX6_climate 0 = .ok (.aload_n 0, 1) := by decide +kernel
theorem dX6_climate_1 : decode cX6_climate 1 = .ok (.iload_n 1, 1) := by decide +kernel
theorem dX6_climate_2 : decode cX6_climate 2 = .ok (.sipush (-300), 3) := by decide +kernel
theorem dX6_climate_5 : decode cX6_climate 5 = .ok (.sipush 300, 3) := by decide +kernel
theorem dX6_climate_8 : decode cX6_climate 8 = .ok (.invokestatic 45, 3) := by decide +kernel
theorem dX6_climate_11 : decode cX6_climate 11 = .ok (.ifCond .eq 27, 3) := by decide +kernel
theorem dX6_climate_14 : decode cX6_climate 14 = .ok (.iload_n 2, 1) := by decide +kernel
theorem dX6_climate_15 : decode cX6_climate 15 = .ok (.iconst 0, 1) := by decide +kernel
theorem dX6_climate_16 : decode cX6_climate 16 = .ok (.bipush 20, 2) := by decide +kernel
theorem dX6_climate_18 : decode cX6_climate 18 = .ok (.invokestatic 45, 3) := by decide +kernel
theorem dX6_climate_21 : decode cX6_climate 21 = .ok (.ifCond .eq 17, 3) := by decide +kernel
theorem dX6_climate_24 : decode cX6_climate 24 = .ok (.iload_n 3, 1) := by decide +kernel
theorem dX6_climate_25 : decode cX6_climate 25 = .ok (.iconst 0, 1) := by decide +kernel
theorem dX6_climate_26 : decode cX6_climate 26 = .ok (.bipush 9, 2) := by decide +kernel
theorem dX6_climate_28 : decode cX6_climate 28 = .ok (.invokestatic 45, 3) := by decide +kernel
theorem dX6_climate_31 : decode cX6_climate 31 = .ok (.ifCond .eq 7, 3) := by decide +kernel
theorem dX6_climate_34 : decode cX6_climate 34 = .ok (.iconst 1, 1) := by decide +kernel
theorem dX6_climate_35 : decode cX6_climate 35 = .ok (.goto 4, 3) := by decide +kernel
theorem dX6_climate_38 : decode cX6_climate 38 = .ok (.iconst 0, 1) := by decide +kernel
theorem dX6_climate_39 : decode cX6_climate 39 = .ok (.invokevirtual 64, 3) := by decide +kernel
theorem dX6_climate_42 : decode cX6_climate 42 = .ok (.ifCond .eq 18, 3) := by decide +kernel
theorem dX6_climate_45 : decode cX6_climate 45 = .ok (.aload_n 0, 1) := by decide +kernel
theorem dX6_climate_46 : decode cX6_climate 46 = .ok (.iload_n 1, 1) := by decide +kernel
theorem dX6_climate_47 : decode cX6_climate 47 = .ok (.putfield 67, 3) := by decide +kernel
theorem dX6_climate_50 : decode cX6_climate 50 = .ok (.aload_n 0, 1) := by decide +kernel
theorem dX6_climate_51 : decode cX6_climate 51 = .ok (.iload_n 2, 1) := by decide +kernel
theorem dX6_climate_52 : decode cX6_climate 52 = .ok (.putfield 70, 3) := by decide +kernel
theorem dX6_climate_55 : decode cX6_climate 55 = .ok (.aload_n 0, 1) := by decide +kernel
theorem dX6_climate_56 : decode cX6_climate 56 = .ok (.iload_n 3, 1) := by decide +kernel
theorem dX6_climate_57 : decode cX6_climate 57 = .ok (.putfield 73, 3) := by decide +kernel
theorem dX6_climate_60 : decode cX6_climate 60 = .ok (.return_, 1) := by decide +kernel
set_option maxRecDepth 20000 in
theorem ggX6_ice_X6_isCell : GoodIn wsX6_ice wsX6_isCell := goodIn_r _ [5, 6, 7, 4, 8] (by decide +kernel) (by decide +kernel)
set_option maxRecDepth 20000 in
theorem gX6_ice_X6_isCell : GoodIn wsX6_ice (va_wsS RX6 56 yX6_isCell wsX6_isCell) := goodIn_app (goodIn_of _ (by decide +kernel)) ggX6_ice_X6_isCell
set_option maxRecDepth 20000 in
theorem ggX6_ice_X6_in : GoodIn wsX6_ice wsX6_in := goodIn_r _ [8] (by decide +kernel) (by decide +kernel)
set_option maxRecDepth 20000 in
theorem gX6_ice_X6_in : GoodIn wsX6_ice (va_wsS RX6 45 yX6_in wsX6_in) := goodIn_app (goodIn_of _ (by decide +kernel)) ggX6_ice_X6_in
set_option maxRecDepth 20000 in
theorem ggX6_ice_X6_iceOf : GoodIn wsX6_ice wsX6_iceOf := goodIn_r _ [12, 1, 18, 19, 20, 21, 22, 23, 24, 25, 26, 27, 28, 29, 30, 31, 32, 33] (by decide +kernel) (by decide +kernel)
set_option maxRecDepth 20000 in
theorem gX6_ice_X6_iceOf : GoodIn wsX6_ice (wsV RX6 49 RX6 yX6_iceOf wsX6_iceOf) := goodIn_app (goodIn_of _ (by decide +kernel)) ggX6_ice_X6_iceOf
set_option maxRecDepth 20000 in
theorem ggX6_ice_X6_asked__ : GoodIn wsX6_ice wsX6_asked__ := goodIn_r _ [16, 17, 18, 19, 20, 21, 22, 23, 24, 25, 26, 27, 28, 29, 30, 31, 32, 33] (by decide +kernel) (by decide +kernel)
set_option maxRecDepth 20000 in
theorem gX6_ice_X6_asked__ : GoodIn wsX6_ice (wsV RX6 60 RX6 yX6_asked__ wsX6_asked__) := goodIn_app (goodIn_of _ (by decide +kernel)) ggX6_ice_X6_asked__
theorem dX6_ice_0 : decode cX6_ice 0 = .ok (.iload_n 1, 1) := by decide +kernel
theorem dX6_ice_1 : decode cX6_ice 1 = .ok (.invokestatic 56, 3) := by decide +kernel
theorem dX6_ice_4 : decode cX6_ice 4 = .ok (.istore_n 3, 1) := by decide +kernel
theorem dX6_ice_5 : decode cX6_ice 5 = .ok (.iload_n 2, 1) := by decide +kernel
theorem dX6_ice_6 : decode cX6_ice 6 = .ok (.iconst 1, 1) := by decide +kernel
theorem dX6_ice_7 : decode cX6_ice 7 = .ok (.sipush 999, 3) := by decide +kernel
theorem dX6_ice_10 : decode cX6_ice 10 = .ok (.invokestatic 45, 3) := by decide +kernel
theorem dX6_ice_13 : decode cX6_ice 13 = .ok (.istore 4, 2) := by decide +kernel
theorem dX6_ice_15 : decode cX6_ice 15 = .ok (.aload_n 0, 1) := by decide +kernel
theorem dX6_ice_16 : decode cX6_ice 16 = .ok (.iload_n 3, 1) := by decide +kernel
theorem dX6_ice_17 : decode cX6_ice 17 = .ok (.iload 4, 2) := by decide +kernel
theorem dX6_ice_19 : decode cX6_ice 19 = .ok (.iload_n 3, 1) := by decide +kernel
theorem dX6_ice_20 : decode cX6_ice 20 = .ok (.ifCond .eq 25, 3) := by decide +kernel
theorem dX6_ice_23 : decode cX6_ice 23 = .ok (.iload 4, 2) := by decide +kernel
theorem dX6_ice_25 : decode cX6_ice 25 = .ok (.ifCond .eq 20, 3) := by decide +kernel
theorem dX6_ice_28 : decode cX6_ice 28 = .ok (.aload_n 0, 1) := by decide +kernel
theorem dX6_ice_29 : decode cX6_ice 29 = .ok (.iload_n 1, 1) := by decide +kernel
theorem dX6_ice_30 : decode cX6_ice 30 = .ok (.invokevirtual 49, 3) := by decide +kernel
theorem dX6_ice_33 : decode cX6_ice 33 = .ok (.iload_n 2, 1) := by decide +kernel
theorem dX6_ice_34 : decode cX6_ice 34 = .ok (.iadd, 1) := by decide +kernel
theorem dX6_ice_35 : decode cX6_ice 35 = .ok (.sipush 9999, 3) := by decide +kernel
theorem dX6_ice_38 : decode cX6_ice 38 = .ok (.if_icmp .gt 7, 3) := by decide +kernel
theorem dX6_ice_41 : decode cX6_ice 41 = .ok (.iconst 1, 1) := by decide +kernel
theorem dX6_ice_42 : decode cX6_ice 42 = .ok (.goto 4, 3) := by decide +kernel
theorem dX6_ice_45 : decode cX6_ice 45 = .ok (.iconst 0, 1) := by decide +kernel
theorem dX6_ice_46 : decode cX6_ice 46 = .ok (.invokevirtual 60, 3) := by decide +kernel
theorem dX6_ice_49 : decode cX6_ice 49 = .ok (.ifCond .ne 5, 3) := by decide +kernel
theorem dX6_ice_52 : decode cX6_ice 52 = .ok (.iconst 0, 1) := by decide +kernel
theorem dX6_ice_53 : decode cX6_ice 53 = .ok (.ireturn, 1) := by decide +kernel
theorem dX6_ice_54 : decode cX6_ice 54 = .ok (.aload_n 0, 1) := by decide +kernel
theorem dX6_ice_55 : decode cX6_ice 55 = .ok (.getfield 7, 3) := by decide +kernel
theorem dX6_ice_58 : decode cX6_ice 58 = .ok (.bipush 100, 2) := by decide +kernel
theorem dX6_ice_60 : decode cX6_ice 60 = .ok (.bipush 61, 2) := by decide +kernel
theorem dX6_ice_62 : decode cX6_ice 62 = .ok (.iload_n 1, 1) := by decide +kernel
theorem dX6_ice_63 : decode cX6_ice 63 = .ok (.imul, 1) := by decide +kernel
theorem dX6_ice_64 : decode cX6_ice 64 = .ok (.iadd, 1) := by decide +kernel
theorem dX6_ice_65 : decode cX6_ice 65 = .ok (.aload_n 0, 1) := by decide +kernel
theorem dX6_ice_66 : decode cX6_ice 66 = .ok (.getfield 7, 3) := by decide +kernel
theorem dX6_ice_69 : decode cX6_ice 69 = .ok (.bipush 89, 2) := by decide +kernel
theorem dX6_ice_71 : decode cX6_ice 71 = .ok (.iaload, 1) := by decide +kernel
theorem dX6_ice_72 : decode cX6_ice 72 = .ok (.iadd, 1) := by decide +kernel
theorem dX6_ice_73 : decode cX6_ice 73 = .ok (.dup2, 1) := by decide +kernel
theorem dX6_ice_74 : decode cX6_ice 74 = .ok (.iaload, 1) := by decide +kernel
theorem dX6_ice_75 : decode cX6_ice 75 = .ok (.iload_n 2, 1) := by decide +kernel
theorem dX6_ice_76 : decode cX6_ice 76 = .ok (.iadd, 1) := by decide +kernel
theorem dX6_ice_77 : decode cX6_ice 77 = .ok (.iastore, 1) := by decide +kernel
theorem dX6_ice_78 : decode cX6_ice 78 = .ok (.aload_n 0, 1) := by decide +kernel
theorem dX6_ice_79 : decode cX6_ice 79 = .ok (.getfield 7, 3) := by decide +kernel
theorem dX6_ice_82 : decode cX6_ice 82 = .ok (.bipush 87, 2) := by decide +kernel
theorem dX6_ice_84 : decode cX6_ice 84 = .ok (.dup2, 1) := by decide +kernel
theorem dX6_ice_85 : decode cX6_ice 85 = .ok (.iaload, 1) := by decide +kernel
theorem dX6_ice_86 : decode cX6_ice 86 = .ok (.iload_n 2, 1) := by decide +kernel
theorem dX6_ice_87 : decode cX6_ice 87 = .ok (.iadd, 1) := by decide +kernel
theorem dX6_ice_88 : decode cX6_ice 88 = .ok (.iastore, 1) := by decide +kernel
theorem dX6_ice_89 : decode cX6_ice 89 = .ok (.aload_n 0, 1) := by decide +kernel
theorem dX6_ice_90 : decode cX6_ice 90 = .ok (.iload_n 1, 1) := by decide +kernel
theorem dX6_ice_91 : decode cX6_ice 91 = .ok (.invokevirtual 49, 3) := by decide +kernel
theorem dX6_ice_94 : decode cX6_ice 94 = .ok (.ireturn, 1) := by decide +kernel
theorem dX6_ash_0 : decode cX6_ash 0 = .ok (.aload_n 0, 1) := by decide +kernel
theorem dX6_ash_1 : decode cX6_ash 1 = .ok (.iconst 0, 1) := by decide +kernel
theorem dX6_ash_2 : decode cX6_ash 2 = .ok (.putfield 41, 3) := by decide +kernel
theorem dX6_ash_5 : decode cX6_ash 5 = .ok (.aload_n 0, 1) := by decide +kernel
theorem dX6_ash_6 : decode cX6_ash 6 = .ok (.getfield 16, 3) := by decide +kernel
theorem dX6_ash_9 : decode cX6_ash 9 = .ok (.aload_n 0, 1) := by decide +kernel
theorem dX6_ash_10 : decode cX6_ash 10 = .ok (.getfield 7, 3) := by decide +kernel
theorem dX6_ash_13 : decode cX6_ash 13 = .ok (.bipush 89, 2) := by decide +kernel
theorem dX6_ash_15 : decode cX6_ash 15 = .ok (.iaload, 1) := by decide +kernel
theorem dX6_ash_16 : decode cX6_ash 16 = .ok (.baload, 1) := by decide +kernel
theorem dX6_ash_17 : decode cX6_ash 17 = .ok (.istore_n 1, 1) := by decide +kernel
theorem dX6_ash_18 : decode cX6_ash 18 = .ok (.aload_n 0, 1) := by decide +kernel
theorem dX6_ash_19 : decode cX6_ash 19 = .ok (.getfield 16, 3) := by decide +kernel
theorem dX6_ash_22 : decode cX6_ash 22 = .ok (.aload_n 0, 1) := by decide +kernel
theorem dX6_ash_23 : decode cX6_ash 23 = .ok (.getfield 7, 3) := by decide +kernel
theorem dX6_ash_26 : decode cX6_ash 26 = .ok (.bipush 89, 2) := by decide +kernel
theorem dX6_ash_28 : decode cX6_ash 28 = .ok (.iaload, 1) := by decide +kernel
theorem dX6_ash_29 : decode cX6_ash 29 = .ok (.iconst 1, 1) := by decide +kernel
theorem dX6_ash_30 : decode cX6_ash 30 = .ok (.bastore, 1) := by decide +kernel
theorem dX6_ash_31 : decode cX6_ash 31 = .ok (.iload_n 1, 1) := by decide +kernel
theorem dX6_ash_32 : decode cX6_ash 32 = .ok (.ireturn, 1) := by decide +kernel
set_option maxRecDepth 20000 in
theorem ggX6_snows_X6_iceOf : GoodIn wsX6_snows wsX6_iceOf := goodIn_r _ [9, 2, 19, 20, 21, 22, 23, 24, 25, 26, 27, 28, 29, 30, 31, 32, 33, 34] (by decide +kernel) (by decide +kernel)
set_option maxRecDepth 20000 in
theorem gX6_snows_X6_iceOf : GoodIn wsX6_snows (wsV RX6 49 RX6 yX6_iceOf wsX6_iceOf) := goodIn_app (goodIn_of _ (by decide +kernel)) ggX6_snows_X6_iceOf
set_option maxRecDepth 20000 in
theorem ggX6_snows_X6_surfaceOf : GoodIn wsX6_snows wsX6_surfaceOf := goodIn_r _ [13, 2, 5, 6, 7, 8, 9, 19, 20, 21, 22, 23, 24, 25, 26, 27, 28, 29, 30, 31, 32, 33, 34] (by decide +kernel) (by decide +kernel)
set_option maxRecDepth 20000 in
theorem gX6_snows_X6_surfaceOf : GoodIn wsX6_snows (wsV RX6 76 RX6 yX6_surfaceOf wsX6_surfaceOf) := goodIn_app (goodIn_of _ (by decide +kernel)) ggX6_snows_X6_surfaceOf
set_option maxRecDepth 20000 in
theorem ggX6_snows_X6_isInSea : GoodIn wsX6_snows wsX6_isInSea := goodIn_r _ [17, 2, 18, 19, 20, 21, 22, 23, 24, 25, 26, 27, 28, 29, 30, 31, 32, 33, 34] (by decide +kernel) (by decide +kernel)
set_option maxRecDepth 20000 in
theorem gX6_snows_X6_isInSea : GoodIn wsX6_snows (wsV RX6 79 RX6 yX6_isInSea wsX6_isInSea) := goodIn_app (goodIn_of _ (by decide +kernel)) ggX6_snows_X6_isInSea
theorem dX6_snows_0 : decode cX6_snows 0 = .ok (.iconst 0, 1) := by decide +kernel
theorem dX6_snows_1 : decode cX6_snows 1 = .ok (.istore_n 1, 1) := by decide +kernel
theorem dX6_snows_2 : decode cX6_snows 2 = .ok (.iload_n 1, 1) := by decide +kernel
theorem dX6_snows_3 : decode cX6_snows 3 = .ok (.bipush 12, 2) := by decide +kernel
theorem dX6_snows_5 : decode cX6_snows 5 = .ok (.if_icmp .ge 251, 3) := by decide +kernel
theorem dX6_snows_8 : decode cX6_snows 8 = .ok (.aload_n 0, 1) := by decide +kernel
theorem dX6_snows_9 : decode cX6_snows 9 = .ok (.iload_n 1, 1) := by decide +kernel
theorem dX6_snows_10 : decode cX6_snows 10 = .ok (.invokevirtual 49, 3) := by decide +kernel
theorem dX6_snows_13 : decode cX6_snows 13 = .ok (.istore_n 2, 1) := by decide +kernel
theorem dX6_snows_14 : decode cX6_snows 14 = .ok (.aload_n 0, 1) := by decide +kernel
theorem dX6_snows_15 : decode cX6_snows 15 = .ok (.getfield 67, 3) := by decide +kernel
theorem dX6_snows_18 : decode cX6_snows 18 = .ok (.aload_n 0, 1) := by decide +kernel
theorem dX6_snows_19 : decode cX6_snows 19 = .ok (.iload_n 1, 1) := by decide +kernel
theorem dX6_snows_20 : decode cX6_snows 20 = .ok (.invokevirtual 76, 3) := by decide +kernel
theorem dX6_snows_23 : decode cX6_snows 23 = .ok (.iconst 1, 1) := by decide +kernel
theorem dX6_snows_24 : decode cX6_snows 24 = .ok (.ishr, 1) := by decide +kernel
theorem dX6_snows_25 : decode cX6_snows 25 = .ok (.isub, 1) := by decide +kernel
theorem dX6_snows_26 : decode cX6_snows 26 = .ok (.istore_n 3, 1) := by decide +kernel
theorem dX6_snows_27 : decode cX6_snows 27 = .ok (.aload_n 0, 1) := by decide +kernel
theorem dX6_snows_28 : decode cX6_snows 28 = .ok (.getfield 7, 3) := by decide +kernel
theorem dX6_snows_31 : decode cX6_snows 31 = .ok (.bipush 48, 2) := by decide +kernel
theorem dX6_snows_33 : decode cX6_snows 33 = .ok (.iload_n 1, 1) := by decide +kernel
theorem dX6_snows_34 : decode cX6_snows 34 = .ok (.iadd, 1) := by decide +kernel
theorem dX6_snows_35 : decode cX6_snows 35 = .ok (.iload_n 3, 1) := by decide +kernel
theorem dX6_snows_36 : decode cX6_snows 36 = .ok (.ifCond .ge 22, 3) := by decide +kernel
theorem dX6_snows_39 : decode cX6_snows 39 = .ok (.iload_n 2, 1) := by decide +kernel
theorem dX6_snows_40 : decode cX6_snows 40 = .ok (.ifCond .gt 11, 3) := by decide +kernel
theorem dX6_snows_43 : decode cX6_snows 43 = .ok (.aload_n 0, 1) := by decide +kernel
theorem dX6_snows_44 : decode cX6_snows 44 = .ok (.iload_n 1, 1) := by decide +kernel
theorem dX6_snows_45 : decode cX6_snows 45 = .ok (.invokevirtual 79, 3) := by decide +kernel
theorem dX6_snows_48 : decode cX6_snows 48 = .ok (.ifCond .ne 10, 3) := by decide +kernel
theorem dX6_snows_51 : decode cX6_snows 51 = .ok (.aload_n 0, 1) := by decide +kernel
theorem dX6_snows_52 : decode cX6_snows 52 = .ok (.getfield 70, 3) := by decide +kernel
theorem dX6_snows_55 : decode cX6_snows 55 = .ok (.goto 4, 3) := by decide +kernel
theorem dX6_snows_58 : decode cX6_snows 58 = .ok (.iconst 0, 1) := by decide +kernel
theorem dX6_snows_59 : decode cX6_snows 59 = .ok (.iastore, 1) := by decide +kernel
theorem dX6_snows_60 : decode cX6_snows 60 = .ok (.aload_n 0, 1) := by decide +kernel
theorem dX6_snows_61 : decode cX6_snows 61 = .ok (.getfield 7, 3) := by decide +kernel
theorem dX6_snows_64 : decode cX6_snows 64 = .ok (.bipush 86, 2) := by decide +kernel
theorem dX6_snows_66 : decode cX6_snows 66 = .ok (.dup2, 1) := by decide +kernel
theorem dX6_snows_67 : decode cX6_snows 67 = .ok (.iaload, 1) := by decide +kernel
theorem dX6_snows_68 : decode cX6_snows 68 = .ok (.aload_n 0, 1) := by decide +kernel
theorem dX6_snows_69 : decode cX6_snows 69 = .ok (.getfield 7, 3) := by decide +kernel
theorem dX6_snows_72 : decode cX6_snows 72 = .ok (.bipush 48, 2) := by decide +kernel
theorem dX6_snows_74 : decode cX6_snows 74 = .ok (.iload_n 1, 1) := by decide +kernel
theorem dX6_snows_75 : decode cX6_snows 75 = .ok (.iadd, 1) := by decide +kernel
theorem dX6_snows_76 : decode cX6_snows 76 = .ok (.iaload, 1) := by decide +kernel
theorem dX6_snows_77 : decode cX6_snows 77 = .ok (.iadd, 1) := by decide +kernel
theorem dX6_snows_78 : decode cX6_snows 78 = .ok (.iastore, 1) := by decide +kernel
theorem dX6_snows_79 : decode cX6_snows 79 = .ok (.aload_n 0, 1) := by decide +kernel
theorem dX6_snows_80 : decode cX6_snows 80 = .ok (.getfield 7, 3) := by decide +kernel
theorem dX6_snows_83 : decode cX6_snows 83 = .ok (.bipush 100, 2) := by decide +kernel
theorem dX6_snows_85 : decode cX6_snows 85 = .ok (.bipush 61, 2) := by decide +kernel
theorem dX6_snows_87 : decode cX6_snows 87 = .ok (.iload_n 1, 1) := by decide +kernel
theorem dX6_snows_88 : decode cX6_snows 88 = .ok (.imul, 1) := by decide +kernel
theorem dX6_snows_89 : decode cX6_snows 89 = .ok (.iadd, 1) := by decide +kernel
theorem dX6_snows_90 : decode cX6_snows 90 = .ok (.aload_n 0, 1) := by decide +kernel
theorem dX6_snows_91 : decode cX6_snows 91 = .ok (.getfield 7, 3) := by decide +kernel
theorem dX6_snows_94 : decode cX6_snows 94 = .ok (.bipush 89, 2) := by decide +kernel
theorem dX6_snows_96 : decode cX6_snows 96 = .ok (.iaload, 1) := by decide +kernel
theorem dX6_snows_97 : decode cX6_snows 97 = .ok (.iadd, 1) := by decide +kernel
theorem dX6_snows_98 : decode cX6_snows 98 = .ok (.dup2, 1) := by decide +kernel
theorem dX6_snows_99 : decode cX6_snows 99 = .ok (.iaload, 1) := by decide +kernel
theorem dX6_snows_100 : decode cX6_snows 100 = .ok (.aload_n 0, 1) := by decide +kernel
theorem dX6_snows_101 : decode cX6_snows 101 = .ok (.getfield 7, 3) := by decide +kernel
theorem dX6_snows_104 : decode cX6_snows 104 = .ok (.bipush 48, 2) := by decide +kernel
theorem dX6_snows_106 : decode cX6_snows 106 = .ok (.iload_n 1, 1) := by decide +kernel
theorem dX6_snows_107 : decode cX6_snows 107 = .ok (.iadd, 1) := by decide +kernel
theorem dX6_snows_108 : decode cX6_snows 108 = .ok (.iaload, 1) := by decide +kernel
theorem dX6_snows_109 : decode cX6_snows 109 = .ok (.iadd, 1) := by decide +kernel
theorem dX6_snows_110 : decode cX6_snows 110 = .ok (.iastore, 1) := by decide +kernel
theorem dX6_snows_111 : decode cX6_snows 111 = .ok (.iload_n 3, 1) := by decide +kernel
theorem dX6_snows_112 : decode cX6_snows 112 = .ok (.ifCond .le 15, 3) := by decide +kernel
theorem dX6_snows_115 : decode cX6_snows 115 = .ok (.iload_n 3, 1) := by decide +kernel
theorem dX6_snows_116 : decode cX6_snows 116 = .ok (.aload_n 0, 1) := by decide +kernel
theorem dX6_snows_117 : decode cX6_snows 117 = .ok (.getfield 73, 3) := by decide +kernel
theorem dX6_snows_120 : decode cX6_snows 120 = .ok (.imul, 1) := by decide +kernel
theorem dX6_snows_121 : decode cX6_snows 121 = .ok (.bipush 10, 2) := by decide +kernel
theorem dX6_snows_123 : decode cX6_snows 123 = .ok (.idiv, 1) := by decide +kernel
theorem dX6_snows_124 : decode cX6_snows 124 = .ok (.goto 4, 3) := by decide +kernel
theorem dX6_snows_127 : decode cX6_snows 127 = .ok (.iconst 0, 1) := by decide +kernel
theorem dX6_snows_128 : decode cX6_snows 128 = .ok (.istore 4, 2) := by decide +kernel
theorem dX6_snows_130 : decode cX6_snows 130 = .ok (.iload 4, 2) := by decide +kernel
theorem dX6_snows_132 : decode cX6_snows 132 = .ok (.iload_n 2, 1) := by decide +kernel
theorem dX6_snows_133 : decode cX6_snows 133 = .ok (.if_icmp .ge 8, 3) := by decide +kernel
theorem dX6_snows_136 : decode cX6_snows 136 = .ok (.iload 4, 2) := by decide +kernel
theorem dX6_snows_138 : decode cX6_snows 138 = .ok (.goto 12, 3) := by decide +kernel
theorem dX6_snows_141 : decode cX6_snows 141 = .ok (.iload_n 3, 1) := by decide +kernel
theorem dX6_snows_142 : decode cX6_snows 142 = .ok (.ifCond .le 7, 3) := by decide +kernel
theorem dX6_snows_145 : decode cX6_snows 145 = .ok (.iload_n 2, 1) := by decide +kernel
theorem dX6_snows_146 : decode cX6_snows 146 = .ok (.goto 4, 3) := by decide +kernel
theorem dX6_snows_149 : decode cX6_snows 149 = .ok (.iconst 0, 1) := by decide +kernel
theorem dX6_snows_150 : decode cX6_snows 150 = .ok (.istore 4, 2) := by decide +kernel
theorem dX6_snows_152 : decode cX6_snows 152 = .ok (.aload_n 0, 1) := by decide +kernel
theorem dX6_snows_153 : decode cX6_snows 153 = .ok (.getfield 7, 3) := by decide +kernel
theorem dX6_snows_156 : decode cX6_snows 156 = .ok (.bipush 24, 2) := by decide +kernel
theorem dX6_snows_158 : decode cX6_snows 158 = .ok (.iload_n 1, 1) := by decide +kernel
theorem dX6_snows_159 : decode cX6_snows 159 = .ok (.iadd, 1) := by decide +kernel
theorem dX6_snows_160 : decode cX6_snows 160 = .ok (.dup2, 1) := by decide +kernel
theorem dX6_snows_161 : decode cX6_snows 161 = .ok (.iaload, 1) := by decide +kernel
theorem dX6_snows_162 : decode cX6_snows 162 = .ok (.iload 4, 2) := by decide +kernel
theorem dX6_snows_164 : decode cX6_snows 164 = .ok (.iadd, 1) := by decide +kernel
theorem dX6_snows_165 : decode cX6_snows 165 = .ok (.iastore, 1) := by decide +kernel
theorem dX6_snows_166 : decode cX6_snows 166 = .ok (.aload_n 0, 1) := by decide +kernel
theorem dX6_snows_167 : decode cX6_snows 167 = .ok (.getfield 7, 3) := by decide +kernel
theorem dX6_snows_170 : decode cX6_snows 170 = .ok (.bipush 88, 2) := by decide +kernel
theorem dX6_snows_172 : decode cX6_snows 172 = .ok (.dup2, 1) := by decide +kernel
theorem dX6_snows_173 : decode cX6_snows 173 = .ok (.iaload, 1) := by decide +kernel
theorem dX6_snows_174 : decode cX6_snows 174 = .ok (.iload 4, 2) := by decide +kernel
theorem dX6_snows_176 : decode cX6_snows 176 = .ok (.iadd, 1) := by decide +kernel
theorem dX6_snows_177 : decode cX6_snows 177 = .ok (.iastore, 1) := by decide +kernel
theorem dX6_snows_178 : decode cX6_snows 178 = .ok (.bipush 60, 2) := by decide +kernel
theorem dX6_snows_180 : decode cX6_snows 180 = .ok (.istore 5, 2) := by decide +kernel
theorem dX6_snows_182 : decode cX6_snows 182 = .ok (.iload 4, 2) := by decide +kernel
theorem dX6_snows_184 : decode cX6_snows 184 = .ok (.ifCond .le 66, 3) := by decide +kernel
theorem dX6_snows_187 : decode cX6_snows 187 = .ok (.bipush 100, 2) := by decide +kernel
theorem dX6_snows_189 : decode cX6_snows 189 = .ok (.bipush 61, 2) := by decide +kernel
theorem dX6_snows_191 : decode cX6_snows 191 = .ok (.iload_n 1, 1) := by decide +kernel
theorem dX6_snows_192 : decode cX6_snows 192 = .ok (.imul, 1) := by decide +kernel
theorem dX6_snows_193 : decode cX6_snows 193 = .ok (.iadd, 1) := by decide +kernel
theorem dX6_snows_194 : decode cX6_snows 194 = .ok (.iload 5, 2) := by decide +kernel
theorem dX6_snows_196 : decode cX6_snows 196 = .ok (.iadd, 1) := by decide +kernel
theorem dX6_snows_197 : decode cX6_snows 197 = .ok (.istore 6, 2) := by decide +kernel
theorem dX6_snows_199 : decode cX6_snows 199 = .ok (.aload_n 0, 1) := by decide +kernel
theorem dX6_snows_200 : decode cX6_snows 200 = .ok (.getfield 7, 3) := by decide +kernel
theorem dX6_snows_203 : decode cX6_snows 203 = .ok (.iload 6, 2) := by decide +kernel
theorem dX6_snows_205 : decode cX6_snows 205 = .ok (.iaload, 1) := by decide +kernel
theorem dX6_snows_206 : decode cX6_snows 206 = .ok (.iload 4, 2) := by decide +kernel
theorem dX6_snows_208 : decode cX6_snows 208 = .ok (.if_icmp .ge 13, 3) := by decide +kernel
theorem dX6_snows_211 : decode cX6_snows 211 = .ok (.aload_n 0, 1) := by decide +kernel
theorem dX6_snows_212 : decode cX6_snows 212 = .ok (.getfield 7, 3) := by decide +kernel
theorem dX6_snows_215 : decode cX6_snows 215 = .ok (.iload 6, 2) := by decide +kernel
theorem dX6_snows_217 : decode cX6_snows 217 = .ok (.iaload, 1) := by decide +kernel
theorem dX6_snows_218 : decode cX6_snows 218 = .ok (.goto 5, 3) := by decide +kernel
theorem dX6_snows_221 : decode cX6_snows 221 = .ok (.iload 4, 2) := by decide +kernel
theorem dX6_snows_223 : decode cX6_snows 223 = .ok (.istore 7, 2) := by decide +kernel
theorem dX6_snows_225 : decode cX6_snows 225 = .ok (.aload_n 0, 1) := by decide +kernel
theorem dX6_snows_226 : decode cX6_snows 226 = .ok (.getfield 7, 3) := by decide +kernel
theorem dX6_snows_229 : decode cX6_snows 229 = .ok (.iload 6, 2) := by decide +kernel
theorem dX6_snows_231 : decode cX6_snows 231 = .ok (.dup2, 1) := by decide +kernel
theorem dX6_snows_232 : decode cX6_snows 232 = .ok (.iaload, 1) := by decide +kernel
theorem dX6_snows_233 : decode cX6_snows 233 = .ok (.iload 7, 2) := by decide +kernel
theorem dX6_snows_235 : decode cX6_snows 235 = .ok (.isub, 1) := by decide +kernel
theorem dX6_snows_236 : decode cX6_snows 236 = .ok (.iastore, 1) := by decide +kernel
theorem dX6_snows_237 : decode cX6_snows 237 = .ok (.iload 4, 2) := by decide +kernel
theorem dX6_snows_239 : decode cX6_snows 239 = .ok (.iload 7, 2) := by decide +kernel
theorem dX6_snows_241 : decode cX6_snows 241 = .ok (.isub, 1) := by decide +kernel
theorem dX6_snows_242 : decode cX6_snows 242 = .ok (.istore 4, 2) := by decide +kernel
theorem dX6_snows_244 : decode cX6_snows 244 = .ok (.iinc 5 (-1), 3) := by decide +kernel
theorem dX6_snows_247 : decode cX6_snows 247 = .ok (.goto (-65), 3) := by decide +kernel
theorem dX6_snows_250 : decode cX6_snows 250 = .ok (.iinc 1 1, 3) := by decide +kernel
theorem dX6_snows_253 : decode cX6_snows 253 = .ok (.goto (-251), 3) := by decide +kernel
theorem dX6_snows_256 : decode cX6_snows 256 = .ok (.return_, 1) := by decide +kernel
set_option maxRecDepth 20000 in
theorem ggX6_flowOf_X6_iceOf : GoodIn wsX6_flowOf wsX6_iceOf := goodIn_r _ [8, 2, 13, 14, 15, 16, 17, 18, 19, 20, 21, 22, 23, 24, 25, 26, 27, 28] (by decide +kernel) (by decide +kernel)
set_option maxRecDepth 20000 in
theorem gX6_flowOf_X6_iceOf : GoodIn wsX6_flowOf (wsV RX6 49 RX6 yX6_iceOf wsX6_iceOf) := goodIn_app (goodIn_of _ (by decide +kernel)) ggX6_flowOf_X6_iceOf
set_option maxRecDepth 20000 in
theorem ggX6_flowOf_X6_surfaceOf : GoodIn wsX6_flowOf wsX6_surfaceOf := goodIn_r _ [12, 2, 4, 5, 6, 7, 8, 13, 14, 15, 16, 17, 18, 19, 20, 21, 22, 23, 24, 25, 26, 27, 28] (by decide +kernel) (by decide +kernel)
set_option maxRecDepth 20000 in
theorem gX6_flowOf_X6_surfaceOf : GoodIn wsX6_flowOf (wsV RX6 76 RX6 yX6_surfaceOf wsX6_surfaceOf) := goodIn_app (goodIn_of _ (by decide +kernel)) ggX6_flowOf_X6_surfaceOf
theorem dX6_flowOf_0 : decode cX6_flowOf 0 = .ok (.aload_n 0, 1) := by decide +kernel
theorem dX6_flowOf_1 : decode cX6_flowOf 1 = .ok (.iload_n 1, 1) := by decide +kernel
theorem dX6_flowOf_2 : decode cX6_flowOf 2 = .ok (.invokevirtual 49, 3) := by decide +kernel
theorem dX6_flowOf_5 : decode cX6_flowOf 5 = .ok (.istore_n 3, 1) := by decide +kernel
theorem dX6_flowOf_6 : decode cX6_flowOf 6 = .ok (.aload_n 0, 1) := by decide +kernel
theorem dX6_flowOf_7 : decode cX6_flowOf 7 = .ok (.iload_n 1, 1) := by decide +kernel
theorem dX6_flowOf_8 : decode cX6_flowOf 8 = .ok (.invokevirtual 76, 3) := by decide +kernel
theorem dX6_flowOf_11 : decode cX6_flowOf 11 = .ok (.aload_n 0, 1) := by decide +kernel
theorem dX6_flowOf_12 : decode cX6_flowOf 12 = .ok (.iload_n 2, 1) := by decide +kernel
theorem dX6_flowOf_13 : decode cX6_flowOf 13 = .ok (.invokevirtual 76, 3) := by decide +kernel
theorem dX6_flowOf_16 : decode cX6_flowOf 16 = .ok (.isub, 1) := by decide +kernel
theorem dX6_flowOf_17 : decode cX6_flowOf 17 = .ok (.i2l, 1) := by decide +kernel
theorem dX6_flowOf_18 : decode cX6_flowOf 18 = .ok (.iload_n 3, 1) := by decide +kernel
theorem dX6_flowOf_19 : decode cX6_flowOf 19 = .ok (.i2l, 1) := by decide +kernel
theorem dX6_flowOf_20 : decode cX6_flowOf 20 = .ok (.lmul, 1) := by decide +kernel
theorem dX6_flowOf_21 : decode cX6_flowOf 21 = .ok (.ldc2_w 82, 3) := by decide +kernel
theorem dX6_flowOf_24 : decode cX6_flowOf 24 = .ok (.ldiv, 1) := by decide +kernel
theorem dX6_flowOf_25 : decode cX6_flowOf 25 = .ok (.lstore 4, 2) := by decide +kernel
theorem dX6_flowOf_27 : decode cX6_flowOf 27 = .ok (.aload_n 0, 1) := by decide +kernel
theorem dX6_flowOf_28 : decode cX6_flowOf 28 = .ok (.getfield 7, 3) := by decide +kernel
theorem dX6_flowOf_31 : decode cX6_flowOf 31 = .ok (.bipush 24, 2) := by decide +kernel
theorem dX6_flowOf_33 : decode cX6_flowOf 33 = .ok (.iload_n 1, 1) := by decide +kernel
theorem dX6_flowOf_34 : decode cX6_flowOf 34 = .ok (.iadd, 1) := by decide +kernel
theorem dX6_flowOf_35 : decode cX6_flowOf 35 = .ok (.iaload, 1) := by decide +kernel
theorem dX6_flowOf_36 : decode cX6_flowOf 36 = .ok (.iconst 4, 1) := by decide +kernel
theorem dX6_flowOf_37 : decode cX6_flowOf 37 = .ok (.if_icmp .lt 12, 3) := by decide +kernel
theorem dX6_flowOf_40 : decode cX6_flowOf 40 = .ok (.ldc2_w 84, 3) := by decide +kernel
theorem dX6_flowOf_43 : decode cX6_flowOf 43 = .ok (.lload 4, 2) := by decide +kernel
theorem dX6_flowOf_45 : decode cX6_flowOf 45 = .ok (.lmul, 1) := by decide +kernel
theorem dX6_flowOf_46 : decode cX6_flowOf 46 = .ok (.goto 5, 3) := by decide +kernel
theorem dX6_flowOf_49 : decode cX6_flowOf 49 = .ok (.lload 4, 2) := by decide +kernel
theorem dX6_flowOf_51 : decode cX6_flowOf 51 = .ok (.lstore 4, 2) := by decide +kernel
theorem dX6_flowOf_53 : decode cX6_flowOf 53 = .ok (.lload 4, 2) := by decide +kernel
theorem dX6_flowOf_55 : decode cX6_flowOf 55 = .ok (.iload_n 3, 1) := by decide +kernel
theorem dX6_flowOf_56 : decode cX6_flowOf 56 = .ok (.iconst 4, 1) := by decide +kernel
theorem dX6_flowOf_57 : decode cX6_flowOf 57 = .ok (.idiv, 1) := by decide +kernel
theorem dX6_flowOf_58 : decode cX6_flowOf 58 = .ok (.i2l, 1) := by decide +kernel
theorem dX6_flowOf_59 : decode cX6_flowOf 59 = .ok (.lcmp, 1) := by decide +kernel
theorem dX6_flowOf_60 : decode cX6_flowOf 60 = .ok (.ifCond .ge 9, 3) := by decide +kernel
theorem dX6_flowOf_63 : decode cX6_flowOf 63 = .ok (.lload 4, 2) := by decide +kernel
theorem dX6_flowOf_65 : decode cX6_flowOf 65 = .ok (.l2i, 1) := by decide +kernel
theorem dX6_flowOf_66 : decode cX6_flowOf 66 = .ok (.goto 6, 3) := by decide +kernel
theorem dX6_flowOf_69 : decode cX6_flowOf 69 = .ok (.iload_n 3, 1) := by decide +kernel
theorem dX6_flowOf_70 : decode cX6_flowOf 70 = .ok (.iconst 4, 1) := by decide +kernel
theorem dX6_flowOf_71 : decode cX6_flowOf 71 = .ok (.idiv, 1) := by decide +kernel
theorem dX6_flowOf_72 : decode cX6_flowOf 72 = .ok (.ireturn, 1) := by decide +kernel
set_option maxRecDepth 20000 in
theorem ggX6_flows_X6_surfaceOf : GoodIn wsX6_flows wsX6_surfaceOf := goodIn_r _ [7, 1, 8, 9, 10, 6, 11, 18, 19, 20, 21, 22, 23, 24, 25, 26, 27, 28, 29, 30, 31, 32, 33] (by decide +kernel) (by decide +kernel)
set_option maxRecDepth 20000 in
theorem gX6_flows_X6_surfaceOf : GoodIn wsX6_flows (wsV RX6 76 RX6 yX6_surfaceOf wsX6_surfaceOf) := goodIn_app (goodIn_of _ (by decide +kernel)) ggX6_flows_X6_surfaceOf
set_option maxRecDepth 20000 in
theorem ggX6_flows_X6_flowOf : GoodIn wsX6_flows wsX6_flowOf := goodIn_r _ [15, 16, 1, 17, 8, 9, 10, 6, 11, 3, 4, 5, 7, 18, 19, 20, 21, 22, 23, 24, 25, 26, 27, 28, 29, 30, 31, 32, 33] (by decide +kernel) (by decide +kernel)
set_option maxRecDepth 20000 in
theorem gX6_flows_X6_flowOf : GoodIn wsX6_flows (wsV RX6 86 RX6 yX6_flowOf wsX6_flowOf) := goodIn_app (goodIn_of _ (by decide +kernel)) ggX6_flows_X6_flowOf
theorem dX6_flows_0 : decode cX6_flows 0 = .ok (.iconst 0, 1) := by decide +kernel
theorem dX6_flows_1 : decode cX6_flows 1 = .ok (.istore_n 1, 1) := by decide +kernel
theorem dX6_flows_2 : decode cX6_flows 2 = .ok (.iload_n 1, 1) := by decide +kernel
theorem dX6_flows_3 : decode cX6_flows 3 = .ok (.bipush 12, 2) := by decide +kernel
theorem dX6_flows_5 : decode cX6_flows 5 = .ok (.if_icmp .ge 29, 3) := by decide +kernel
theorem dX6_flows_8 : decode cX6_flows 8 = .ok (.aload_n 0, 1) := by decide +kernel
theorem dX6_flows_9 : decode cX6_flows 9 = .ok (.getfield 7, 3) := by decide +kernel
theorem dX6_flows_12 : decode cX6_flows 12 = .ok (.bipush 60, 2) := by decide +kernel
theorem dX6_flows_14 : decode cX6_flows 14 = .ok (.iload_n 1, 1) := by decide +kernel
theorem dX6_flows_15 : decode cX6_flows 15 = .ok (.iadd, 1) := by decide +kernel
theorem dX6_flows_16 : decode cX6_flows 16 = .ok (.iconst 0, 1) := by decide +kernel
theorem dX6_flows_17 : decode cX6_flows 17 = .ok (.iastore, 1) := by decide +kernel
theorem dX6_flows_18 : decode cX6_flows 18 = .ok (.aload_n 0, 1) := by decide +kernel
theorem dX6_flows_19 : decode cX6_flows 19 = .ok (.getfield 7, 3) := by decide +kernel
theorem dX6_flows_22 : decode cX6_flows 22 = .ok (.bipush 72, 2) := by decide +kernel
theorem dX6_flows_24 : decode cX6_flows 24 = .ok (.iload_n 1, 1) := by decide +kernel
theorem dX6_flows_25 : decode cX6_flows 25 = .ok (.iadd, 1) := by decide +kernel
theorem dX6_flows_26 : decode cX6_flows 26 = .ok (.iconst 0, 1) := by decide +kernel
theorem dX6_flows_27 : decode cX6_flows 27 = .ok (.iastore, 1) := by decide +kernel
theorem dX6_flows_28 : decode cX6_flows 28 = .ok (.iinc 1 1, 3) := by decide +kernel
theorem dX6_flows_31 : decode cX6_flows 31 = .ok (.goto (-29), 3) := by decide +kernel
theorem dX6_flows_34 : decode cX6_flows 34 = .ok (.iconst 0, 1) := by decide +kernel
theorem dX6_flows_35 : decode cX6_flows 35 = .ok (.istore_n 1, 1) := by decide +kernel
theorem dX6_flows_36 : decode cX6_flows 36 = .ok (.iload_n 1, 1) := by decide +kernel
theorem dX6_flows_37 : decode cX6_flows 37 = .ok (.bipush 11, 2) := by decide +kernel
theorem dX6_flows_39 : decode cX6_flows 39 = .ok (.if_icmp .ge 63, 3) := by decide +kernel
theorem dX6_flows_42 : decode cX6_flows 42 = .ok (.aload_n 0, 1) := by decide +kernel
theorem dX6_flows_43 : decode cX6_flows 43 = .ok (.iload_n 1, 1) := by decide +kernel
theorem dX6_flows_44 : decode cX6_flows 44 = .ok (.invokevirtual 76, 3) := by decide +kernel
theorem dX6_flows_47 : decode cX6_flows 47 = .ok (.istore_n 2, 1) := by decide +kernel
theorem dX6_flows_48 : decode cX6_flows 48 = .ok (.aload_n 0, 1) := by decide +kernel
theorem dX6_flows_49 : decode cX6_flows 49 = .ok (.iload_n 1, 1) := by decide +kernel
theorem dX6_flows_50 : decode cX6_flows 50 = .ok (.iconst 1, 1) := by decide +kernel
theorem dX6_flows_51 : decode cX6_flows 51 = .ok (.iadd, 1) := by decide +kernel
theorem dX6_flows_52 : decode cX6_flows 52 = .ok (.invokevirtual 76, 3) := by decide +kernel
theorem dX6_flows_55 : decode cX6_flows 55 = .ok (.istore_n 3, 1) := by decide +kernel
theorem dX6_flows_56 : decode cX6_flows 56 = .ok (.aload_n 0, 1) := by decide +kernel
theorem dX6_flows_57 : decode cX6_flows 57 = .ok (.getfield 38, 3) := by decide +kernel
theorem dX6_flows_60 : decode cX6_flows 60 = .ok (.iload_n 1, 1) := by decide +kernel
theorem dX6_flows_61 : decode cX6_flows 61 = .ok (.iload_n 2, 1) := by decide +kernel
theorem dX6_flows_62 : decode cX6_flows 62 = .ok (.iload_n 3, 1) := by decide +kernel
theorem dX6_flows_63 : decode cX6_flows 63 = .ok (.if_icmp .le 14, 3) := by decide +kernel
theorem dX6_flows_66 : decode cX6_flows 66 = .ok (.aload_n 0, 1) := by decide +kernel
theorem dX6_flows_67 : decode cX6_flows 67 = .ok (.iload_n 1, 1) := by decide +kernel
theorem dX6_flows_68 : decode cX6_flows 68 = .ok (.iload_n 1, 1) := by decide +kernel
theorem dX6_flows_69 : decode cX6_flows 69 = .ok (.iconst 1, 1) := by decide +kernel
theorem dX6_flows_70 : decode cX6_flows 70 = .ok (.iadd, 1) := by decide +kernel
theorem dX6_flows_71 : decode cX6_flows 71 = .ok (.invokevirtual 86, 3) := by decide +kernel
theorem dX6_flows_74 : decode cX6_flows 74 = .ok (.goto 21, 3) := by decide +kernel
theorem dX6_flows_77 : decode cX6_flows 77 = .ok (.iload_n 2, 1) := by decide +kernel
theorem dX6_flows_78 : decode cX6_flows 78 = .ok (.iload_n 3, 1) := by decide +kernel
theorem dX6_flows_79 : decode cX6_flows 79 = .ok (.if_icmp .ge 15, 3) := by decide +kernel
theorem dX6_flows_82 : decode cX6_flows 82 = .ok (.aload_n 0, 1) := by decide +kernel
theorem dX6_flows_83 : decode cX6_flows 83 = .ok (.iload_n 1, 1) := by decide +kernel
theorem dX6_flows_84 : decode cX6_flows 84 = .ok (.iconst 1, 1) := by decide +kernel
theorem dX6_flows_85 : decode cX6_flows 85 = .ok (.iadd, 1) := by decide +kernel
theorem dX6_flows_86 : decode cX6_flows 86 = .ok (.iload_n 1, 1) := by decide +kernel
theorem dX6_flows_87 : decode cX6_flows 87 = .ok (.invokevirtual 86, 3) := by decide +kernel
theorem dX6_flows_90 : decode cX6_flows 90 = .ok (.ineg, 1) := by decide +kernel
theorem dX6_flows_91 : decode cX6_flows 91 = .ok (.goto 4, 3) := by decide +kernel
theorem dX6_flows_94 : decode cX6_flows 94 = .ok (.iconst 0, 1) := by decide +kernel
theorem dX6_flows_95 : decode cX6_flows 95 = .ok (.iastore, 1) := by decide +kernel
theorem dX6_flows_96 : decode cX6_flows 96 = .ok (.iinc 1 1, 3) := by decide +kernel
theorem dX6_flows_99 : decode cX6_flows 99 = .ok (.goto (-63), 3) := by decide +kernel
theorem dX6_flows_102 : decode cX6_flows 102 = .ok (.iconst 0, 1) := by decide +kernel
theorem dX6_flows_103 : decode cX6_flows 103 = .ok (.istore_n 1, 1) := by decide +kernel
theorem dX6_flows_104 : decode cX6_flows 104 = .ok (.iload_n 1, 1) := by decide +kernel
theorem dX6_flows_105 : decode cX6_flows 105 = .ok (.bipush 11, 2) := by decide +kernel
theorem dX6_flows_107 : decode cX6_flows 107 = .ok (.if_icmp .ge 183, 3) := by decide +kernel
theorem dX6_flows_110 : decode cX6_flows 110 = .ok (.aload_n 0, 1) := by decide +kernel
theorem dX6_flows_111 : decode cX6_flows 111 = .ok (.getfield 38, 3) := by decide +kernel
theorem dX6_flows_114 : decode cX6_flows 114 = .ok (.iload_n 1, 1) := by decide +kernel
theorem dX6_flows_115 : decode cX6_flows 115 = .ok (.iaload, 1) := by decide +kernel
theorem dX6_flows_116 : decode cX6_flows 116 = .ok (.ifCond .ge 9, 3) := by decide +kernel
theorem dX6_flows_119 : decode cX6_flows 119 = .ok (.iload_n 1, 1) := by decide +kernel
theorem dX6_flows_120 : decode cX6_flows 120 = .ok (.iconst 1, 1) := by decide +kernel
theorem dX6_flows_121 : decode cX6_flows 121 = .ok (.iadd, 1) := by decide +kernel
theorem dX6_flows_122 : decode cX6_flows 122 = .ok (.goto 4, 3) := by decide +kernel
theorem dX6_flows_125 : decode cX6_flows 125 = .ok (.iload_n 1, 1) := by decide +kernel
theorem dX6_flows_126 : decode cX6_flows 126 = .ok (.istore_n 2, 1) := by decide +kernel
theorem dX6_flows_127 : decode cX6_flows 127 = .ok (.iconst 2, 1) := by decide +kernel
theorem dX6_flows_128 : decode cX6_flows 128 = .ok (.iload_n 1, 1) := by decide +kernel
theorem dX6_flows_129 : decode cX6_flows 129 = .ok (.imul, 1) := by decide +kernel
theorem dX6_flows_130 : decode cX6_flows 130 = .ok (.iconst 1, 1) := by decide +kernel
theorem dX6_flows_131 : decode cX6_flows 131 = .ok (.iadd, 1) := by decide +kernel
theorem dX6_flows_132 : decode cX6_flows 132 = .ok (.iload_n 2, 1) := by decide +kernel
theorem dX6_flows_133 : decode cX6_flows 133 = .ok (.isub, 1) := by decide +kernel
theorem dX6_flows_134 : decode cX6_flows 134 = .ok (.istore_n 3, 1) := by decide +kernel
theorem dX6_flows_135 : decode cX6_flows 135 = .ok (.aload_n 0, 1) := by decide +kernel
theorem dX6_flows_136 : decode cX6_flows 136 = .ok (.getfield 38, 3) := by decide +kernel
theorem dX6_flows_139 : decode cX6_flows 139 = .ok (.iload_n 1, 1) := by decide +kernel
theorem dX6_flows_140 : decode cX6_flows 140 = .ok (.iaload, 1) := by decide +kernel
theorem dX6_flows_141 : decode cX6_flows 141 = .ok (.ifCond .ge 13, 3) := by decide +kernel
theorem dX6_flows_144 : decode cX6_flows 144 = .ok (.aload_n 0, 1) := by decide +kernel
theorem dX6_flows_145 : decode cX6_flows 145 = .ok (.getfield 38, 3) := by decide +kernel
theorem dX6_flows_148 : decode cX6_flows 148 = .ok (.iload_n 1, 1) := by decide +kernel
theorem dX6_flows_149 : decode cX6_flows 149 = .ok (.iaload, 1) := by decide +kernel
theorem dX6_flows_150 : decode cX6_flows 150 = .ok (.ineg, 1) := by decide +kernel
theorem dX6_flows_151 : decode cX6_flows 151 = .ok (.goto 9, 3) := by decide +kernel
theorem dX6_flows_154 : decode cX6_flows 154 = .ok (.aload_n 0, 1) := by decide +kernel
theorem dX6_flows_155 : decode cX6_flows 155 = .ok (.getfield 38, 3) := by decide +kernel
theorem dX6_flows_158 : decode cX6_flows 158 = .ok (.iload_n 1, 1) := by decide +kernel
theorem dX6_flows_159 : decode cX6_flows 159 = .ok (.iaload, 1) := by decide +kernel
theorem dX6_flows_160 : decode cX6_flows 160 = .ok (.istore 4, 2) := by decide +kernel
theorem dX6_flows_162 : decode cX6_flows 162 = .ok (.aload_n 0, 1) := by decide +kernel
theorem dX6_flows_163 : decode cX6_flows 163 = .ok (.getfield 7, 3) := by decide +kernel
theorem dX6_flows_166 : decode cX6_flows 166 = .ok (.bipush 72, 2) := by decide +kernel
theorem dX6_flows_168 : decode cX6_flows 168 = .ok (.iload_n 2, 1) := by decide +kernel
theorem dX6_flows_169 : decode cX6_flows 169 = .ok (.iadd, 1) := by decide +kernel
theorem dX6_flows_170 : decode cX6_flows 170 = .ok (.dup2, 1) := by decide +kernel
theorem dX6_flows_171 : decode cX6_flows 171 = .ok (.iaload, 1) := by decide +kernel
theorem dX6_flows_172 : decode cX6_flows 172 = .ok (.iload 4, 2) := by decide +kernel
theorem dX6_flows_174 : decode cX6_flows 174 = .ok (.iadd, 1) := by decide +kernel
theorem dX6_flows_175 : decode cX6_flows 175 = .ok (.iastore, 1) := by decide +kernel
theorem dX6_flows_176 : decode cX6_flows 176 = .ok (.aload_n 0, 1) := by decide +kernel
theorem dX6_flows_177 : decode cX6_flows 177 = .ok (.getfield 7, 3) := by decide +kernel
theorem dX6_flows_180 : decode cX6_flows 180 = .ok (.bipush 60, 2) := by decide +kernel
theorem dX6_flows_182 : decode cX6_flows 182 = .ok (.iload_n 3, 1) := by decide +kernel
theorem dX6_flows_183 : decode cX6_flows 183 = .ok (.iadd, 1) := by decide +kernel
theorem dX6_flows_184 : decode cX6_flows 184 = .ok (.dup2, 1) := by decide +kernel
theorem dX6_flows_185 : decode cX6_flows 185 = .ok (.iaload, 1) := by decide +kernel
theorem dX6_flows_186 : decode cX6_flows 186 = .ok (.iload 4, 2) := by decide +kernel
theorem dX6_flows_188 : decode cX6_flows 188 = .ok (.iadd, 1) := by decide +kernel
theorem dX6_flows_189 : decode cX6_flows 189 = .ok (.iastore, 1) := by decide +kernel
theorem dX6_flows_190 : decode cX6_flows 190 = .ok (.iconst 0, 1) := by decide +kernel
theorem dX6_flows_191 : decode cX6_flows 191 = .ok (.istore 5, 2) := by decide +kernel
theorem dX6_flows_193 : decode cX6_flows 193 = .ok (.iload 4, 2) := by decide +kernel
theorem dX6_flows_195 : decode cX6_flows 195 = .ok (.ifCond .le 89, 3) := by decide +kernel
theorem dX6_flows_198 : decode cX6_flows 198 = .ok (.aload_n 0, 1) := by decide +kernel
theorem dX6_flows_199 : decode cX6_flows 199 = .ok (.getfield 7, 3) := by decide +kernel
theorem dX6_flows_202 : decode cX6_flows 202 = .ok (.bipush 100, 2) := by decide +kernel
theorem dX6_flows_204 : decode cX6_flows 204 = .ok (.bipush 61, 2) := by decide +kernel
theorem dX6_flows_206 : decode cX6_flows 206 = .ok (.iload_n 2, 1) := by decide +kernel
theorem dX6_flows_207 : decode cX6_flows 207 = .ok (.imul, 1) := by decide +kernel
theorem dX6_flows_208 : decode cX6_flows 208 = .ok (.iadd, 1) := by decide +kernel
theorem dX6_flows_209 : decode cX6_flows 209 = .ok (.iload 5, 2) := by decide +kernel
theorem dX6_flows_211 : decode cX6_flows 211 = .ok (.iadd, 1) := by decide +kernel
theorem dX6_flows_212 : decode cX6_flows 212 = .ok (.iaload, 1) := by decide +kernel
theorem dX6_flows_213 : decode cX6_flows 213 = .ok (.istore 6, 2) := by decide +kernel
theorem dX6_flows_215 : decode cX6_flows 215 = .ok (.iload 6, 2) := by decide +kernel
theorem dX6_flows_217 : decode cX6_flows 217 = .ok (.iload 4, 2) := by decide +kernel
theorem dX6_flows_219 : decode cX6_flows 219 = .ok (.if_icmp .ge 8, 3) := by decide +kernel
theorem dX6_flows_222 : decode cX6_flows 222 = .ok (.iload 6, 2) := by decide +kernel
theorem dX6_flows_224 : decode cX6_flows 224 = .ok (.goto 5, 3) := by decide +kernel
theorem dX6_flows_227 : decode cX6_flows 227 = .ok (.iload 4, 2) := by decide +kernel
theorem dX6_flows_229 : decode cX6_flows 229 = .ok (.istore 6, 2) := by decide +kernel
theorem dX6_flows_231 : decode cX6_flows 231 = .ok (.aload_n 0, 1) := by decide +kernel
theorem dX6_flows_232 : decode cX6_flows 232 = .ok (.getfield 7, 3) := by decide +kernel
theorem dX6_flows_235 : decode cX6_flows 235 = .ok (.bipush 100, 2) := by decide +kernel
theorem dX6_flows_237 : decode cX6_flows 237 = .ok (.bipush 61, 2) := by decide +kernel
theorem dX6_flows_239 : decode cX6_flows 239 = .ok (.iload_n 2, 1) := by decide +kernel
theorem dX6_flows_240 : decode cX6_flows 240 = .ok (.imul, 1) := by decide +kernel
theorem dX6_flows_241 : decode cX6_flows 241 = .ok (.iadd, 1) := by decide +kernel
theorem dX6_flows_242 : decode cX6_flows 242 = .ok (.iload 5, 2) := by decide +kernel
theorem dX6_flows_244 : decode cX6_flows 244 = .ok (.iadd, 1) := by decide +kernel
theorem dX6_flows_245 : decode cX6_flows 245 = .ok (.dup2, 1) := by decide +kernel
theorem dX6_flows_246 : decode cX6_flows 246 = .ok (.iaload, 1) := by decide +kernel
theorem dX6_flows_247 : decode cX6_flows 247 = .ok (.iload 6, 2) := by decide +kernel
theorem dX6_flows_249 : decode cX6_flows 249 = .ok (.isub, 1) := by decide +kernel
theorem dX6_flows_250 : decode cX6_flows 250 = .ok (.iastore, 1) := by decide +kernel
theorem dX6_flows_251 : decode cX6_flows 251 = .ok (.aload_n 0, 1) := by decide +kernel
theorem dX6_flows_252 : decode cX6_flows 252 = .ok (.getfield 7, 3) := by decide +kernel
theorem dX6_flows_255 : decode cX6_flows 255 = .ok (.bipush 100, 2) := by decide +kernel
theorem dX6_flows_257 : decode cX6_flows 257 = .ok (.bipush 61, 2) := by decide +kernel
theorem dX6_flows_259 : decode cX6_flows 259 = .ok (.iload_n 3, 1) := by decide +kernel
theorem dX6_flows_260 : decode cX6_flows 260 = .ok (.imul, 1) := by decide +kernel
theorem dX6_flows_261 : decode cX6_flows 261 = .ok (.iadd, 1) := by decide +kernel
theorem dX6_flows_262 : decode cX6_flows 262 = .ok (.iload 5, 2) := by decide +kernel
theorem dX6_flows_264 : decode cX6_flows 264 = .ok (.iadd, 1) := by decide +kernel
theorem dX6_flows_265 : decode cX6_flows 265 = .ok (.dup2, 1) := by decide +kernel
theorem dX6_flows_266 : decode cX6_flows 266 = .ok (.iaload, 1) := by decide +kernel
theorem dX6_flows_267 : decode cX6_flows 267 = .ok (.iload 6, 2) := by decide +kernel
theorem dX6_flows_269 : decode cX6_flows 269 = .ok (.iadd, 1) := by decide +kernel
theorem dX6_flows_270 : decode cX6_flows 270 = .ok (.iastore, 1) := by decide +kernel
theorem dX6_flows_271 : decode cX6_flows 271 = .ok (.iload 4, 2) := by decide +kernel
theorem dX6_flows_273 : decode cX6_flows 273 = .ok (.iload 6, 2) := by decide +kernel
theorem dX6_flows_275 : decode cX6_flows 275 = .ok (.isub, 1) := by decide +kernel
theorem dX6_flows_276 : decode cX6_flows 276 = .ok (.istore 4, 2) := by decide +kernel
theorem dX6_flows_278 : decode cX6_flows 278 = .ok (.iinc 5 1, 3) := by decide +kernel
theorem dX6_flows_281 : decode cX6_flows 281 = .ok (.goto (-88), 3) := by decide +kernel
theorem dX6_flows_284 : decode cX6_flows 284 = .ok (.iinc 1 1, 3) := by decide +kernel
theorem dX6_flows_287 : decode cX6_flows 287 = .ok (.goto (-183), 3) := by decide +kernel
theorem dX6_flows_290 : decode cX6_flows 290 = .ok (.return_, 1) := by decide +kernel
set_option maxRecDepth 20000 in
theorem ggX6_runs_X6_isInSea : GoodIn wsX6_runs wsX6_isInSea := goodIn_r _ [6, 1, 7, 16, 17, 18, 19, 20, 21, 22, 23, 24, 25, 26, 27, 28, 29, 30, 31] (by decide +kernel) (by decide +kernel)
set_option maxRecDepth 20000 in
theorem gX6_runs_X6_isInSea : GoodIn wsX6_runs (wsV RX6 79 RX6 yX6_isInSea wsX6_isInSea) := goodIn_app (goodIn_of _ (by decide +kernel)) ggX6_runs_X6_isInSea
set_option maxRecDepth 20000 in
theorem ggX6_runs_X6_potentialOf : GoodIn wsX6_runs wsX6_potentialOf := goodIn_r _ [11, 1, 12, 13, 14, 5, 15, 16, 17, 18, 19, 20, 21, 22, 23, 24, 25, 26, 27, 28, 29, 30, 31] (by decide +kernel) (by decide +kernel)
set_option maxRecDepth 20000 in
theorem gX6_runs_X6_potentialOf : GoodIn wsX6_runs (wsV RX6 90 RX6 yX6_potentialOf wsX6_potentialOf) := goodIn_app (goodIn_of _ (by decide +kernel)) ggX6_runs_X6_potentialOf
theorem dX6_runs_0 : decode cX6_runs 0 = .ok (.iconst 0, 1) := by decide +kernel
theorem dX6_runs_1 : decode cX6_runs 1 = .ok (.istore_n 1, 1) := by decide +kernel
theorem dX6_runs_2 : decode cX6_runs 2 = .ok (.iload_n 1, 1) := by decide +kernel
theorem dX6_runs_3 : decode cX6_runs 3 = .ok (.bipush 12, 2) := by decide +kernel
theorem dX6_runs_5 : decode cX6_runs 5 = .ok (.if_icmp .ge 145, 3) := by decide +kernel
theorem dX6_runs_8 : decode cX6_runs 8 = .ok (.aload_n 0, 1) := by decide +kernel
theorem dX6_runs_9 : decode cX6_runs 9 = .ok (.getfield 7, 3) := by decide +kernel
theorem dX6_runs_12 : decode cX6_runs 12 = .ok (.bipush 24, 2) := by decide +kernel
theorem dX6_runs_14 : decode cX6_runs 14 = .ok (.iload_n 1, 1) := by decide +kernel
theorem dX6_runs_15 : decode cX6_runs 15 = .ok (.iadd, 1) := by decide +kernel
theorem dX6_runs_16 : decode cX6_runs 16 = .ok (.iaload, 1) := by decide +kernel
theorem dX6_runs_17 : decode cX6_runs 17 = .ok (.istore_n 2, 1) := by decide +kernel
theorem dX6_runs_18 : decode cX6_runs 18 = .ok (.aload_n 0, 1) := by decide +kernel
theorem dX6_runs_19 : decode cX6_runs 19 = .ok (.iload_n 1, 1) := by decide +kernel
theorem dX6_runs_20 : decode cX6_runs 20 = .ok (.invokevirtual 79, 3) := by decide +kernel
theorem dX6_runs_23 : decode cX6_runs 23 = .ok (.ifCond .ne 9, 3) := by decide +kernel
theorem dX6_runs_26 : decode cX6_runs 26 = .ok (.iload_n 1, 1) := by decide +kernel
theorem dX6_runs_27 : decode cX6_runs 27 = .ok (.bipush 11, 2) := by decide +kernel
theorem dX6_runs_29 : decode cX6_runs 29 = .ok (.if_icmp .ne 7, 3) := by decide +kernel
theorem dX6_runs_32 : decode cX6_runs 32 = .ok (.iconst 1, 1) := by decide +kernel
theorem dX6_runs_33 : decode cX6_runs 33 = .ok (.goto 4, 3) := by decide +kernel
theorem dX6_runs_36 : decode cX6_runs 36 = .ok (.iconst 0, 1) := by decide +kernel
theorem dX6_runs_37 : decode cX6_runs 37 = .ok (.istore_n 3, 1) := by decide +kernel
theorem dX6_runs_38 : decode cX6_runs 38 = .ok (.iload_n 3, 1) := by decide +kernel
theorem dX6_runs_39 : decode cX6_runs 39 = .ok (.ifCond .eq 7, 3) := by decide +kernel
theorem dX6_runs_42 : decode cX6_runs 42 = .ok (.iload_n 1, 1) := by decide +kernel
theorem dX6_runs_43 : decode cX6_runs 43 = .ok (.goto 33, 3) := by decide +kernel
theorem dX6_runs_46 : decode cX6_runs 46 = .ok (.iload_n 1, 1) := by decide +kernel
theorem dX6_runs_47 : decode cX6_runs 47 = .ok (.ifCond .eq 20, 3) := by decide +kernel
theorem dX6_runs_50 : decode cX6_runs 50 = .ok (.aload_n 0, 1) := by decide +kernel
theorem dX6_runs_51 : decode cX6_runs 51 = .ok (.iload_n 1, 1) := by decide +kernel
theorem dX6_runs_52 : decode cX6_runs 52 = .ok (.iconst 1, 1) := by decide +kernel
theorem dX6_runs_53 : decode cX6_runs 53 = .ok (.iadd, 1) := by decide +kernel
theorem dX6_runs_54 : decode cX6_runs 54 = .ok (.invokevirtual 90, 3) := by decide +kernel
theorem dX6_runs_57 : decode cX6_runs 57 = .ok (.aload_n 0, 1) := by decide +kernel
theorem dX6_runs_58 : decode cX6_runs 58 = .ok (.iload_n 1, 1) := by decide +kernel
theorem dX6_runs_59 : decode cX6_runs 59 = .ok (.iconst 1, 1) := by decide +kernel
theorem dX6_runs_60 : decode cX6_runs 60 = .ok (.isub, 1) := by decide +kernel
theorem dX6_runs_61 : decode cX6_runs 61 = .ok (.invokevirtual 90, 3) := by decide +kernel
theorem dX6_runs_64 : decode cX6_runs 64 = .ok (.if_icmp .gt 9, 3) := by decide +kernel
theorem dX6_runs_67 : decode cX6_runs 67 = .ok (.iload_n 1, 1) := by decide +kernel
theorem dX6_runs_68 : decode cX6_runs 68 = .ok (.iconst 1, 1) := by decide +kernel
theorem dX6_runs_69 : decode cX6_runs 69 = .ok (.iadd, 1) := by decide +kernel
theorem dX6_runs_70 : decode cX6_runs 70 = .ok (.goto 6, 3) := by decide +kernel
theorem dX6_runs_73 : decode cX6_runs 73 = .ok (.iload_n 1, 1) := by decide +kernel
theorem dX6_runs_74 : decode cX6_runs 74 = .ok (.iconst 1, 1) := by decide +kernel
theorem dX6_runs_75 : decode cX6_runs 75 = .ok (.isub, 1) := by decide +kernel
theorem dX6_runs_76 : decode cX6_runs 76 = .ok (.istore 4, 2) := by decide +kernel
theorem dX6_runs_78 : decode cX6_runs 78 = .ok (.iload_n 3, 1) := by decide +kernel
theorem dX6_runs_79 : decode cX6_runs 79 = .ok (.ifCond .eq 27, 3) := by decide +kernel
theorem dX6_runs_82 : decode cX6_runs 82 = .ok (.aload_n 0, 1) := by decide +kernel
theorem dX6_runs_83 : decode cX6_runs 83 = .ok (.getfield 7, 3) := by decide +kernel
theorem dX6_runs_86 : decode cX6_runs 86 = .ok (.bipush 84, 2) := by decide +kernel
theorem dX6_runs_88 : decode cX6_runs 88 = .ok (.dup2, 1) := by decide +kernel
theorem dX6_runs_89 : decode cX6_runs 89 = .ok (.iaload, 1) := by decide +kernel
theorem dX6_runs_90 : decode cX6_runs 90 = .ok (.iload_n 2, 1) := by decide +kernel
theorem dX6_runs_91 : decode cX6_runs 91 = .ok (.iadd, 1) := by decide +kernel
theorem dX6_runs_92 : decode cX6_runs 92 = .ok (.iastore, 1) := by decide +kernel
theorem dX6_runs_93 : decode cX6_runs 93 = .ok (.aload_n 0, 1) := by decide +kernel
theorem dX6_runs_94 : decode cX6_runs 94 = .ok (.getfield 7, 3) := by decide +kernel
theorem dX6_runs_97 : decode cX6_runs 97 = .ok (.bipush 24, 2) := by decide +kernel
theorem dX6_runs_99 : decode cX6_runs 99 = .ok (.iload_n 1, 1) := by decide +kernel
theorem dX6_runs_100 : decode cX6_runs 100 = .ok (.iadd, 1) := by decide +kernel
theorem dX6_runs_101 : decode cX6_runs 101 = .ok (.iconst 0, 1) := by decide +kernel
theorem dX6_runs_102 : decode cX6_runs 102 = .ok (.iastore, 1) := by decide +kernel
theorem dX6_runs_103 : decode cX6_runs 103 = .ok (.goto 41, 3) := by decide +kernel
theorem dX6_runs_106 : decode cX6_runs 106 = .ok (.aload_n 0, 1) := by decide +kernel
theorem dX6_runs_107 : decode cX6_runs 107 = .ok (.iload 4, 2) := by decide +kernel
theorem dX6_runs_109 : decode cX6_runs 109 = .ok (.invokevirtual 90, 3) := by decide +kernel
theorem dX6_runs_112 : decode cX6_runs 112 = .ok (.aload_n 0, 1) := by decide +kernel
theorem dX6_runs_113 : decode cX6_runs 113 = .ok (.iload_n 1, 1) := by decide +kernel
theorem dX6_runs_114 : decode cX6_runs 114 = .ok (.invokevirtual 90, 3) := by decide +kernel
theorem dX6_runs_117 : decode cX6_runs 117 = .ok (.if_icmp .ge 27, 3) := by decide +kernel
theorem dX6_runs_120 : decode cX6_runs 120 = .ok (.aload_n 0, 1) := by decide +kernel
theorem dX6_runs_121 : decode cX6_runs 121 = .ok (.getfield 7, 3) := by decide +kernel
theorem dX6_runs_124 : decode cX6_runs 124 = .ok (.bipush 24, 2) := by decide +kernel
theorem dX6_runs_126 : decode cX6_runs 126 = .ok (.iload 4, 2) := by decide +kernel
theorem dX6_runs_128 : decode cX6_runs 128 = .ok (.iadd, 1) := by decide +kernel
theorem dX6_runs_129 : decode cX6_runs 129 = .ok (.dup2, 1) := by decide +kernel
theorem dX6_runs_130 : decode cX6_runs 130 = .ok (.iaload, 1) := by decide +kernel
theorem dX6_runs_131 : decode cX6_runs 131 = .ok (.iload_n 2, 1) := by decide +kernel
theorem dX6_runs_132 : decode cX6_runs 132 = .ok (.iadd, 1) := by decide +kernel
theorem dX6_runs_133 : decode cX6_runs 133 = .ok (.iastore, 1) := by decide +kernel
theorem dX6_runs_134 : decode cX6_runs 134 = .ok (.aload_n 0, 1) := by decide +kernel
theorem dX6_runs_135 : decode cX6_runs 135 = .ok (.getfield 7, 3) := by decide +kernel
theorem dX6_runs_138 : decode cX6_runs 138 = .ok (.bipush 24, 2) := by decide +kernel
theorem dX6_runs_140 : decode cX6_runs 140 = .ok (.iload_n 1, 1) := by decide +kernel
theorem dX6_runs_141 : decode cX6_runs 141 = .ok (.iadd, 1) := by decide +kernel
theorem dX6_runs_142 : decode cX6_runs 142 = .ok (.iconst 0, 1) := by decide +kernel
theorem dX6_runs_143 : decode cX6_runs 143 = .ok (.iastore, 1) := by decide +kernel
theorem dX6_runs_144 : decode cX6_runs 144 = .ok (.iinc 1 1, 3) := by decide +kernel
theorem dX6_runs_147 : decode cX6_runs 147 = .ok (.goto (-145), 3) := by decide +kernel
theorem dX6_runs_150 : decode cX6_runs 150 = .ok (.return_, 1) := by decide +kernel
set_option maxRecDepth 20000 in
theorem ggX6_least_X6_iceOf : GoodIn wsX6_least wsX6_iceOf := goodIn_r _ [5, 6, 7, 8, 9, 10, 11, 12, 13, 14, 15, 16, 17, 18, 19, 20, 21, 22] (by decide +kernel) (by decide +kernel)
set_option maxRecDepth 20000 in
theorem gX6_least_X6_iceOf : GoodIn wsX6_least (wsV RX6 49 RX6 yX6_iceOf wsX6_iceOf) := goodIn_app (goodIn_of _ (by decide +kernel)) ggX6_least_X6_iceOf
theorem dX6_least_0 : decode cX6_least 0 = .ok (.iload_n 1, 1) := by decide +kernel
theorem dX6_least_1 : decode cX6_least 1 = .ok (.ifCond .le 13, 3) := by decide +kernel
theorem dX6_least_4 : decode cX6_least 4 = .ok (.aload_n 0, 1) := by decide +kernel
theorem dX6_least_5 : decode cX6_least 5 = .ok (.iload_n 1, 1) := by decide +kernel
theorem dX6_least_6 : decode cX6_least 6 = .ok (.iconst 1, 1) := by decide +kernel
theorem dX6_least_7 : decode cX6_least 7 = .ok (.isub, 1) := by decide +kernel
theorem dX6_least_8 : decode cX6_least 8 = .ok (.invokevirtual 49, 3) := by decide +kernel
theorem dX6_least_11 : decode cX6_least 11 = .ok (.goto 4, 3) := by decide +kernel
theorem dX6_least_14 : decode cX6_least 14 = .ok (.iconst 0, 1) := by decide +kernel
theorem dX6_least_15 : decode cX6_least 15 = .ok (.istore_n 2, 1) := by decide +kernel
theorem dX6_least_16 : decode cX6_least 16 = .ok (.iload_n 1, 1) := by decide +kernel
theorem dX6_least_17 : decode cX6_least 17 = .ok (.bipush 11, 2) := by decide +kernel
theorem dX6_least_19 : decode cX6_least 19 = .ok (.if_icmp .ge 13, 3) := by decide +kernel
theorem dX6_least_22 : decode cX6_least 22 = .ok (.aload_n 0, 1) := by decide +kernel
theorem dX6_least_23 : decode cX6_least 23 = .ok (.iload_n 1, 1) := by decide +kernel
theorem dX6_least_24 : decode cX6_least 24 = .ok (.iconst 1, 1) := by decide +kernel
theorem dX6_least_25 : decode cX6_least 25 = .ok (.iadd, 1) := by decide +kernel
theorem dX6_least_26 : decode cX6_least 26 = .ok (.invokevirtual 49, 3) := by decide +kernel
theorem dX6_least_29 : decode cX6_least 29 = .ok (.goto 4, 3) := by decide +kernel
theorem dX6_least_32 : decode cX6_least 32 = .ok (.iconst 0, 1) := by decide +kernel
theorem dX6_least_33 : decode cX6_least 33 = .ok (.istore_n 3, 1) := by decide +kernel
theorem dX6_least_34 : decode cX6_least 34 = .ok (.iload_n 2, 1) := by decide +kernel
theorem dX6_least_35 : decode cX6_least 35 = .ok (.ifCond .ne 7, 3) := by decide +kernel
theorem dX6_least_38 : decode cX6_least 38 = .ok (.iload_n 3, 1) := by decide +kernel
theorem dX6_least_39 : decode cX6_least 39 = .ok (.goto 17, 3) := by decide +kernel
theorem dX6_least_42 : decode cX6_least 42 = .ok (.iload_n 3, 1) := by decide +kernel
theorem dX6_least_43 : decode cX6_least 43 = .ok (.ifCond .eq 8, 3) := by decide +kernel
theorem dX6_least_46 : decode cX6_least 46 = .ok (.iload_n 2, 1) := by decide +kernel
theorem dX6_least_47 : decode cX6_least 47 = .ok (.iload_n 3, 1) := by decide +kernel
theorem dX6_least_48 : decode cX6_least 48 = .ok (.if_icmp .ge 7, 3) := by decide +kernel
theorem dX6_least_51 : decode cX6_least 51 = .ok (.iload_n 2, 1) := by decide +kernel
theorem dX6_least_52 : decode cX6_least 52 = .ok (.goto 4, 3) := by decide +kernel
theorem dX6_least_55 : decode cX6_least 55 = .ok (.iload_n 3, 1) := by decide +kernel
theorem dX6_least_56 : decode cX6_least 56 = .ok (.ireturn, 1) := by decide +kernel
set_option maxRecDepth 20000 in
theorem ggX6_breaks_X6_least : GoodIn wsX6_breaks wsX6_least := goodIn_r _ [9, 10, 11, 12, 8, 13, 1, 14, 15, 16, 17, 18, 19, 20, 21, 22, 23, 24, 25, 26, 27, 28, 29] (by decide +kernel) (by decide +kernel)
set_option maxRecDepth 20000 in
theorem gX6_breaks_X6_least : GoodIn wsX6_breaks (wsV RX6 93 RX6 yX6_least wsX6_least) := goodIn_app (goodIn_of _ (by decide +kernel)) ggX6_breaks_X6_least
theorem dX6_breaks_0 : decode cX6_breaks 0 = .ok (.iconst 0, 1) := by decide +kernel
theorem dX6_breaks_1 : decode cX6_breaks 1 = .ok (.istore_n 1, 1) := by decide +kernel
theorem dX6_breaks_2 : decode cX6_breaks 2 = .ok (.iload_n 1, 1) := by decide +kernel
theorem dX6_breaks_3 : decode cX6_breaks 3 = .ok (.bipush 12, 2) := by decide +kernel
theorem dX6_breaks_5 : decode cX6_breaks 5 = .ok (.if_icmp .ge 123, 3) := by decide +kernel
theorem dX6_breaks_8 : decode cX6_breaks 8 = .ok (.aload_n 0, 1) := by decide +kernel
theorem dX6_breaks_9 : decode cX6_breaks 9 = .ok (.getfield 7, 3) := by decide +kernel
theorem dX6_breaks_12 : decode cX6_breaks 12 = .ok (.bipush 24, 2) := by decide +kernel
theorem dX6_breaks_14 : decode cX6_breaks 14 = .ok (.iload_n 1, 1) := by decide +kernel
theorem dX6_breaks_15 : decode cX6_breaks 15 = .ok (.iadd, 1) := by decide +kernel
theorem dX6_breaks_16 : decode cX6_breaks 16 = .ok (.iaload, 1) := by decide +kernel
theorem dX6_breaks_17 : decode cX6_breaks 17 = .ok (.istore_n 2, 1) := by decide +kernel
theorem dX6_breaks_18 : decode cX6_breaks 18 = .ok (.aload_n 0, 1) := by decide +kernel
theorem dX6_breaks_19 : decode cX6_breaks 19 = .ok (.iload_n 1, 1) := by decide +kernel
theorem dX6_breaks_20 : decode cX6_breaks 20 = .ok (.invokevirtual 93, 3) := by decide +kernel
theorem dX6_breaks_23 : decode cX6_breaks 23 = .ok (.istore_n 3, 1) := by decide +kernel
theorem dX6_breaks_24 : decode cX6_breaks 24 = .ok (.iload_n 2, 1) := by decide +kernel
theorem dX6_breaks_25 : decode cX6_breaks 25 = .ok (.bipush 10, 2) := by decide +kernel
theorem dX6_breaks_27 : decode cX6_breaks 27 = .ok (.if_icmp .lt 95, 3) := by decide +kernel
theorem dX6_breaks_30 : decode cX6_breaks 30 = .ok (.iload_n 3, 1) := by decide +kernel
theorem dX6_breaks_31 : decode cX6_breaks 31 = .ok (.ifCond .le 91, 3) := by decide +kernel
theorem dX6_breaks_34 : decode cX6_breaks 34 = .ok (.bipush 10, 2) := by decide +kernel
theorem dX6_breaks_36 : decode cX6_breaks 36 = .ok (.iload_n 2, 1) := by decide +kernel
theorem dX6_breaks_37 : decode cX6_breaks 37 = .ok (.imul, 1) := by decide +kernel
theorem dX6_breaks_38 : decode cX6_breaks 38 = .ok (.bipush 9, 2) := by decide +kernel
theorem dX6_breaks_40 : decode cX6_breaks 40 = .ok (.iload_n 3, 1) := by decide +kernel
theorem dX6_breaks_41 : decode cX6_breaks 41 = .ok (.imul, 1) := by decide +kernel
theorem dX6_breaks_42 : decode cX6_breaks 42 = .ok (.if_icmp .le 80, 3) := by decide +kernel
theorem dX6_breaks_45 : decode cX6_breaks 45 = .ok (.aload_n 0, 1) := by decide +kernel
theorem dX6_breaks_46 : decode cX6_breaks 46 = .ok (.getfield 20, 3) := by decide +kernel
theorem dX6_breaks_49 : decode cX6_breaks 49 = .ok (.aload_n 0, 1) := by decide +kernel
theorem dX6_breaks_50 : decode cX6_breaks 50 = .ok (.getfield 7, 3) := by decide +kernel
theorem dX6_breaks_53 : decode cX6_breaks 53 = .ok (.bipush 90, 2) := by decide +kernel
theorem dX6_breaks_55 : decode cX6_breaks 55 = .ok (.iaload, 1) := by decide +kernel
theorem dX6_breaks_56 : decode cX6_breaks 56 = .ok (.aload_n 0, 1) := by decide +kernel
theorem dX6_breaks_57 : decode cX6_breaks 57 = .ok (.getfield 7, 3) := by decide +kernel
theorem dX6_breaks_60 : decode cX6_breaks 60 = .ok (.bipush 89, 2) := by decide +kernel
theorem dX6_breaks_62 : decode cX6_breaks 62 = .ok (.iaload, 1) := by decide +kernel
theorem dX6_breaks_63 : decode cX6_breaks 63 = .ok (.iastore, 1) := by decide +kernel
theorem dX6_breaks_64 : decode cX6_breaks 64 = .ok (.aload_n 0, 1) := by decide +kernel
theorem dX6_breaks_65 : decode cX6_breaks 65 = .ok (.getfield 23, 3) := by decide +kernel
theorem dX6_breaks_68 : decode cX6_breaks 68 = .ok (.aload_n 0, 1) := by decide +kernel
theorem dX6_breaks_69 : decode cX6_breaks 69 = .ok (.getfield 7, 3) := by decide +kernel
theorem dX6_breaks_72 : decode cX6_breaks 72 = .ok (.bipush 90, 2) := by decide +kernel
theorem dX6_breaks_74 : decode cX6_breaks 74 = .ok (.iaload, 1) := by decide +kernel
theorem dX6_breaks_75 : decode cX6_breaks 75 = .ok (.iload_n 1, 1) := by decide +kernel
theorem dX6_breaks_76 : decode cX6_breaks 76 = .ok (.iastore, 1) := by decide +kernel
theorem dX6_breaks_77 : decode cX6_breaks 77 = .ok (.aload_n 0, 1) := by decide +kernel
theorem dX6_breaks_78 : decode cX6_breaks 78 = .ok (.getfield 26, 3) := by decide +kernel
theorem dX6_breaks_81 : decode cX6_breaks 81 = .ok (.aload_n 0, 1) := by decide +kernel
theorem dX6_breaks_82 : decode cX6_breaks 82 = .ok (.getfield 7, 3) := by decide +kernel
theorem dX6_breaks_85 : decode cX6_breaks 85 = .ok (.bipush 90, 2) := by decide +kernel
theorem dX6_breaks_87 : decode cX6_breaks 87 = .ok (.iaload, 1) := by decide +kernel
theorem dX6_breaks_88 : decode cX6_breaks 88 = .ok (.iload_n 2, 1) := by decide +kernel
theorem dX6_breaks_89 : decode cX6_breaks 89 = .ok (.iastore, 1) := by decide +kernel
theorem dX6_breaks_90 : decode cX6_breaks 90 = .ok (.aload_n 0, 1) := by decide +kernel
theorem dX6_breaks_91 : decode cX6_breaks 91 = .ok (.getfield 7, 3) := by decide +kernel
theorem dX6_breaks_94 : decode cX6_breaks 94 = .ok (.bipush 90, 2) := by decide +kernel
theorem dX6_breaks_96 : decode cX6_breaks 96 = .ok (.dup2, 1) := by decide +kernel
theorem dX6_breaks_97 : decode cX6_breaks 97 = .ok (.iaload, 1) := by decide +kernel
theorem dX6_breaks_98 : decode cX6_breaks 98 = .ok (.iconst 1, 1) := by decide +kernel
theorem dX6_breaks_99 : decode cX6_breaks 99 = .ok (.iadd, 1) := by decide +kernel
theorem dX6_breaks_100 : decode cX6_breaks 100 = .ok (.iastore, 1) := by decide +kernel
theorem dX6_breaks_101 : decode cX6_breaks 101 = .ok (.aload_n 0, 1) := by decide +kernel
theorem dX6_breaks_102 : decode cX6_breaks 102 = .ok (.getfield 7, 3) := by decide +kernel
theorem dX6_breaks_105 : decode cX6_breaks 105 = .ok (.bipush 84, 2) := by decide +kernel
theorem dX6_breaks_107 : decode cX6_breaks 107 = .ok (.dup2, 1) := by decide +kernel
theorem dX6_breaks_108 : decode cX6_breaks 108 = .ok (.iaload, 1) := by decide +kernel
theorem dX6_breaks_109 : decode cX6_breaks 109 = .ok (.iload_n 2, 1) := by decide +kernel
theorem dX6_breaks_110 : decode cX6_breaks 110 = .ok (.iadd, 1) := by decide +kernel
theorem dX6_breaks_111 : decode cX6_breaks 111 = .ok (.iastore, 1) := by decide +kernel
theorem dX6_breaks_112 : decode cX6_breaks 112 = .ok (.aload_n 0, 1) := by decide +kernel
theorem dX6_breaks_113 : decode cX6_breaks 113 = .ok (.getfield 7, 3) := by decide +kernel
theorem dX6_breaks_116 : decode cX6_breaks 116 = .ok (.bipush 24, 2) := by decide +kernel
theorem dX6_breaks_118 : decode cX6_breaks 118 = .ok (.iload_n 1, 1) := by decide +kernel
theorem dX6_breaks_119 : decode cX6_breaks 119 = .ok (.iadd, 1) := by decide +kernel
theorem dX6_breaks_120 : decode cX6_breaks 120 = .ok (.iconst 0, 1) := by decide +kernel
theorem dX6_breaks_121 : decode cX6_breaks 121 = .ok (.iastore, 1) := by decide +kernel
theorem dX6_breaks_122 : decode cX6_breaks 122 = .ok (.iinc 1 1, 3) := by decide +kernel
theorem dX6_breaks_125 : decode cX6_breaks 125 = .ok (.goto (-123), 3) := by decide +kernel
theorem dX6_breaks_128 : decode cX6_breaks 128 = .ok (.return_, 1) := by decide +kernel
set_option maxRecDepth 20000 in
theorem ggX6_calves_X6_iceOf : GoodIn wsX6_calves wsX6_iceOf := goodIn_r _ [7, 2, 12, 13, 14, 15, 16, 17, 18, 19, 20, 21, 22, 23, 24, 25, 26, 27] (by decide +kernel) (by decide +kernel)
set_option maxRecDepth 20000 in
theorem gX6_calves_X6_iceOf : GoodIn wsX6_calves (wsV RX6 49 RX6 yX6_iceOf wsX6_iceOf) := goodIn_app (goodIn_of _ (by decide +kernel)) ggX6_calves_X6_iceOf
set_option maxRecDepth 20000 in
theorem ggX6_calves_X6_isInSea : GoodIn wsX6_calves wsX6_isInSea := goodIn_r _ [11, 2, 1, 12, 13, 14, 15, 16, 17, 18, 19, 20, 21, 22, 23, 24, 25, 26, 27] (by decide +kernel) (by decide +kernel)
set_option maxRecDepth 20000 in
theorem gX6_calves_X6_isInSea : GoodIn wsX6_calves (wsV RX6 79 RX6 yX6_isInSea wsX6_isInSea) := goodIn_app (goodIn_of _ (by decide +kernel)) ggX6_calves_X6_isInSea
theorem dX6_calves_0 : decode cX6_calves 0 = .ok (.iconst 1, 1) := by decide +kernel
theorem dX6_calves_1 : decode cX6_calves 1 = .ok (.istore_n 1, 1) := by decide +kernel
theorem dX6_calves_2 : decode cX6_calves 2 = .ok (.bipush 11, 2) := by decide +kernel
theorem dX6_calves_4 : decode cX6_calves 4 = .ok (.istore_n 2, 1) := by decide +kernel
theorem dX6_calves_5 : decode cX6_calves 5 = .ok (.iload_n 2, 1) := by decide +kernel
theorem dX6_calves_6 : decode cX6_calves 6 = .ok (.ifCond .lt 107, 3) := by decide +kernel
theorem dX6_calves_9 : decode cX6_calves 9 = .ok (.iload_n 1, 1) := by decide +kernel
theorem dX6_calves_10 : decode cX6_calves 10 = .ok (.ifCond .eq 103, 3) := by decide +kernel
theorem dX6_calves_13 : decode cX6_calves 13 = .ok (.aload_n 0, 1) := by decide +kernel
theorem dX6_calves_14 : decode cX6_calves 14 = .ok (.iload_n 2, 1) := by decide +kernel
theorem dX6_calves_15 : decode cX6_calves 15 = .ok (.invokevirtual 49, 3) := by decide +kernel
theorem dX6_calves_18 : decode cX6_calves 18 = .ok (.istore_n 3, 1) := by decide +kernel
theorem dX6_calves_19 : decode cX6_calves 19 = .ok (.aload_n 0, 1) := by decide +kernel
theorem dX6_calves_20 : decode cX6_calves 20 = .ok (.iload_n 2, 1) := by decide +kernel
theorem dX6_calves_21 : decode cX6_calves 21 = .ok (.invokevirtual 79, 3) := by decide +kernel
theorem dX6_calves_24 : decode cX6_calves 24 = .ok (.ifCond .eq 34, 3) := by decide +kernel
theorem dX6_calves_27 : decode cX6_calves 27 = .ok (.iload_n 3, 1) := by decide +kernel
theorem dX6_calves_28 : decode cX6_calves 28 = .ok (.ifCond .eq 26, 3) := by decide +kernel
theorem dX6_calves_31 : decode cX6_calves 31 = .ok (.bipush 9, 2) := by decide +kernel
theorem dX6_calves_33 : decode cX6_calves 33 = .ok (.iload_n 3, 1) := by decide +kernel
theorem dX6_calves_34 : decode cX6_calves 34 = .ok (.imul, 1) := by decide +kernel
theorem dX6_calves_35 : decode cX6_calves 35 = .ok (.bipush 10, 2) := by decide +kernel
theorem dX6_calves_37 : decode cX6_calves 37 = .ok (.aload_n 0, 1) := by decide +kernel
theorem dX6_calves_38 : decode cX6_calves 38 = .ok (.getfield 53, 3) := by decide +kernel
theorem dX6_calves_41 : decode cX6_calves 41 = .ok (.aload_n 0, 1) := by decide +kernel
theorem dX6_calves_42 : decode cX6_calves 42 = .ok (.getfield 7, 3) := by decide +kernel
theorem dX6_calves_45 : decode cX6_calves 45 = .ok (.iconst 0, 1) := by decide +kernel
theorem dX6_calves_46 : decode cX6_calves 46 = .ok (.iload_n 2, 1) := by decide +kernel
theorem dX6_calves_47 : decode cX6_calves 47 = .ok (.iadd, 1) := by decide +kernel
theorem dX6_calves_48 : decode cX6_calves 48 = .ok (.iaload, 1) := by decide +kernel
theorem dX6_calves_49 : decode cX6_calves 49 = .ok (.isub, 1) := by decide +kernel
theorem dX6_calves_50 : decode cX6_calves 50 = .ok (.imul, 1) := by decide +kernel
theorem dX6_calves_51 : decode cX6_calves 51 = .ok (.if_icmp .ge 7, 3) := by decide +kernel
theorem dX6_calves_54 : decode cX6_calves 54 = .ok (.iconst 1, 1) := by decide +kernel
theorem dX6_calves_55 : decode cX6_calves 55 = .ok (.goto 4, 3) := by decide +kernel
theorem dX6_calves_58 : decode cX6_calves 58 = .ok (.iconst 0, 1) := by decide +kernel
theorem dX6_calves_59 : decode cX6_calves 59 = .ok (.istore_n 1, 1) := by decide +kernel
theorem dX6_calves_60 : decode cX6_calves 60 = .ok (.iload_n 1, 1) := by decide +kernel
theorem dX6_calves_61 : decode cX6_calves 61 = .ok (.ifCond .eq 46, 3) := by decide +kernel
theorem dX6_calves_64 : decode cX6_calves 64 = .ok (.aload_n 0, 1) := by decide +kernel
theorem dX6_calves_65 : decode cX6_calves 65 = .ok (.getfield 7, 3) := by decide +kernel
theorem dX6_calves_68 : decode cX6_calves 68 = .ok (.bipush 85, 2) := by decide +kernel
theorem dX6_calves_70 : decode cX6_calves 70 = .ok (.dup2, 1) := by decide +kernel
theorem dX6_calves_71 : decode cX6_calves 71 = .ok (.iaload, 1) := by decide +kernel
theorem dX6_calves_72 : decode cX6_calves 72 = .ok (.iload_n 3, 1) := by decide +kernel
theorem dX6_calves_73 : decode cX6_calves 73 = .ok (.iadd, 1) := by decide +kernel
theorem dX6_calves_74 : decode cX6_calves 74 = .ok (.iastore, 1) := by decide +kernel
theorem dX6_calves_75 : decode cX6_calves 75 = .ok (.iconst 0, 1) := by decide +kernel
theorem dX6_calves_76 : decode cX6_calves 76 = .ok (.istore 4, 2) := by decide +kernel
theorem dX6_calves_78 : decode cX6_calves 78 = .ok (.iload 4, 2) := by decide +kernel
theorem dX6_calves_80 : decode cX6_calves 80 = .ok (.bipush 61, 2) := by decide +kernel
theorem dX6_calves_82 : decode cX6_calves 82 = .ok (.if_icmp .ge 25, 3) := by decide +kernel
theorem dX6_calves_85 : decode cX6_calves 85 = .ok (.aload_n 0, 1) := by decide +kernel
theorem dX6_calves_86 : decode cX6_calves 86 = .ok (.getfield 7, 3) := by decide +kernel
theorem dX6_calves_89 : decode cX6_calves 89 = .ok (.bipush 100, 2) := by decide +kernel
theorem dX6_calves_91 : decode cX6_calves 91 = .ok (.bipush 61, 2) := by decide +kernel
theorem dX6_calves_93 : decode cX6_calves 93 = .ok (.iload_n 2, 1) := by decide +kernel
theorem dX6_calves_94 : decode cX6_calves 94 = .ok (.imul, 1) := by decide +kernel
theorem dX6_calves_95 : decode cX6_calves 95 = .ok (.iadd, 1) := by decide +kernel
theorem dX6_calves_96 : decode cX6_calves 96 = .ok (.iload 4, 2) := by decide +kernel
theorem dX6_calves_98 : decode cX6_calves 98 = .ok (.iadd, 1) := by decide +kernel
theorem dX6_calves_99 : decode cX6_calves 99 = .ok (.iconst 0, 1) := by decide +kernel
theorem dX6_calves_100 : decode cX6_calves 100 = .ok (.iastore, 1) := by decide +kernel
theorem dX6_calves_101 : decode cX6_calves 101 = .ok (.iinc 4 1, 3) := by decide +kernel
theorem dX6_calves_104 : decode cX6_calves 104 = .ok (.goto (-26), 3) := by decide +kernel
theorem dX6_calves_107 : decode cX6_calves 107 = .ok (.iinc 2 (-1), 3) := by decide +kernel
theorem dX6_calves_110 : decode cX6_calves 110 = .ok (.goto (-105), 3) := by decide +kernel
theorem dX6_calves_113 : decode cX6_calves 113 = .ok (.return_, 1) := by decide +kernel
set_option maxRecDepth 20000 in
theorem ggX6_ends_X6_iceOf : GoodIn wsX6_ends wsX6_iceOf := goodIn_r _ [6, 1, 7, 8, 9, 10, 11, 12, 13, 14, 15, 16, 17, 18, 19, 20, 21, 22] (by decide +kernel) (by decide +kernel)
set_option maxRecDepth 20000 in
theorem gX6_ends_X6_iceOf : GoodIn wsX6_ends (wsV RX6 49 RX6 yX6_iceOf wsX6_iceOf) := goodIn_app (goodIn_of _ (by decide +kernel)) ggX6_ends_X6_iceOf
theorem dX6_ends_0 : decode cX6_ends 0 = .ok (.iconst (-1), 1) := by decide +kernel
theorem dX6_ends_1 : decode cX6_ends 1 = .ok (.istore_n 1, 1) := by decide +kernel
theorem dX6_ends_2 : decode cX6_ends 2 = .ok (.iconst 0, 1) := by decide +kernel
theorem dX6_ends_3 : decode cX6_ends 3 = .ok (.istore_n 2, 1) := by decide +kernel
theorem dX6_ends_4 : decode cX6_ends 4 = .ok (.iload_n 2, 1) := by decide +kernel
theorem dX6_ends_5 : decode cX6_ends 5 = .ok (.bipush 12, 2) := by decide +kernel
theorem dX6_ends_7 : decode cX6_ends 7 = .ok (.if_icmp .ge 86, 3) := by decide +kernel
theorem dX6_ends_10 : decode cX6_ends 10 = .ok (.aload_n 0, 1) := by decide +kernel
theorem dX6_ends_11 : decode cX6_ends 11 = .ok (.iload_n 2, 1) := by decide +kernel
theorem dX6_ends_12 : decode cX6_ends 12 = .ok (.invokevirtual 49, 3) := by decide +kernel
theorem dX6_ends_15 : decode cX6_ends 15 = .ok (.istore_n 3, 1) := by decide +kernel
theorem dX6_ends_16 : decode cX6_ends 16 = .ok (.aload_n 0, 1) := by decide +kernel
theorem dX6_ends_17 : decode cX6_ends 17 = .ok (.getfield 7, 3) := by decide +kernel
theorem dX6_ends_20 : decode cX6_ends 20 = .ok (.bipush 12, 2) := by decide +kernel
theorem dX6_ends_22 : decode cX6_ends 22 = .ok (.iload_n 2, 1) := by decide +kernel
theorem dX6_ends_23 : decode cX6_ends 23 = .ok (.iadd, 1) := by decide +kernel
theorem dX6_ends_24 : decode cX6_ends 24 = .ok (.iaload, 1) := by decide +kernel
theorem dX6_ends_25 : decode cX6_ends 25 = .ok (.iload_n 3, 1) := by decide +kernel
theorem dX6_ends_26 : decode cX6_ends 26 = .ok (.iconst 3, 1) := by decide +kernel
theorem dX6_ends_27 : decode cX6_ends 27 = .ok (.idiv, 1) := by decide +kernel
theorem dX6_ends_28 : decode cX6_ends 28 = .ok (.isub, 1) := by decide +kernel
theorem dX6_ends_29 : decode cX6_ends 29 = .ok (.istore 4, 2) := by decide +kernel
theorem dX6_ends_31 : decode cX6_ends 31 = .ok (.aload_n 0, 1) := by decide +kernel
theorem dX6_ends_32 : decode cX6_ends 32 = .ok (.getfield 7, 3) := by decide +kernel
theorem dX6_ends_35 : decode cX6_ends 35 = .ok (.iconst 0, 1) := by decide +kernel
theorem dX6_ends_36 : decode cX6_ends 36 = .ok (.iload_n 2, 1) := by decide +kernel
theorem dX6_ends_37 : decode cX6_ends 37 = .ok (.iadd, 1) := by decide +kernel
theorem dX6_ends_38 : decode cX6_ends 38 = .ok (.dup2, 1) := by decide +kernel
theorem dX6_ends_39 : decode cX6_ends 39 = .ok (.iaload, 1) := by decide +kernel
theorem dX6_ends_40 : decode cX6_ends 40 = .ok (.iload 4, 2) := by decide +kernel
theorem dX6_ends_42 : decode cX6_ends 42 = .ok (.aload_n 0, 1) := by decide +kernel
theorem dX6_ends_43 : decode cX6_ends 43 = .ok (.getfield 7, 3) := by decide +kernel
theorem dX6_ends_46 : decode cX6_ends 46 = .ok (.iconst 0, 1) := by decide +kernel
theorem dX6_ends_47 : decode cX6_ends 47 = .ok (.iload_n 2, 1) := by decide +kernel
theorem dX6_ends_48 : decode cX6_ends 48 = .ok (.iadd, 1) := by decide +kernel
theorem dX6_ends_49 : decode cX6_ends 49 = .ok (.iaload, 1) := by decide +kernel
theorem dX6_ends_50 : decode cX6_ends 50 = .ok (.if_icmp .le 7, 3) := by decide +kernel
theorem dX6_ends_53 : decode cX6_ends 53 = .ok (.iconst 1, 1) := by decide +kernel
theorem dX6_ends_54 : decode cX6_ends 54 = .ok (.goto 21, 3) := by decide +kernel
theorem dX6_ends_57 : decode cX6_ends 57 = .ok (.iload 4, 2) := by decide +kernel
theorem dX6_ends_59 : decode cX6_ends 59 = .ok (.aload_n 0, 1) := by decide +kernel
theorem dX6_ends_60 : decode cX6_ends 60 = .ok (.getfield 7, 3) := by decide +kernel
theorem dX6_ends_63 : decode cX6_ends 63 = .ok (.iconst 0, 1) := by decide +kernel
theorem dX6_ends_64 : decode cX6_ends 64 = .ok (.iload_n 2, 1) := by decide +kernel
theorem dX6_ends_65 : decode cX6_ends 65 = .ok (.iadd, 1) := by decide +kernel
theorem dX6_ends_66 : decode cX6_ends 66 = .ok (.iaload, 1) := by decide +kernel
theorem dX6_ends_67 : decode cX6_ends 67 = .ok (.if_icmp .ge 7, 3) := by decide +kernel
theorem dX6_ends_70 : decode cX6_ends 70 = .ok (.iconst (-1), 1) := by decide +kernel
theorem dX6_ends_71 : decode cX6_ends 71 = .ok (.goto 4, 3) := by decide +kernel
theorem dX6_ends_74 : decode cX6_ends 74 = .ok (.iconst 0, 1) := by decide +kernel
theorem dX6_ends_75 : decode cX6_ends 75 = .ok (.iadd, 1) := by decide +kernel
theorem dX6_ends_76 : decode cX6_ends 76 = .ok (.iastore, 1) := by decide +kernel
theorem dX6_ends_77 : decode cX6_ends 77 = .ok (.iload_n 3, 1) := by decide +kernel
theorem dX6_ends_78 : decode cX6_ends 78 = .ok (.ifCond .le 7, 3) := by decide +kernel
theorem dX6_ends_81 : decode cX6_ends 81 = .ok (.iload_n 2, 1) := by decide +kernel
theorem dX6_ends_82 : decode cX6_ends 82 = .ok (.goto 4, 3) := by decide +kernel
theorem dX6_ends_85 : decode cX6_ends 85 = .ok (.iload_n 1, 1) := by decide +kernel
theorem dX6_ends_86 : decode cX6_ends 86 = .ok (.istore_n 1, 1) := by decide +kernel
theorem dX6_ends_87 : decode cX6_ends 87 = .ok (.iinc 2 1, 3) := by decide +kernel
theorem dX6_ends_90 : decode cX6_ends 90 = .ok (.goto (-86), 3) := by decide +kernel
theorem dX6_ends_93 : decode cX6_ends 93 = .ok (.aload_n 0, 1) := by decide +kernel
theorem dX6_ends_94 : decode cX6_ends 94 = .ok (.getfield 7, 3) := by decide +kernel
theorem dX6_ends_97 : decode cX6_ends 97 = .ok (.sipush 900, 3) := by decide +kernel
theorem dX6_ends_100 : decode cX6_ends 100 = .ok (.aload_n 0, 1) := by decide +kernel
theorem dX6_ends_101 : decode cX6_ends 101 = .ok (.getfield 7, 3) := by decide +kernel
theorem dX6_ends_104 : decode cX6_ends 104 = .ok (.bipush 89, 2) := by decide +kernel
theorem dX6_ends_106 : decode cX6_ends 106 = .ok (.iaload, 1) := by decide +kernel
theorem dX6_ends_107 : decode cX6_ends 107 = .ok (.iadd, 1) := by decide +kernel
theorem dX6_ends_108 : decode cX6_ends 108 = .ok (.iload_n 1, 1) := by decide +kernel
theorem dX6_ends_109 : decode cX6_ends 109 = .ok (.iastore, 1) := by decide +kernel
theorem dX6_ends_110 : decode cX6_ends 110 = .ok (.iload_n 1, 1) := by decide +kernel
theorem dX6_ends_111 : decode cX6_ends 111 = .ok (.iconst (-1), 1) := by decide +kernel
theorem dX6_ends_112 : decode cX6_ends 112 = .ok (.if_icmp .eq 16, 3) := by decide +kernel
theorem dX6_ends_115 : decode cX6_ends 115 = .ok (.aload_n 0, 1) := by decide +kernel
theorem dX6_ends_116 : decode cX6_ends 116 = .ok (.getfield 7, 3) := by decide +kernel
theorem dX6_ends_119 : decode cX6_ends 119 = .ok (.bipush 36, 2) := by decide +kernel
theorem dX6_ends_121 : decode cX6_ends 121 = .ok (.iload_n 1, 1) := by decide +kernel
theorem dX6_ends_122 : decode cX6_ends 122 = .ok (.iadd, 1) := by decide +kernel
theorem dX6_ends_123 : decode cX6_ends 123 = .ok (.dup2, 1) := by decide +kernel
theorem dX6_ends_124 : decode cX6_ends 124 = .ok (.iaload, 1) := by decide +kernel
theorem dX6_ends_125 : decode cX6_ends 125 = .ok (.iconst 1, 1) := by decide +kernel
theorem dX6_ends_126 : decode cX6_ends 126 = .ok (.iadd, 1) := by decide +kernel
theorem dX6_ends_127 : decode cX6_ends 127 = .ok (.iastore, 1) := by decide +kernel
theorem dX6_ends_128 : decode cX6_ends 128 = .ok (.return_, 1) := by decide +kernel
set_option maxRecDepth 20000 in
theorem ggX6_passes_X6_snows : GoodIn wsX6_passes wsX6_snows := goodIn_r _ [6, 7, 1, 8, 9, 10, 11, 12, 5, 13, 14, 15, 16, 17, 18, 19, 20, 21, 22, 61, 62, 63, 64, 65, 66, 67, 68, 69, 70, 71, 72, 73, 74, 75, 76] (by decide +kernel) (by decide +kernel)
set_option maxRecDepth 20000 in
theorem gX6_passes_X6_snows : GoodIn wsX6_passes (wsV RX6 96 RX6 yX6_snows wsX6_snows) := goodIn_app (goodIn_of _ (by decide +kernel)) ggX6_passes_X6_snows
set_option maxRecDepth 20000 in
theorem ggX6_passes_X6_flows : GoodIn wsX6_passes wsX6_flows := goodIn_r _ [26, 1, 27, 14, 15, 16, 5, 17, 10, 11, 12, 13, 28, 29, 30, 31, 32, 33, 61, 62, 63, 64, 65, 66, 67, 68, 69, 70, 71, 72, 73, 74, 75, 76] (by decide +kernel) (by decide +kernel)
set_option maxRecDepth 20000 in
theorem gX6_passes_X6_flows : GoodIn wsX6_passes (wsV RX6 99 RX6 yX6_flows wsX6_flows) := goodIn_app (goodIn_of _ (by decide +kernel)) ggX6_passes_X6_flows
set_option maxRecDepth 20000 in
theorem ggX6_passes_X6_runs : GoodIn wsX6_passes wsX6_runs := goodIn_r _ [37, 1, 18, 19, 20, 5, 21, 22, 38, 39, 40, 41, 10, 11, 12, 13, 61, 62, 63, 64, 65, 66, 67, 68, 69, 70, 71, 72, 73, 74, 75, 76] (by decide +kernel) (by decide +kernel)
set_option maxRecDepth 20000 in
theorem gX6_passes_X6_runs : GoodIn wsX6_passes (wsV RX6 101 RX6 yX6_runs wsX6_runs) := goodIn_app (goodIn_of _ (by decide +kernel)) ggX6_passes_X6_runs
set_option maxRecDepth 20000 in
theorem ggX6_passes_X6_breaks : GoodIn wsX6_passes wsX6_breaks := goodIn_r _ [45, 1, 46, 47, 48, 49, 50, 51, 5, 52, 10, 11, 12, 13, 61, 62, 63, 64, 65, 66, 67, 68, 69, 70, 71, 72, 73, 74, 75, 76] (by decide +kernel) (by decide +kernel)
set_option maxRecDepth 20000 in
theorem gX6_passes_X6_breaks : GoodIn wsX6_passes (wsV RX6 104 RX6 yX6_breaks wsX6_breaks) := goodIn_app (goodIn_of _ (by decide +kernel)) ggX6_passes_X6_breaks
set_option maxRecDepth 20000 in
theorem ggX6_passes_X6_calves : GoodIn wsX6_passes wsX6_calves := goodIn_r _ [56, 22, 1, 10, 11, 12, 5, 13, 18, 19, 20, 21, 61, 62, 63, 64, 65, 66, 67, 68, 69, 70, 71, 72, 73, 74, 75, 76] (by decide +kernel) (by decide +kernel)
set_option maxRecDepth 20000 in
theorem gX6_passes_X6_calves : GoodIn wsX6_passes (wsV RX6 107 RX6 yX6_calves wsX6_calves) := goodIn_app (goodIn_of _ (by decide +kernel)) ggX6_passes_X6_calves
set_option maxRecDepth 20000 in
theorem ggX6_passes_X6_ends : GoodIn wsX6_passes wsX6_ends := goodIn_r _ [60, 1, 10, 11, 12, 5, 13, 61, 62, 63, 64, 65, 66, 67, 68, 69, 70, 71, 72, 73, 74, 75, 76] (by decide +kernel) (by decide +kernel)
set_option maxRecDepth 20000 in
theorem gX6_passes_X6_ends : GoodIn wsX6_passes (wsV RX6 110 RX6 yX6_ends wsX6_ends) := goodIn_app (goodIn_of _ (by decide +kernel)) ggX6_passes_X6_ends
theorem dX6_passes_0 : decode cX6_passes 0 = .ok (.iconst 0, 1) := by decide +kernel
theorem dX6_passes_1 : decode cX6_passes 1 = .ok (.istore_n 2, 1) := by decide +kernel
theorem dX6_passes_2 : decode cX6_passes 2 = .ok (.iload_n 2, 1) := by decide +kernel
theorem dX6_passes_3 : decode cX6_passes 3 = .ok (.iload_n 1, 1) := by decide +kernel
theorem dX6_passes_4 : decode cX6_passes 4 = .ok (.if_icmp .ge 44, 3) := by decide +kernel
theorem dX6_passes_7 : decode cX6_passes 7 = .ok (.aload_n 0, 1) := by decide +kernel
theorem dX6_passes_8 : decode cX6_passes 8 = .ok (.getfield 7, 3) := by decide +kernel
theorem dX6_passes_11 : decode cX6_passes 11 = .ok (.bipush 89, 2) := by decide +kernel
theorem dX6_passes_13 : decode cX6_passes 13 = .ok (.dup2, 1) := by decide +kernel
theorem dX6_passes_14 : decode cX6_passes 14 = .ok (.iaload, 1) := by decide +kernel
theorem dX6_passes_15 : decode cX6_passes 15 = .ok (.iconst 1, 1) := by decide +kernel
theorem dX6_passes_16 : decode cX6_passes 16 = .ok (.iadd, 1) := by decide +kernel
theorem dX6_passes_17 : decode cX6_passes 17 = .ok (.iastore, 1) := by decide +kernel
theorem dX6_passes_18 : decode cX6_passes 18 = .ok (.aload_n 0, 1) := by decide +kernel
theorem dX6_passes_19 : decode cX6_passes 19 = .ok (.invokevirtual 96, 3) := by decide +kernel
theorem dX6_passes_22 : decode cX6_passes 22 = .ok (.aload_n 0, 1) := by decide +kernel
theorem dX6_passes_23 : decode cX6_passes 23 = .ok (.invokevirtual 99, 3) := by decide +kernel
theorem dX6_passes_26 : decode cX6_passes 26 = .ok (.aload_n 0, 1) := by decide +kernel
theorem dX6_passes_27 : decode cX6_passes 27 = .ok (.invokevirtual 101, 3) := by decide +kernel
theorem dX6_passes_30 : decode cX6_passes 30 = .ok (.aload_n 0, 1) := by decide +kernel
theorem dX6_passes_31 : decode cX6_passes 31 = .ok (.invokevirtual 104, 3) := by decide +kernel
theorem dX6_passes_34 : decode cX6_passes 34 = .ok (.aload_n 0, 1) := by decide +kernel
theorem dX6_passes_35 : decode cX6_passes 35 = .ok (.invokevirtual 107, 3) := by decide +kernel
theorem dX6_passes_38 : decode cX6_passes 38 = .ok (.aload_n 0, 1) := by decide +kernel
theorem dX6_passes_39 : decode cX6_passes 39 = .ok (.invokevirtual 110, 3) := by decide +kernel
theorem dX6_passes_42 : decode cX6_passes 42 = .ok (.iinc 2 1, 3) := by decide +kernel
theorem dX6_passes_45 : decode cX6_passes 45 = .ok (.goto (-43), 3) := by decide +kernel
theorem dX6_passes_48 : decode cX6_passes 48 = .ok (.return_, 1) := by decide +kernel
set_option maxRecDepth 20000 in
theorem ggX6_pass_X6_in : GoodIn wsX6_pass wsX6_in := goodIn_r _ [9] (by decide +kernel) (by decide +kernel)
set_option maxRecDepth 20000 in
theorem gX6_pass_X6_in : GoodIn wsX6_pass (va_wsS RX6 45 yX6_in wsX6_in) := goodIn_app (goodIn_of _ (by decide +kernel)) ggX6_pass_X6_in
set_option maxRecDepth 20000 in
theorem ggX6_pass_X6_asked_ : GoodIn wsX6_pass wsX6_asked_ := goodIn_r _ [13, 14, 81, 82, 83, 84, 85, 86, 87, 88, 89, 90, 91, 92, 93, 94, 95, 96] (by decide +kernel) (by decide +kernel)
set_option maxRecDepth 20000 in
theorem gX6_pass_X6_asked_ : GoodIn wsX6_pass (wsV RX6 113 RX6 yX6_asked_ wsX6_asked_) := goodIn_app (goodIn_of _ (by decide +kernel)) ggX6_pass_X6_asked_
set_option maxRecDepth 20000 in
theorem ggX6_pass_X6_passes : GoodIn wsX6_pass wsX6_passes := goodIn_r _ [18, 1, 19, 20, 21, 8, 22, 23, 24, 25, 26, 27, 28, 29, 30, 31, 32, 33, 34, 35, 36, 37, 38, 39, 40, 41, 42, 43, 44, 45, 46, 47, 48, 49, 50, 51, 52, 53, 54, 55, 56, 57, 58, 59, 60, 61, 62, 63, 64, 65, 66, 67, 68, 69, 70, 71, 72, 73, 74, 75, 76, 81, 82, 83, 84, 85, 86, 87, 88, 89, 90, 91, 92, 93, 94, 95, 96] (by decide +kernel) (by decide +kernel)
set_option maxRecDepth 20000 in
theorem gX6_pass_X6_passes : GoodIn wsX6_pass (wsV RX6 116 RX6 yX6_passes wsX6_passes) := goodIn_app (goodIn_of _ (by decide +kernel)) ggX6_pass_X6_passes
set_option maxRecDepth 20000 in
theorem ggX6_pass_X6_allIce : GoodIn wsX6_pass wsX6_allIce := goodIn_r _ [80, 26, 27, 28, 8, 29, 1, 81, 82, 83, 84, 85, 86, 87, 88, 89, 90, 91, 92, 93, 94, 95, 96] (by decide +kernel) (by decide +kernel)
set_option maxRecDepth 20000 in
theorem gX6_pass_X6_allIce : GoodIn wsX6_pass (wsV RX6 123 RX6 yX6_allIce wsX6_allIce) := goodIn_app (goodIn_of _ (by decide +kernel)) ggX6_pass_X6_allIce
theorem dX6_pass_0 : decode cX6_pass 0 = .ok (.iload_n 1, 1) := by decide +kernel
theorem dX6_pass_1 : decode cX6_pass 1 = .ok (.iconst 1, 1) := by decide +kernel
theorem dX6_pass_2 : decode cX6_pass 2 = .ok (.bipush 20, 2) := by decide +kernel
theorem dX6_pass_4 : decode cX6_pass 4 = .ok (.invokestatic 45, 3) := by decide +kernel
theorem dX6_pass_7 : decode cX6_pass 7 = .ok (.istore_n 2, 1) := by decide +kernel
theorem dX6_pass_8 : decode cX6_pass 8 = .ok (.aload_n 0, 1) := by decide +kernel
theorem dX6_pass_9 : decode cX6_pass 9 = .ok (.iload_n 2, 1) := by decide +kernel
theorem dX6_pass_10 : decode cX6_pass 10 = .ok (.iload_n 2, 1) := by decide +kernel
theorem dX6_pass_11 : decode cX6_pass 11 = .ok (.ifCond .eq 21, 3) := by decide +kernel
theorem dX6_pass_14 : decode cX6_pass 14 = .ok (.aload_n 0, 1) := by decide +kernel
theorem dX6_pass_15 : decode cX6_pass 15 = .ok (.getfield 7, 3) := by decide +kernel
theorem dX6_pass_18 : decode cX6_pass 18 = .ok (.bipush 89, 2) := by decide +kernel
theorem dX6_pass_20 : decode cX6_pass 20 = .ok (.iaload, 1) := by decide +kernel
theorem dX6_pass_21 : decode cX6_pass 21 = .ok (.iload_n 1, 1) := by decide +kernel
theorem dX6_pass_22 : decode cX6_pass 22 = .ok (.iadd, 1) := by decide +kernel
theorem dX6_pass_23 : decode cX6_pass 23 = .ok (.bipush 60, 2) := by decide +kernel
theorem dX6_pass_25 : decode cX6_pass 25 = .ok (.if_icmp .gt 7, 3) := by decide +kernel
theorem dX6_pass_28 : decode cX6_pass 28 = .ok (.iconst 1, 1) := by decide +kernel
theorem dX6_pass_29 : decode cX6_pass 29 = .ok (.goto 4, 3) := by decide +kernel
theorem dX6_pass_32 : decode cX6_pass 32 = .ok (.iconst 0, 1) := by decide +kernel
theorem dX6_pass_33 : decode cX6_pass 33 = .ok (.invokevirtual 113, 3) := by decide +kernel
theorem dX6_pass_36 : decode cX6_pass 36 = .ok (.ifCond .ne 5, 3) := by decide +kernel
theorem dX6_pass_39 : decode cX6_pass 39 = .ok (.iconst 0, 1) := by decide +kernel
theorem dX6_pass_40 : decode cX6_pass 40 = .ok (.ireturn, 1) := by decide +kernel
theorem dX6_pass_41 : decode cX6_pass 41 = .ok (.iconst 0, 1) := by decide +kernel
theorem dX6_pass_42 : decode cX6_pass 42 = .ok (.istore_n 3, 1) := by decide +kernel
theorem dX6_pass_43 : decode cX6_pass 43 = .ok (.iload_n 3, 1) := by decide +kernel
theorem dX6_pass_44 : decode cX6_pass 44 = .ok (.iload_n 1, 1) := by decide +kernel
theorem dX6_pass_45 : decode cX6_pass 45 = .ok (.if_icmp .ge 93, 3) := by decide +kernel
theorem dX6_pass_48 : decode cX6_pass 48 = .ok (.aload_n 0, 1) := by decide +kernel
theorem dX6_pass_49 : decode cX6_pass 49 = .ok (.iconst 1, 1) := by decide +kernel
theorem dX6_pass_50 : decode cX6_pass 50 = .ok (.invokevirtual 116, 3) := by decide +kernel
theorem dX6_pass_53 : decode cX6_pass 53 = .ok (.iconst 0, 1) := by decide +kernel
theorem dX6_pass_54 : decode cX6_pass 54 = .ok (.istore 4, 2) := by decide +kernel
theorem dX6_pass_56 : decode cX6_pass 56 = .ok (.iload 4, 2) := by decide +kernel
theorem dX6_pass_58 : decode cX6_pass 58 = .ok (.aload_n 0, 1) := by decide +kernel
theorem dX6_pass_59 : decode cX6_pass 59 = .ok (.getfield 120, 3) := by decide +kernel
theorem dX6_pass_62 : decode cX6_pass 62 = .ok (.if_icmp .ge 70, 3) := by decide +kernel
theorem dX6_pass_65 : decode cX6_pass 65 = .ok (.aload_n 0, 1) := by decide +kernel
theorem dX6_pass_66 : decode cX6_pass 66 = .ok (.invokevirtual 123, 3) := by decide +kernel
theorem dX6_pass_69 : decode cX6_pass 69 = .ok (.aload_n 0, 1) := by decide +kernel
theorem dX6_pass_70 : decode cX6_pass 70 = .ok (.getfield 32, 3) := by decide +kernel
theorem dX6_pass_73 : decode cX6_pass 73 = .ok (.iload 4, 2) := by decide +kernel
theorem dX6_pass_75 : decode cX6_pass 75 = .ok (.iaload, 1) := by decide +kernel
theorem dX6_pass_76 : decode cX6_pass 76 = .ok (.isub, 1) := by decide +kernel
theorem dX6_pass_77 : decode cX6_pass 77 = .ok (.istore 5, 2) := by decide +kernel
theorem dX6_pass_79 : decode cX6_pass 79 = .ok (.aload_n 0, 1) := by decide +kernel
theorem dX6_pass_80 : decode cX6_pass 80 = .ok (.getfield 35, 3) := by decide +kernel
theorem dX6_pass_83 : decode cX6_pass 83 = .ok (.iload 4, 2) := by decide +kernel
theorem dX6_pass_85 : decode cX6_pass 85 = .ok (.aload_n 0, 1) := by decide +kernel
theorem dX6_pass_86 : decode cX6_pass 86 = .ok (.getfield 29, 3) := by decide +kernel
theorem dX6_pass_89 : decode cX6_pass 89 = .ok (.iload 4, 2) := by decide +kernel
theorem dX6_pass_91 : decode cX6_pass 91 = .ok (.iaload, 1) := by decide +kernel
theorem dX6_pass_92 : decode cX6_pass 92 = .ok (.aload_n 0, 1) := by decide +kernel
theorem dX6_pass_93 : decode cX6_pass 93 = .ok (.getfield 7, 3) := by decide +kernel
theorem dX6_pass_96 : decode cX6_pass 96 = .ok (.bipush 89, 2) := by decide +kernel
theorem dX6_pass_98 : decode cX6_pass 98 = .ok (.iaload, 1) := by decide +kernel
theorem dX6_pass_99 : decode cX6_pass 99 = .ok (.if_icmp .ne 19, 3) := by decide +kernel
theorem dX6_pass_102 : decode cX6_pass 102 = .ok (.iload 5, 2) := by decide +kernel
theorem dX6_pass_104 : decode cX6_pass 104 = .ok (.ifCond .ge 9, 3) := by decide +kernel
theorem dX6_pass_107 : decode cX6_pass 107 = .ok (.iload 5, 2) := by decide +kernel
theorem dX6_pass_109 : decode cX6_pass 109 = .ok (.ineg, 1) := by decide +kernel
theorem dX6_pass_110 : decode cX6_pass 110 = .ok (.goto 15, 3) := by decide +kernel
theorem dX6_pass_113 : decode cX6_pass 113 = .ok (.iload 5, 2) := by decide +kernel
theorem dX6_pass_115 : decode cX6_pass 115 = .ok (.goto 10, 3) := by decide +kernel
theorem dX6_pass_118 : decode cX6_pass 118 = .ok (.aload_n 0, 1) := by decide +kernel
theorem dX6_pass_119 : decode cX6_pass 119 = .ok (.getfield 35, 3) := by decide +kernel
theorem dX6_pass_122 : decode cX6_pass 122 = .ok (.iload 4, 2) := by decide +kernel
theorem dX6_pass_124 : decode cX6_pass 124 = .ok (.iaload, 1) := by decide +kernel
theorem dX6_pass_125 : decode cX6_pass 125 = .ok (.iastore, 1) := by decide +kernel
theorem dX6_pass_126 : decode cX6_pass 126 = .ok (.iinc 4 1, 3) := by decide +kernel
theorem dX6_pass_129 : decode cX6_pass 129 = .ok (.goto (-73), 3) := by decide +kernel
theorem dX6_pass_132 : decode cX6_pass 132 = .ok (.iinc 3 1, 3) := by decide +kernel
theorem dX6_pass_135 : decode cX6_pass 135 = .ok (.goto (-92), 3) := by decide +kernel
theorem dX6_pass_138 : decode cX6_pass 138 = .ok (.aload_n 0, 1) := by decide +kernel
theorem dX6_pass_139 : decode cX6_pass 139 = .ok (.getfield 7, 3) := by decide +kernel
theorem dX6_pass_142 : decode cX6_pass 142 = .ok (.bipush 89, 2) := by decide +kernel
theorem dX6_pass_144 : decode cX6_pass 144 = .ok (.iaload, 1) := by decide +kernel
theorem dX6_pass_145 : decode cX6_pass 145 = .ok (.ireturn, 1) := by decide +kernel
set_option maxRecDepth 20000 in
theorem ggX6_tells_X6_iceOf : GoodIn wsX6_tells wsX6_iceOf := goodIn_r _ [6, 1, 20, 21, 22, 23, 24, 25, 26, 27, 28, 29, 30, 31, 32, 33, 34, 35] (by decide +kernel) (by decide +kernel)
set_option maxRecDepth 20000 in
theorem gX6_tells_X6_iceOf : GoodIn wsX6_tells (wsV RX6 49 RX6 yX6_iceOf wsX6_iceOf) := goodIn_app (goodIn_of _ (by decide +kernel)) ggX6_tells_X6_iceOf
set_option maxRecDepth 20000 in
theorem ggX6_tells_X6_surfaceOf : GoodIn wsX6_tells wsX6_surfaceOf := goodIn_r _ [10, 1, 2, 3, 4, 5, 6, 20, 21, 22, 23, 24, 25, 26, 27, 28, 29, 30, 31, 32, 33, 34, 35] (by decide +kernel) (by decide +kernel)
set_option maxRecDepth 20000 in
theorem gX6_tells_X6_surfaceOf : GoodIn wsX6_tells (wsV RX6 76 RX6 yX6_surfaceOf wsX6_surfaceOf) := goodIn_app (goodIn_of _ (by decide +kernel)) ggX6_tells_X6_surfaceOf
set_option maxRecDepth 20000 in
theorem ggX6_tells_X6_isInSea : GoodIn wsX6_tells wsX6_isInSea := goodIn_r _ [14, 1, 15, 20, 21, 22, 23, 24, 25, 26, 27, 28, 29, 30, 31, 32, 33, 34, 35] (by decide +kernel) (by decide +kernel)
set_option maxRecDepth 20000 in
theorem gX6_tells_X6_isInSea : GoodIn wsX6_tells (wsV RX6 79 RX6 yX6_isInSea wsX6_isInSea) := goodIn_app (goodIn_of _ (by decide +kernel)) ggX6_tells_X6_isInSea
set_option maxRecDepth 20000 in
theorem ggX6_tells_X6_potentialOf : GoodIn wsX6_tells wsX6_potentialOf := goodIn_r _ [19, 1, 2, 3, 4, 5, 6, 20, 21, 22, 23, 24, 25, 26, 27, 28, 29, 30, 31, 32, 33, 34, 35] (by decide +kernel) (by decide +kernel)
set_option maxRecDepth 20000 in
theorem gX6_tells_X6_potentialOf : GoodIn wsX6_tells (wsV RX6 90 RX6 yX6_potentialOf wsX6_potentialOf) := goodIn_app (goodIn_of _ (by decide +kernel)) ggX6_tells_X6_potentialOf
theorem dX6_tells_0 : decode cX6_tells 0 = .ok (.aload_n 0, 1) := by decide +kernel
theorem dX6_tells_1 : decode cX6_tells 1 = .ok (.getfield 7, 3) := by decide +kernel
theorem dX6_tells_4 : decode cX6_tells 4 = .ok (.bipush 60, 2) := by decide +kernel
theorem dX6_tells_6 : decode cX6_tells 6 = .ok (.iload_n 1, 1) := by decide +kernel
theorem dX6_tells_7 : decode cX6_tells 7 = .ok (.iadd, 1) := by decide +kernel
theorem dX6_tells_8 : decode cX6_tells 8 = .ok (.iaload, 1) := by decide +kernel
theorem dX6_tells_9 : decode cX6_tells 9 = .ok (.aload_n 0, 1) := by decide +kernel
theorem dX6_tells_10 : decode cX6_tells 10 = .ok (.getfield 7, 3) := by decide +kernel
theorem dX6_tells_13 : decode cX6_tells 13 = .ok (.bipush 72, 2) := by decide +kernel
theorem dX6_tells_15 : decode cX6_tells 15 = .ok (.iload_n 1, 1) := by decide +kernel
theorem dX6_tells_16 : decode cX6_tells 16 = .ok (.iadd, 1) := by decide +kernel
theorem dX6_tells_17 : decode cX6_tells 17 = .ok (.iaload, 1) := by decide +kernel
theorem dX6_tells_18 : decode cX6_tells 18 = .ok (.isub, 1) := by decide +kernel
theorem dX6_tells_19 : decode cX6_tells 19 = .ok (.istore_n 3, 1) := by decide +kernel
theorem dX6_tells_20 : decode cX6_tells 20 = .ok (.iload_n 3, 1) := by decide +kernel
theorem dX6_tells_21 : decode cX6_tells 21 = .ok (.iconst 5, 1) := by decide +kernel
theorem dX6_tells_22 : decode cX6_tells 22 = .ok (.if_icmp .ge 9, 3) := by decide +kernel
theorem dX6_tells_25 : decode cX6_tells 25 = .ok (.iload_n 3, 1) := by decide +kernel
theorem dX6_tells_26 : decode cX6_tells 26 = .ok (.bipush (-5), 2) := by decide +kernel
theorem dX6_tells_28 : decode cX6_tells 28 = .ok (.if_icmp .gt 7, 3) := by decide +kernel
theorem dX6_tells_31 : decode cX6_tells 31 = .ok (.iconst 1, 1) := by decide +kernel
theorem dX6_tells_32 : decode cX6_tells 32 = .ok (.goto 4, 3) := by decide +kernel
theorem dX6_tells_35 : decode cX6_tells 35 = .ok (.iconst 0, 1) := by decide +kernel
theorem dX6_tells_36 : decode cX6_tells 36 = .ok (.istore 4, 2) := by decide +kernel
theorem dX6_tells_38 : decode cX6_tells 38 = .ok (.iload_n 2, 1) := by decide +kernel
theorem dX6_tells_39 : decode cX6_tells 39 = .ok (.ifCond .ne 14, 3) := by decide +kernel
theorem dX6_tells_42 : decode cX6_tells 42 = .ok (.aload_n 0, 1) := by decide +kernel
theorem dX6_tells_43 : decode cX6_tells 43 = .ok (.getfield 7, 3) := by decide +kernel
theorem dX6_tells_46 : decode cX6_tells 46 = .ok (.iconst 0, 1) := by decide +kernel
theorem dX6_tells_47 : decode cX6_tells 47 = .ok (.iload_n 1, 1) := by decide +kernel
theorem dX6_tells_48 : decode cX6_tells 48 = .ok (.iadd, 1) := by decide +kernel
theorem dX6_tells_49 : decode cX6_tells 49 = .ok (.iaload, 1) := by decide +kernel
theorem dX6_tells_50 : decode cX6_tells 50 = .ok (.goto 158, 3) := by decide +kernel
theorem dX6_tells_53 : decode cX6_tells 53 = .ok (.iload_n 2, 1) := by decide +kernel
theorem dX6_tells_54 : decode cX6_tells 54 = .ok (.iconst 1, 1) := by decide +kernel
theorem dX6_tells_55 : decode cX6_tells 55 = .ok (.if_icmp .ne 11, 3) := by decide +kernel
theorem dX6_tells_58 : decode cX6_tells 58 = .ok (.aload_n 0, 1) := by decide +kernel
theorem dX6_tells_59 : decode cX6_tells 59 = .ok (.iload_n 1, 1) := by decide +kernel
theorem dX6_tells_60 : decode cX6_tells 60 = .ok (.invokevirtual 49, 3) := by decide +kernel
theorem dX6_tells_63 : decode cX6_tells 63 = .ok (.goto 145, 3) := by decide +kernel
theorem dX6_tells_66 : decode cX6_tells 66 = .ok (.iload_n 2, 1) := by decide +kernel
theorem dX6_tells_67 : decode cX6_tells 67 = .ok (.iconst 2, 1) := by decide +kernel
theorem dX6_tells_68 : decode cX6_tells 68 = .ok (.if_icmp .ne 15, 3) := by decide +kernel
theorem dX6_tells_71 : decode cX6_tells 71 = .ok (.aload_n 0, 1) := by decide +kernel
theorem dX6_tells_72 : decode cX6_tells 72 = .ok (.getfield 7, 3) := by decide +kernel
theorem dX6_tells_75 : decode cX6_tells 75 = .ok (.bipush 24, 2) := by decide +kernel
theorem dX6_tells_77 : decode cX6_tells 77 = .ok (.iload_n 1, 1) := by decide +kernel
theorem dX6_tells_78 : decode cX6_tells 78 = .ok (.iadd, 1) := by decide +kernel
theorem dX6_tells_79 : decode cX6_tells 79 = .ok (.iaload, 1) := by decide +kernel
theorem dX6_tells_80 : decode cX6_tells 80 = .ok (.goto 128, 3) := by decide +kernel
theorem dX6_tells_83 : decode cX6_tells 83 = .ok (.iload_n 2, 1) := by decide +kernel
theorem dX6_tells_84 : decode cX6_tells 84 = .ok (.iconst 3, 1) := by decide +kernel
theorem dX6_tells_85 : decode cX6_tells 85 = .ok (.if_icmp .ne 11, 3) := by decide +kernel
theorem dX6_tells_88 : decode cX6_tells 88 = .ok (.aload_n 0, 1) := by decide +kernel
theorem dX6_tells_89 : decode cX6_tells 89 = .ok (.iload_n 1, 1) := by decide +kernel
theorem dX6_tells_90 : decode cX6_tells 90 = .ok (.invokevirtual 76, 3) := by decide +kernel
theorem dX6_tells_93 : decode cX6_tells 93 = .ok (.goto 115, 3) := by decide +kernel
theorem dX6_tells_96 : decode cX6_tells 96 = .ok (.iload_n 2, 1) := by decide +kernel
theorem dX6_tells_97 : decode cX6_tells 97 = .ok (.iconst 4, 1) := by decide +kernel
theorem dX6_tells_98 : decode cX6_tells 98 = .ok (.if_icmp .ne 15, 3) := by decide +kernel
theorem dX6_tells_101 : decode cX6_tells 101 = .ok (.aload_n 0, 1) := by decide +kernel
theorem dX6_tells_102 : decode cX6_tells 102 = .ok (.getfield 7, 3) := by decide +kernel
theorem dX6_tells_105 : decode cX6_tells 105 = .ok (.bipush 36, 2) := by decide +kernel
theorem dX6_tells_107 : decode cX6_tells 107 = .ok (.iload_n 1, 1) := by decide +kernel
theorem dX6_tells_108 : decode cX6_tells 108 = .ok (.iadd, 1) := by decide +kernel
theorem dX6_tells_109 : decode cX6_tells 109 = .ok (.iaload, 1) := by decide +kernel
theorem dX6_tells_110 : decode cX6_tells 110 = .ok (.goto 98, 3) := by decide +kernel
theorem dX6_tells_113 : decode cX6_tells 113 = .ok (.iload_n 2, 1) := by decide +kernel
theorem dX6_tells_114 : decode cX6_tells 114 = .ok (.iconst 5, 1) := by decide +kernel
theorem dX6_tells_115 : decode cX6_tells 115 = .ok (.if_icmp .ne 16, 3) := by decide +kernel
theorem dX6_tells_118 : decode cX6_tells 118 = .ok (.iload 4, 2) := by decide +kernel
theorem dX6_tells_120 : decode cX6_tells 120 = .ok (.ifCond .eq 7, 3) := by decide +kernel
theorem dX6_tells_123 : decode cX6_tells 123 = .ok (.iconst 1, 1) := by decide +kernel
theorem dX6_tells_124 : decode cX6_tells 124 = .ok (.goto 84, 3) := by decide +kernel
theorem dX6_tells_127 : decode cX6_tells 127 = .ok (.iconst 0, 1) := by decide +kernel
theorem dX6_tells_128 : decode cX6_tells 128 = .ok (.goto 80, 3) := by decide +kernel
theorem dX6_tells_131 : decode cX6_tells 131 = .ok (.iload_n 2, 1) := by decide +kernel
theorem dX6_tells_132 : decode cX6_tells 132 = .ok (.bipush 6, 2) := by decide +kernel
theorem dX6_tells_134 : decode cX6_tells 134 = .ok (.if_icmp .ne 29, 3) := by decide +kernel
theorem dX6_tells_137 : decode cX6_tells 137 = .ok (.iload 4, 2) := by decide +kernel
theorem dX6_tells_139 : decode cX6_tells 139 = .ok (.ifCond .eq 20, 3) := by decide +kernel
theorem dX6_tells_142 : decode cX6_tells 142 = .ok (.aload_n 0, 1) := by decide +kernel
theorem dX6_tells_143 : decode cX6_tells 143 = .ok (.getfield 7, 3) := by decide +kernel
theorem dX6_tells_146 : decode cX6_tells 146 = .ok (.bipush 48, 2) := by decide +kernel
theorem dX6_tells_148 : decode cX6_tells 148 = .ok (.iload_n 1, 1) := by decide +kernel
theorem dX6_tells_149 : decode cX6_tells 149 = .ok (.iadd, 1) := by decide +kernel
theorem dX6_tells_150 : decode cX6_tells 150 = .ok (.iaload, 1) := by decide +kernel
theorem dX6_tells_151 : decode cX6_tells 151 = .ok (.iconst 3, 1) := by decide +kernel
theorem dX6_tells_152 : decode cX6_tells 152 = .ok (.if_icmp .lt 7, 3) := by decide +kernel
theorem dX6_tells_155 : decode cX6_tells 155 = .ok (.iconst 1, 1) := by decide +kernel
theorem dX6_tells_156 : decode cX6_tells 156 = .ok (.goto 52, 3) := by decide +kernel
theorem dX6_tells_159 : decode cX6_tells 159 = .ok (.iconst 0, 1) := by decide +kernel
theorem dX6_tells_160 : decode cX6_tells 160 = .ok (.goto 48, 3) := by decide +kernel
theorem dX6_tells_163 : decode cX6_tells 163 = .ok (.iload_n 2, 1) := by decide +kernel
theorem dX6_tells_164 : decode cX6_tells 164 = .ok (.bipush 7, 2) := by decide +kernel
theorem dX6_tells_166 : decode cX6_tells 166 = .ok (.if_icmp .ne 19, 3) := by decide +kernel
theorem dX6_tells_169 : decode cX6_tells 169 = .ok (.aload_n 0, 1) := by decide +kernel
theorem dX6_tells_170 : decode cX6_tells 170 = .ok (.iload_n 1, 1) := by decide +kernel
theorem dX6_tells_171 : decode cX6_tells 171 = .ok (.invokevirtual 79, 3) := by decide +kernel
theorem dX6_tells_174 : decode cX6_tells 174 = .ok (.ifCond .eq 7, 3) := by decide +kernel
theorem dX6_tells_177 : decode cX6_tells 177 = .ok (.iconst 1, 1) := by decide +kernel
theorem dX6_tells_178 : decode cX6_tells 178 = .ok (.goto 30, 3) := by decide +kernel
theorem dX6_tells_181 : decode cX6_tells 181 = .ok (.iconst 0, 1) := by decide +kernel
theorem dX6_tells_182 : decode cX6_tells 182 = .ok (.goto 26, 3) := by decide +kernel
theorem dX6_tells_185 : decode cX6_tells 185 = .ok (.iload_n 2, 1) := by decide +kernel
theorem dX6_tells_186 : decode cX6_tells 186 = .ok (.bipush 8, 2) := by decide +kernel
theorem dX6_tells_188 : decode cX6_tells 188 = .ok (.if_icmp .ne 15, 3) := by decide +kernel
theorem dX6_tells_191 : decode cX6_tells 191 = .ok (.aload_n 0, 1) := by decide +kernel
theorem dX6_tells_192 : decode cX6_tells 192 = .ok (.getfield 7, 3) := by decide +kernel
theorem dX6_tells_195 : decode cX6_tells 195 = .ok (.bipush 12, 2) := by decide +kernel
theorem dX6_tells_197 : decode cX6_tells 197 = .ok (.iload_n 1, 1) := by decide +kernel
theorem dX6_tells_198 : decode cX6_tells 198 = .ok (.iadd, 1) := by decide +kernel
theorem dX6_tells_199 : decode cX6_tells 199 = .ok (.iaload, 1) := by decide +kernel
theorem dX6_tells_200 : decode cX6_tells 200 = .ok (.goto 8, 3) := by decide +kernel
theorem dX6_tells_203 : decode cX6_tells 203 = .ok (.aload_n 0, 1) := by decide +kernel
theorem dX6_tells_204 : decode cX6_tells 204 = .ok (.iload_n 1, 1) := by decide +kernel
theorem dX6_tells_205 : decode cX6_tells 205 = .ok (.invokevirtual 90, 3) := by decide +kernel
theorem dX6_tells_208 : decode cX6_tells 208 = .ok (.ireturn, 1) := by decide +kernel
set_option maxRecDepth 20000 in
theorem ggX6_cellIs_X6_isCell : GoodIn wsX6_cellIs wsX6_isCell := goodIn_r _ [4, 5, 6, 3, 7] (by decide +kernel) (by decide +kernel)
set_option maxRecDepth 20000 in
theorem gX6_cellIs_X6_isCell : GoodIn wsX6_cellIs (va_wsS RX6 56 yX6_isCell wsX6_isCell) := goodIn_app (goodIn_of _ (by decide +kernel)) ggX6_cellIs_X6_isCell
set_option maxRecDepth 20000 in
theorem ggX6_cellIs_X6_in : GoodIn wsX6_cellIs wsX6_in := goodIn_r _ [7] (by decide +kernel) (by decide +kernel)
set_option maxRecDepth 20000 in
theorem gX6_cellIs_X6_in : GoodIn wsX6_cellIs (va_wsS RX6 45 yX6_in wsX6_in) := goodIn_app (goodIn_of _ (by decide +kernel)) ggX6_cellIs_X6_in
set_option maxRecDepth 20000 in
theorem ggX6_cellIs_X6_asked_ : GoodIn wsX6_cellIs wsX6_asked_ := goodIn_r _ [11, 12, 35, 36, 37, 38, 39, 40, 41, 42, 43, 44, 45, 46, 47, 48, 49, 50] (by decide +kernel) (by decide +kernel)
set_option maxRecDepth 20000 in
theorem gX6_cellIs_X6_asked_ : GoodIn wsX6_cellIs (wsV RX6 113 RX6 yX6_asked_ wsX6_asked_) := goodIn_app (goodIn_of _ (by decide +kernel)) ggX6_cellIs_X6_asked_
set_option maxRecDepth 20000 in
theorem ggX6_cellIs_X6_tells : GoodIn wsX6_cellIs wsX6_tells := goodIn_r _ [16, 17, 18, 19, 20, 3, 21, 22, 23, 24, 25, 26, 27, 28, 29, 30, 31, 32, 33, 34, 35, 36, 37, 38, 39, 40, 41, 42, 43, 44, 45, 46, 47, 48, 49, 50] (by decide +kernel) (by decide +kernel)
set_option maxRecDepth 20000 in
theorem gX6_cellIs_X6_tells : GoodIn wsX6_cellIs (wsV RX6 127 RX6 yX6_tells wsX6_tells) := goodIn_app (goodIn_of _ (by decide +kernel)) ggX6_cellIs_X6_tells
end
section
theorem dX6_cellIs_0 : decode cX6_cellIs 0 = .ok (.aload_n 0, 1) := by decide +kernel
theorem dX6_cellIs_1 : decode cX6_cellIs 1 = .ok (.iload_n 1, 1) := by decide +kernel
theorem dX6_cellIs_2 : decode cX6_cellIs 2 = .ok (.invokestatic 56, 3) := by decide +kernel
theorem dX6_cellIs_5 : decode cX6_cellIs 5 = .ok (.iload_n 2, 1) := by decide +kernel
theorem dX6_cellIs_6 : decode cX6_cellIs 6 = .ok (.iconst 0, 1) := by decide +kernel
theorem dX6_cellIs_7 : decode cX6_cellIs 7 = .ok (.bipush 9, 2) := by decide +kernel
theorem dX6_cellIs_9 : decode cX6_cellIs 9 = .ok (.invokestatic 45, 3) := by decide +kernel
theorem dX6_cellIs_12 : decode cX6_cellIs 12 = .ok (.invokevirtual 113, 3) := by decide +kernel
theorem dX6_cellIs_15 : decode cX6_cellIs 15 = .ok (.ifCond .eq 12, 3) := by decide +kernel
theorem dX6_cellIs_18 : decode cX6_cellIs 18 = .ok (.aload_n 0, 1) := by decide +kernel
theorem dX6_cellIs_19 : decode cX6_cellIs 19 = .ok (.iload_n 1, 1) := by decide +kernel
theorem dX6_cellIs_20 : decode cX6_cellIs 20 = .ok (.iload_n 2, 1) := by decide +kernel
theorem dX6_cellIs_21 : decode cX6_cellIs 21 = .ok (.invokevirtual 127, 3) := by decide +kernel
theorem dX6_cellIs_24 : decode cX6_cellIs 24 = .ok (.goto 4, 3) := by decide +kernel
theorem dX6_cellIs_27 : decode cX6_cellIs 27 = .ok (.iconst 0, 1) := by decide +kernel
theorem dX6_cellIs_28 : decode cX6_cellIs 28 = .ok (.ireturn, 1) := by decide +kernel
set_option maxRecDepth 20000 in
theorem ggX6_layer_X6_isCell : GoodIn wsX6_layer wsX6_isCell := goodIn_r _ [5, 6, 7, 4, 8] (by decide +kernel) (by decide +kernel)
set_option maxRecDepth 20000 in
theorem gX6_layer_X6_isCell : GoodIn wsX6_layer (va_wsS RX6 56 yX6_isCell wsX6_isCell) := goodIn_app (goodIn_of _ (by decide +kernel)) ggX6_layer_X6_isCell
set_option maxRecDepth 20000 in
theorem ggX6_layer_X6_in : GoodIn wsX6_layer wsX6_in := goodIn_r _ [8] (by decide +kernel) (by decide +kernel)
set_option maxRecDepth 20000 in
theorem gX6_layer_X6_in : GoodIn wsX6_layer (va_wsS RX6 45 yX6_in wsX6_in) := goodIn_app (goodIn_of _ (by decide +kernel)) ggX6_layer_X6_in
set_option maxRecDepth 20000 in
theorem ggX6_layer_X6_asked_ : GoodIn wsX6_layer wsX6_asked_ := goodIn_r _ [12, 13, 14, 15, 16, 17, 18, 19, 20, 21, 22, 23, 24, 25, 26, 27, 28, 29] (by decide +kernel) (by decide +kernel)
set_option maxRecDepth 20000 in
theorem gX6_layer_X6_asked_ : GoodIn wsX6_layer (wsV RX6 113 RX6 yX6_asked_ wsX6_asked_) := goodIn_app (goodIn_of _ (by decide +kernel)) ggX6_layer_X6_asked_
theorem dX6_layer_0 : decode cX6_layer 0 = .ok (.aload_n 0, 1) := by decide +kernel
theorem dX6_layer_1 : decode cX6_layer 1 = .ok (.iload_n 1, 1) := by decide +kernel
theorem dX6_layer_2 : decode cX6_layer 2 = .ok (.invokestatic 56, 3) := by decide +kernel
theorem dX6_layer_5 : decode cX6_layer 5 = .ok (.iload_n 2, 1) := by decide +kernel
theorem dX6_layer_6 : decode cX6_layer 6 = .ok (.iconst 0, 1) := by decide +kernel
theorem dX6_layer_7 : decode cX6_layer 7 = .ok (.bipush 60, 2) := by decide +kernel
theorem dX6_layer_9 : decode cX6_layer 9 = .ok (.invokestatic 45, 3) := by decide +kernel
theorem dX6_layer_12 : decode cX6_layer 12 = .ok (.invokevirtual 113, 3) := by decide +kernel
theorem dX6_layer_15 : decode cX6_layer 15 = .ok (.ifCond .eq 20, 3) := by decide +kernel
theorem dX6_layer_18 : decode cX6_layer 18 = .ok (.aload_n 0, 1) := by decide +kernel
theorem dX6_layer_19 : decode cX6_layer 19 = .ok (.getfield 7, 3) := by decide +kernel
theorem dX6_layer_22 : decode cX6_layer 22 = .ok (.bipush 100, 2) := by decide +kernel
theorem dX6_layer_24 : decode cX6_layer 24 = .ok (.bipush 61, 2) := by decide +kernel
theorem dX6_layer_26 : decode cX6_layer 26 = .ok (.iload_n 1, 1) := by decide +kernel
theorem dX6_layer_27 : decode cX6_layer 27 = .ok (.imul, 1) := by decide +kernel
theorem dX6_layer_28 : decode cX6_layer 28 = .ok (.iadd, 1) := by decide +kernel
theorem dX6_layer_29 : decode cX6_layer 29 = .ok (.iload_n 2, 1) := by decide +kernel
theorem dX6_layer_30 : decode cX6_layer 30 = .ok (.iadd, 1) := by decide +kernel
theorem dX6_layer_31 : decode cX6_layer 31 = .ok (.iaload, 1) := by decide +kernel
theorem dX6_layer_32 : decode cX6_layer 32 = .ok (.goto 4, 3) := by decide +kernel
theorem dX6_layer_35 : decode cX6_layer 35 = .ok (.iconst 0, 1) := by decide +kernel
theorem dX6_layer_36 : decode cX6_layer 36 = .ok (.ireturn, 1) := by decide +kernel
set_option maxRecDepth 20000 in
theorem ggX6_yearAt_X6_isCell : GoodIn wsX6_yearAt wsX6_isCell := goodIn_r _ [5, 6, 7, 4, 8] (by decide +kernel) (by decide +kernel)
set_option maxRecDepth 20000 in
theorem gX6_yearAt_X6_isCell : GoodIn wsX6_yearAt (va_wsS RX6 56 yX6_isCell wsX6_isCell) := goodIn_app (goodIn_of _ (by decide +kernel)) ggX6_yearAt_X6_isCell
set_option maxRecDepth 20000 in
theorem ggX6_yearAt_X6_asked_ : GoodIn wsX6_yearAt wsX6_asked_ := goodIn_r _ [12, 13, 14, 15, 16, 17, 18, 19, 20, 21, 22, 23, 24, 25, 26, 27, 28, 29] (by decide +kernel) (by decide +kernel)
set_option maxRecDepth 20000 in
theorem gX6_yearAt_X6_asked_ : GoodIn wsX6_yearAt (wsV RX6 113 RX6 yX6_asked_ wsX6_asked_) := goodIn_app (goodIn_of _ (by decide +kernel)) ggX6_yearAt_X6_asked_
theorem dX6_yearAt_0 : decode cX6_yearAt 0 = .ok (.aload_n 0, 1) := by decide +kernel
theorem dX6_yearAt_1 : decode cX6_yearAt 1 = .ok (.iload_n 1, 1) := by decide +kernel
theorem dX6_yearAt_2 : decode cX6_yearAt 2 = .ok (.invokestatic 56, 3) := by decide +kernel
theorem dX6_yearAt_5 : decode cX6_yearAt 5 = .ok (.iload_n 2, 1) := by decide +kernel
theorem dX6_yearAt_6 : decode cX6_yearAt 6 = .ok (.ifCond .lt 7, 3) := by decide +kernel
theorem dX6_yearAt_9 : decode cX6_yearAt 9 = .ok (.iconst 1, 1) := by decide +kernel
theorem dX6_yearAt_10 : decode cX6_yearAt 10 = .ok (.goto 4, 3) := by decide +kernel
theorem dX6_yearAt_13 : decode cX6_yearAt 13 = .ok (.iconst 0, 1) := by decide +kernel
theorem dX6_yearAt_14 : decode cX6_yearAt 14 = .ok (.invokevirtual 113, 3) := by decide +kernel
theorem dX6_yearAt_17 : decode cX6_yearAt 17 = .ok (.ifCond .ne 5, 3) := by decide +kernel
theorem dX6_yearAt_20 : decode cX6_yearAt 20 = .ok (.iconst 0, 1) := by decide +kernel
theorem dX6_yearAt_21 : decode cX6_yearAt 21 = .ok (.ireturn, 1) := by decide +kernel
theorem dX6_yearAt_22 : decode cX6_yearAt 22 = .ok (.iload_n 2, 1) := by decide +kernel
theorem dX6_yearAt_23 : decode cX6_yearAt 23 = .ok (.istore_n 3, 1) := by decide +kernel
theorem dX6_yearAt_24 : decode cX6_yearAt 24 = .ok (.bipush 60, 2) := by decide +kernel
theorem dX6_yearAt_26 : decode cX6_yearAt 26 = .ok (.istore 4, 2) := by decide +kernel
theorem dX6_yearAt_28 : decode cX6_yearAt 28 = .ok (.iload 4, 2) := by decide +kernel
theorem dX6_yearAt_30 : decode cX6_yearAt 30 = .ok (.ifCond .lt 49, 3) := by decide +kernel
theorem dX6_yearAt_33 : decode cX6_yearAt 33 = .ok (.iload_n 3, 1) := by decide +kernel
theorem dX6_yearAt_34 : decode cX6_yearAt 34 = .ok (.aload_n 0, 1) := by decide +kernel
theorem dX6_yearAt_35 : decode cX6_yearAt 35 = .ok (.getfield 7, 3) := by decide +kernel
theorem dX6_yearAt_38 : decode cX6_yearAt 38 = .ok (.bipush 100, 2) := by decide +kernel
theorem dX6_yearAt_40 : decode cX6_yearAt 40 = .ok (.bipush 61, 2) := by decide +kernel
theorem dX6_yearAt_42 : decode cX6_yearAt 42 = .ok (.iload_n 1, 1) := by decide +kernel
theorem dX6_yearAt_43 : decode cX6_yearAt 43 = .ok (.imul, 1) := by decide +kernel
theorem dX6_yearAt_44 : decode cX6_yearAt 44 = .ok (.iadd, 1) := by decide +kernel
theorem dX6_yearAt_45 : decode cX6_yearAt 45 = .ok (.iload 4, 2) := by decide +kernel
theorem dX6_yearAt_47 : decode cX6_yearAt 47 = .ok (.iadd, 1) := by decide +kernel
theorem dX6_yearAt_48 : decode cX6_yearAt 48 = .ok (.iaload, 1) := by decide +kernel
theorem dX6_yearAt_49 : decode cX6_yearAt 49 = .ok (.if_icmp .ge 6, 3) := by decide +kernel
theorem dX6_yearAt_52 : decode cX6_yearAt 52 = .ok (.iload 4, 2) := by decide +kernel
theorem dX6_yearAt_54 : decode cX6_yearAt 54 = .ok (.ireturn, 1) := by decide +kernel
theorem dX6_yearAt_55 : decode cX6_yearAt 55 = .ok (.iload_n 3, 1) := by decide +kernel
theorem dX6_yearAt_56 : decode cX6_yearAt 56 = .ok (.aload_n 0, 1) := by decide +kernel
theorem dX6_yearAt_57 : decode cX6_yearAt 57 = .ok (.getfield 7, 3) := by decide +kernel
theorem dX6_yearAt_60 : decode cX6_yearAt 60 = .ok (.bipush 100, 2) := by decide +kernel
theorem dX6_yearAt_62 : decode cX6_yearAt 62 = .ok (.bipush 61, 2) := by decide +kernel
theorem dX6_yearAt_64 : decode cX6_yearAt 64 = .ok (.iload_n 1, 1) := by decide +kernel
theorem dX6_yearAt_65 : decode cX6_yearAt 65 = .ok (.imul, 1) := by decide +kernel
theorem dX6_yearAt_66 : decode cX6_yearAt 66 = .ok (.iadd, 1) := by decide +kernel
theorem dX6_yearAt_67 : decode cX6_yearAt 67 = .ok (.iload 4, 2) := by decide +kernel
theorem dX6_yearAt_69 : decode cX6_yearAt 69 = .ok (.iadd, 1) := by decide +kernel
theorem dX6_yearAt_70 : decode cX6_yearAt 70 = .ok (.iaload, 1) := by decide +kernel
theorem dX6_yearAt_71 : decode cX6_yearAt 71 = .ok (.isub, 1) := by decide +kernel
theorem dX6_yearAt_72 : decode cX6_yearAt 72 = .ok (.istore_n 3, 1) := by decide +kernel
theorem dX6_yearAt_73 : decode cX6_yearAt 73 = .ok (.iinc 4 (-1), 3) := by decide +kernel
theorem dX6_yearAt_76 : decode cX6_yearAt 76 = .ok (.goto (-48), 3) := by decide +kernel
theorem dX6_yearAt_79 : decode cX6_yearAt 79 = .ok (.iconst (-1), 1) := by decide +kernel
theorem dX6_yearAt_80 : decode cX6_yearAt 80 = .ok (.ireturn, 1) := by decide +kernel
set_option maxRecDepth 20000 in
theorem ggX6_common_X6_isCell : GoodIn wsX6_common wsX6_isCell := goodIn_r _ [6, 7, 8, 5, 9] (by decide +kernel) (by decide +kernel)
set_option maxRecDepth 20000 in
theorem gX6_common_X6_isCell : GoodIn wsX6_common (va_wsS RX6 56 yX6_isCell wsX6_isCell) := goodIn_app (goodIn_of _ (by decide +kernel)) ggX6_common_X6_isCell
set_option maxRecDepth 20000 in
theorem ggX6_common_X6_asked : GoodIn wsX6_common wsX6_asked := goodIn_r _ [13, 14, 15, 16, 17, 18, 19, 20, 21, 22, 23, 24, 25, 26, 27, 28, 29, 30] (by decide +kernel) (by decide +kernel)
set_option maxRecDepth 20000 in
theorem gX6_common_X6_asked : GoodIn wsX6_common (wsV RX6 64 RX6 yX6_asked wsX6_asked) := goodIn_app (goodIn_of _ (by decide +kernel)) ggX6_common_X6_asked
theorem dX6_common_0 : decode cX6_common 0 = .ok (.aload_n 0, 1) := by decide +kernel
theorem dX6_common_1 : decode cX6_common 1 = .ok (.iload_n 1, 1) := by decide +kernel
theorem dX6_common_2 : decode cX6_common 2 = .ok (.invokestatic 56, 3) := by decide +kernel
theorem dX6_common_5 : decode cX6_common 5 = .ok (.ifCond .eq 14, 3) := by decide +kernel
theorem dX6_common_8 : decode cX6_common 8 = .ok (.iload_n 2, 1) := by decide +kernel
theorem dX6_common_9 : decode cX6_common 9 = .ok (.invokestatic 56, 3) := by decide +kernel
theorem dX6_common_12 : decode cX6_common 12 = .ok (.ifCond .eq 7, 3) := by decide +kernel
theorem dX6_common_15 : decode cX6_common 15 = .ok (.iconst 1, 1) := by decide +kernel
theorem dX6_common_16 : decode cX6_common 16 = .ok (.goto 4, 3) := by decide +kernel
theorem dX6_common_19 : decode cX6_common 19 = .ok (.iconst 0, 1) := by decide +kernel
theorem dX6_common_20 : decode cX6_common 20 = .ok (.invokevirtual 64, 3) := by decide +kernel
theorem dX6_common_23 : decode cX6_common 23 = .ok (.ifCond .ne 5, 3) := by decide +kernel
theorem dX6_common_26 : decode cX6_common 26 = .ok (.iconst 0, 1) := by decide +kernel
theorem dX6_common_27 : decode cX6_common 27 = .ok (.ireturn, 1) := by decide +kernel
theorem dX6_common_28 : decode cX6_common 28 = .ok (.iconst 0, 1) := by decide +kernel
theorem dX6_common_29 : decode cX6_common 29 = .ok (.istore_n 3, 1) := by decide +kernel
theorem dX6_common_30 : decode cX6_common 30 = .ok (.iconst 0, 1) := by decide +kernel
theorem dX6_common_31 : decode cX6_common 31 = .ok (.istore 4, 2) := by decide +kernel
theorem dX6_common_33 : decode cX6_common 33 = .ok (.iload 4, 2) := by decide +kernel
theorem dX6_common_35 : decode cX6_common 35 = .ok (.bipush 61, 2) := by decide +kernel
theorem dX6_common_37 : decode cX6_common 37 = .ok (.if_icmp .ge 63, 3) := by decide +kernel
theorem dX6_common_40 : decode cX6_common 40 = .ok (.iload_n 3, 1) := by decide +kernel
theorem dX6_common_41 : decode cX6_common 41 = .ok (.aload_n 0, 1) := by decide +kernel
theorem dX6_common_42 : decode cX6_common 42 = .ok (.getfield 16, 3) := by decide +kernel
theorem dX6_common_45 : decode cX6_common 45 = .ok (.iload 4, 2) := by decide +kernel
theorem dX6_common_47 : decode cX6_common 47 = .ok (.baload, 1) := by decide +kernel
theorem dX6_common_48 : decode cX6_common 48 = .ok (.ifCond .eq 43, 3) := by decide +kernel
theorem dX6_common_51 : decode cX6_common 51 = .ok (.aload_n 0, 1) := by decide +kernel
theorem dX6_common_52 : decode cX6_common 52 = .ok (.getfield 7, 3) := by decide +kernel
theorem dX6_common_55 : decode cX6_common 55 = .ok (.bipush 100, 2) := by decide +kernel
theorem dX6_common_57 : decode cX6_common 57 = .ok (.bipush 61, 2) := by decide +kernel
theorem dX6_common_59 : decode cX6_common 59 = .ok (.iload_n 1, 1) := by decide +kernel
theorem dX6_common_60 : decode cX6_common 60 = .ok (.imul, 1) := by decide +kernel
theorem dX6_common_61 : decode cX6_common 61 = .ok (.iadd, 1) := by decide +kernel
theorem dX6_common_62 : decode cX6_common 62 = .ok (.iload 4, 2) := by decide +kernel
theorem dX6_common_64 : decode cX6_common 64 = .ok (.iadd, 1) := by decide +kernel
theorem dX6_common_65 : decode cX6_common 65 = .ok (.iaload, 1) := by decide +kernel
theorem dX6_common_66 : decode cX6_common 66 = .ok (.ifCond .le 25, 3) := by decide +kernel
theorem dX6_common_69 : decode cX6_common 69 = .ok (.aload_n 0, 1) := by decide +kernel
theorem dX6_common_70 : decode cX6_common 70 = .ok (.getfield 7, 3) := by decide +kernel
theorem dX6_common_73 : decode cX6_common 73 = .ok (.bipush 100, 2) := by decide +kernel
theorem dX6_common_75 : decode cX6_common 75 = .ok (.bipush 61, 2) := by decide +kernel
theorem dX6_common_77 : decode cX6_common 77 = .ok (.iload_n 2, 1) := by decide +kernel
theorem dX6_common_78 : decode cX6_common 78 = .ok (.imul, 1) := by decide +kernel
theorem dX6_common_79 : decode cX6_common 79 = .ok (.iadd, 1) := by decide +kernel
theorem dX6_common_80 : decode cX6_common 80 = .ok (.iload 4, 2) := by decide +kernel
theorem dX6_common_82 : decode cX6_common 82 = .ok (.iadd, 1) := by decide +kernel
theorem dX6_common_83 : decode cX6_common 83 = .ok (.iaload, 1) := by decide +kernel
theorem dX6_common_84 : decode cX6_common 84 = .ok (.ifCond .le 7, 3) := by decide +kernel
theorem dX6_common_87 : decode cX6_common 87 = .ok (.iconst 1, 1) := by decide +kernel
theorem dX6_common_88 : decode cX6_common 88 = .ok (.goto 4, 3) := by decide +kernel
theorem dX6_common_91 : decode cX6_common 91 = .ok (.iconst 0, 1) := by decide +kernel
theorem dX6_common_92 : decode cX6_common 92 = .ok (.iadd, 1) := by decide +kernel
theorem dX6_common_93 : decode cX6_common 93 = .ok (.istore_n 3, 1) := by decide +kernel
theorem dX6_common_94 : decode cX6_common 94 = .ok (.iinc 4 1, 3) := by decide +kernel
theorem dX6_common_97 : decode cX6_common 97 = .ok (.goto (-64), 3) := by decide +kernel
theorem dX6_common_100 : decode cX6_common 100 = .ok (.iload_n 3, 1) := by decide +kernel
theorem dX6_common_101 : decode cX6_common 101 = .ok (.ireturn, 1) := by decide +kernel
theorem dX6_floods_0 : decode cX6_floods 0 = .ok (.aload_n 0, 1) := by decide +kernel
theorem dX6_floods_1 : decode cX6_floods 1 = .ok (.iconst 0, 1) := by decide +kernel
theorem dX6_floods_2 : decode cX6_floods 2 = .ok (.putfield 41, 3) := by decide +kernel
theorem dX6_floods_5 : decode cX6_floods 5 = .ok (.aload_n 0, 1) := by decide +kernel
theorem dX6_floods_6 : decode cX6_floods 6 = .ok (.getfield 7, 3) := by decide +kernel
theorem dX6_floods_9 : decode cX6_floods 9 = .ok (.bipush 90, 2) := by decide +kernel
theorem dX6_floods_11 : decode cX6_floods 11 = .ok (.iaload, 1) := by decide +kernel
theorem dX6_floods_12 : decode cX6_floods 12 = .ok (.ireturn, 1) := by decide +kernel
set_option maxRecDepth 20000 in
theorem ggX6_flood_X6_in : GoodIn wsX6_flood wsX6_in := goodIn_r _ [8] (by decide +kernel) (by decide +kernel)
set_option maxRecDepth 20000 in
theorem gX6_flood_X6_in : GoodIn wsX6_flood (va_wsS RX6 45 yX6_in wsX6_in) := goodIn_app (goodIn_of _ (by decide +kernel)) ggX6_flood_X6_in
set_option maxRecDepth 20000 in
theorem ggX6_flood_X6_asked_ : GoodIn wsX6_flood wsX6_asked_ := goodIn_r _ [12, 13, 14, 15, 16, 17, 18, 19, 20, 21, 22, 23, 24, 25, 26, 27, 28, 29] (by decide +kernel) (by decide +kernel)
set_option maxRecDepth 20000 in
theorem gX6_flood_X6_asked_ : GoodIn wsX6_flood (wsV RX6 113 RX6 yX6_asked_ wsX6_asked_) := goodIn_app (goodIn_of _ (by decide +kernel)) ggX6_flood_X6_asked_
theorem dX6_flood_0 : decode cX6_flood 0 = .ok (.aload_n 0, 1) := by decide +kernel
theorem dX6_flood_1 : decode cX6_flood 1 = .ok (.iload_n 1, 1) := by decide +kernel
theorem dX6_flood_2 : decode cX6_flood 2 = .ok (.iconst 0, 1) := by decide +kernel
theorem dX6_flood_3 : decode cX6_flood 3 = .ok (.aload_n 0, 1) := by decide +kernel
theorem dX6_flood_4 : decode cX6_flood 4 = .ok (.getfield 7, 3) := by decide +kernel
theorem dX6_flood_7 : decode cX6_flood 7 = .ok (.bipush 90, 2) := by decide +kernel
theorem dX6_flood_9 : decode cX6_flood 9 = .ok (.iaload, 1) := by decide +kernel
theorem dX6_flood_10 : decode cX6_flood 10 = .ok (.iconst 1, 1) := by decide +kernel
theorem dX6_flood_11 : decode cX6_flood 11 = .ok (.isub, 1) := by decide +kernel
theorem dX6_flood_12 : decode cX6_flood 12 = .ok (.invokestatic 45, 3) := by decide +kernel
theorem dX6_flood_15 : decode cX6_flood 15 = .ok (.iload_n 2, 1) := by decide +kernel
theorem dX6_flood_16 : decode cX6_flood 16 = .ok (.iconst 0, 1) := by decide +kernel
theorem dX6_flood_17 : decode cX6_flood 17 = .ok (.iconst 2, 1) := by decide +kernel
theorem dX6_flood_18 : decode cX6_flood 18 = .ok (.invokestatic 45, 3) := by decide +kernel
theorem dX6_flood_21 : decode cX6_flood 21 = .ok (.invokevirtual 113, 3) := by decide +kernel
theorem dX6_flood_24 : decode cX6_flood 24 = .ok (.ifCond .ne 5, 3) := by decide +kernel
theorem dX6_flood_27 : decode cX6_flood 27 = .ok (.iconst 0, 1) := by decide +kernel
theorem dX6_flood_28 : decode cX6_flood 28 = .ok (.ireturn, 1) := by decide +kernel
theorem dX6_flood_29 : decode cX6_flood 29 = .ok (.iload_n 2, 1) := by decide +kernel
theorem dX6_flood_30 : decode cX6_flood 30 = .ok (.ifCond .ne 12, 3) := by decide +kernel
theorem dX6_flood_33 : decode cX6_flood 33 = .ok (.aload_n 0, 1) := by decide +kernel
theorem dX6_flood_34 : decode cX6_flood 34 = .ok (.getfield 20, 3) := by decide +kernel
theorem dX6_flood_37 : decode cX6_flood 37 = .ok (.iload_n 1, 1) := by decide +kernel
theorem dX6_flood_38 : decode cX6_flood 38 = .ok (.iaload, 1) := by decide +kernel
theorem dX6_flood_39 : decode cX6_flood 39 = .ok (.goto 23, 3) := by decide +kernel
theorem dX6_flood_42 : decode cX6_flood 42 = .ok (.iload_n 2, 1) := by decide +kernel
theorem dX6_flood_43 : decode cX6_flood 43 = .ok (.iconst 1, 1) := by decide +kernel
theorem dX6_flood_44 : decode cX6_flood 44 = .ok (.if_icmp .ne 12, 3) := by decide +kernel
theorem dX6_flood_47 : decode cX6_flood 47 = .ok (.aload_n 0, 1) := by decide +kernel
theorem dX6_flood_48 : decode cX6_flood 48 = .ok (.getfield 23, 3) := by decide +kernel
theorem dX6_flood_51 : decode cX6_flood 51 = .ok (.iload_n 1, 1) := by decide +kernel
theorem dX6_flood_52 : decode cX6_flood 52 = .ok (.iaload, 1) := by decide +kernel
theorem dX6_flood_53 : decode cX6_flood 53 = .ok (.goto 9, 3) := by decide +kernel
theorem dX6_flood_56 : decode cX6_flood 56 = .ok (.aload_n 0, 1) := by decide +kernel
theorem dX6_flood_57 : decode cX6_flood 57 = .ok (.getfield 26, 3) := by decide +kernel
theorem dX6_flood_60 : decode cX6_flood 60 = .ok (.iload_n 1, 1) := by decide +kernel
theorem dX6_flood_61 : decode cX6_flood 61 = .ok (.iaload, 1) := by decide +kernel
theorem dX6_flood_62 : decode cX6_flood 62 = .ok (.ireturn, 1) := by decide +kernel
set_option maxRecDepth 20000 in
theorem ggX6_front_X6_in : GoodIn wsX6_front wsX6_in := goodIn_r _ [5] (by decide +kernel) (by decide +kernel)
set_option maxRecDepth 20000 in
theorem gX6_front_X6_in : GoodIn wsX6_front (va_wsS RX6 45 yX6_in wsX6_in) := goodIn_app (goodIn_of _ (by decide +kernel)) ggX6_front_X6_in
set_option maxRecDepth 20000 in
theorem ggX6_front_X6_asked : GoodIn wsX6_front wsX6_asked := goodIn_r _ [9, 10, 11, 12, 13, 14, 15, 16, 17, 18, 19, 20, 21, 22, 23, 24, 25, 26] (by decide +kernel) (by decide +kernel)
set_option maxRecDepth 20000 in
theorem gX6_front_X6_asked : GoodIn wsX6_front (wsV RX6 64 RX6 yX6_asked wsX6_asked) := goodIn_app (goodIn_of _ (by decide +kernel)) ggX6_front_X6_asked
theorem dX6_front_0 : decode cX6_front 0 = .ok (.aload_n 0, 1) := by decide +kernel
theorem dX6_front_1 : decode cX6_front 1 = .ok (.iload_n 1, 1) := by decide +kernel
theorem dX6_front_2 : decode cX6_front 2 = .ok (.iconst 0, 1) := by decide +kernel
theorem dX6_front_3 : decode cX6_front 3 = .ok (.aload_n 0, 1) := by decide +kernel
theorem dX6_front_4 : decode cX6_front 4 = .ok (.getfield 7, 3) := by decide +kernel
theorem dX6_front_7 : decode cX6_front 7 = .ok (.bipush 89, 2) := by decide +kernel
theorem dX6_front_9 : decode cX6_front 9 = .ok (.iaload, 1) := by decide +kernel
theorem dX6_front_10 : decode cX6_front 10 = .ok (.invokestatic 45, 3) := by decide +kernel
theorem dX6_front_13 : decode cX6_front 13 = .ok (.invokevirtual 64, 3) := by decide +kernel
theorem dX6_front_16 : decode cX6_front 16 = .ok (.ifCond .eq 16, 3) := by decide +kernel
theorem dX6_front_19 : decode cX6_front 19 = .ok (.aload_n 0, 1) := by decide +kernel
theorem dX6_front_20 : decode cX6_front 20 = .ok (.getfield 7, 3) := by decide +kernel
theorem dX6_front_23 : decode cX6_front 23 = .ok (.sipush 900, 3) := by decide +kernel
theorem dX6_front_26 : decode cX6_front 26 = .ok (.iload_n 1, 1) := by decide +kernel
theorem dX6_front_27 : decode cX6_front 27 = .ok (.iadd, 1) := by decide +kernel
theorem dX6_front_28 : decode cX6_front 28 = .ok (.iaload, 1) := by decide +kernel
theorem dX6_front_29 : decode cX6_front 29 = .ok (.goto 4, 3) := by decide +kernel
theorem dX6_front_32 : decode cX6_front 32 = .ok (.iconst 0, 1) := by decide +kernel
theorem dX6_front_33 : decode cX6_front 33 = .ok (.ireturn, 1) := by decide +kernel
set_option maxRecDepth 20000 in
theorem ggX6_total_X6_in : GoodIn wsX6_total wsX6_in := goodIn_r _ [5] (by decide +kernel) (by decide +kernel)
set_option maxRecDepth 20000 in
theorem gX6_total_X6_in : GoodIn wsX6_total (va_wsS RX6 45 yX6_in wsX6_in) := goodIn_app (goodIn_of _ (by decide +kernel)) ggX6_total_X6_in
set_option maxRecDepth 20000 in
theorem ggX6_total_X6_asked : GoodIn wsX6_total wsX6_asked := goodIn_r _ [9, 10, 19, 20, 21, 22, 23, 24, 25, 26, 27, 28, 29, 30, 31, 32, 33, 34] (by decide +kernel) (by decide +kernel)
set_option maxRecDepth 20000 in
theorem gX6_total_X6_asked : GoodIn wsX6_total (wsV RX6 64 RX6 yX6_asked wsX6_asked) := goodIn_app (goodIn_of _ (by decide +kernel)) ggX6_total_X6_asked
set_option maxRecDepth 20000 in
theorem ggX6_total_X6_allIce : GoodIn wsX6_total wsX6_allIce := goodIn_r _ [14, 15, 16, 17, 4, 18, 1, 19, 20, 21, 22, 23, 24, 25, 26, 27, 28, 29, 30, 31, 32, 33, 34] (by decide +kernel) (by decide +kernel)
set_option maxRecDepth 20000 in
theorem gX6_total_X6_allIce : GoodIn wsX6_total (wsV RX6 123 RX6 yX6_allIce wsX6_allIce) := goodIn_app (goodIn_of _ (by decide +kernel)) ggX6_total_X6_allIce
theorem dX6_total_0 : decode cX6_total 0 = .ok (.aload_n 0, 1) := by decide +kernel
theorem dX6_total_1 : decode cX6_total 1 = .ok (.iload_n 1, 1) := by decide +kernel
theorem dX6_total_2 : decode cX6_total 2 = .ok (.iconst 0, 1) := by decide +kernel
theorem dX6_total_3 : decode cX6_total 3 = .ok (.iconst 5, 1) := by decide +kernel
theorem dX6_total_4 : decode cX6_total 4 = .ok (.invokestatic 45, 3) := by decide +kernel
theorem dX6_total_7 : decode cX6_total 7 = .ok (.invokevirtual 64, 3) := by decide +kernel
theorem dX6_total_10 : decode cX6_total 10 = .ok (.ifCond .ne 5, 3) := by decide +kernel
theorem dX6_total_13 : decode cX6_total 13 = .ok (.iconst 0, 1) := by decide +kernel
theorem dX6_total_14 : decode cX6_total 14 = .ok (.ireturn, 1) := by decide +kernel
theorem dX6_total_15 : decode cX6_total 15 = .ok (.iconst 0, 1) := by decide +kernel
theorem dX6_total_16 : decode cX6_total 16 = .ok (.istore_n 2, 1) := by decide +kernel
theorem dX6_total_17 : decode cX6_total 17 = .ok (.iconst 0, 1) := by decide +kernel
theorem dX6_total_18 : decode cX6_total 18 = .ok (.istore_n 3, 1) := by decide +kernel
theorem dX6_total_19 : decode cX6_total 19 = .ok (.iload_n 3, 1) := by decide +kernel
theorem dX6_total_20 : decode cX6_total 20 = .ok (.bipush 12, 2) := by decide +kernel
theorem dX6_total_22 : decode cX6_total 22 = .ok (.if_icmp .ge 21, 3) := by decide +kernel
theorem dX6_total_25 : decode cX6_total 25 = .ok (.iload_n 2, 1) := by decide +kernel
theorem dX6_total_26 : decode cX6_total 26 = .ok (.aload_n 0, 1) := by decide +kernel
theorem dX6_total_27 : decode cX6_total 27 = .ok (.getfield 7, 3) := by decide +kernel
theorem dX6_total_30 : decode cX6_total 30 = .ok (.bipush 24, 2) := by decide +kernel
theorem dX6_total_32 : decode cX6_total 32 = .ok (.iload_n 3, 1) := by decide +kernel
theorem dX6_total_33 : decode cX6_total 33 = .ok (.iadd, 1) := by decide +kernel
theorem dX6_total_34 : decode cX6_total 34 = .ok (.iaload, 1) := by decide +kernel
theorem dX6_total_35 : decode cX6_total 35 = .ok (.iadd, 1) := by decide +kernel
theorem dX6_total_36 : decode cX6_total 36 = .ok (.istore_n 2, 1) := by decide +kernel
theorem dX6_total_37 : decode cX6_total 37 = .ok (.iinc 3 1, 3) := by decide +kernel
theorem dX6_total_40 : decode cX6_total 40 = .ok (.goto (-21), 3) := by decide +kernel
theorem dX6_total_43 : decode cX6_total 43 = .ok (.iload_n 1, 1) := by decide +kernel
theorem dX6_total_44 : decode cX6_total 44 = .ok (.ifCond .ne 10, 3) := by decide +kernel
theorem dX6_total_47 : decode cX6_total 47 = .ok (.aload_n 0, 1) := by decide +kernel
theorem dX6_total_48 : decode cX6_total 48 = .ok (.invokevirtual 123, 3) := by decide +kernel
theorem dX6_total_51 : decode cX6_total 51 = .ok (.goto 23, 3) := by decide +kernel
theorem dX6_total_54 : decode cX6_total 54 = .ok (.iload_n 1, 1) := by decide +kernel
theorem dX6_total_55 : decode cX6_total 55 = .ok (.iconst 1, 1) := by decide +kernel
theorem dX6_total_56 : decode cX6_total 56 = .ok (.if_icmp .ne 7, 3) := by decide +kernel
theorem dX6_total_59 : decode cX6_total 59 = .ok (.iload_n 2, 1) := by decide +kernel
theorem dX6_total_60 : decode cX6_total 60 = .ok (.goto 14, 3) := by decide +kernel
theorem dX6_total_63 : decode cX6_total 63 = .ok (.aload_n 0, 1) := by decide +kernel
theorem dX6_total_64 : decode cX6_total 64 = .ok (.getfield 7, 3) := by decide +kernel
theorem dX6_total_67 : decode cX6_total 67 = .ok (.bipush 84, 2) := by decide +kernel
theorem dX6_total_69 : decode cX6_total 69 = .ok (.iload_n 1, 1) := by decide +kernel
theorem dX6_total_70 : decode cX6_total 70 = .ok (.iadd, 1) := by decide +kernel
theorem dX6_total_71 : decode cX6_total 71 = .ok (.iconst 2, 1) := by decide +kernel
theorem dX6_total_72 : decode cX6_total 72 = .ok (.isub, 1) := by decide +kernel
theorem dX6_total_73 : decode cX6_total 73 = .ok (.iaload, 1) := by decide +kernel
theorem dX6_total_74 : decode cX6_total 74 = .ok (.ireturn, 1) := by decide +kernel
theorem dX6_iceAnew_0 : decode cX6_iceAnew 0 = .ok (.aload_n 0, 1) := by decide +kernel
theorem dX6_iceAnew_1 : decode cX6_iceAnew 1 = .ok (.iconst 0, 1) := by decide +kernel
theorem dX6_iceAnew_2 : decode cX6_iceAnew 2 = .ok (.putfield 41, 3) := by decide +kernel
theorem dX6_iceAnew_5 : decode cX6_iceAnew 5 = .ok (.aload_n 0, 1) := by decide +kernel
theorem dX6_iceAnew_6 : decode cX6_iceAnew 6 = .ok (.getfield 7, 3) := by decide +kernel
theorem dX6_iceAnew_9 : decode cX6_iceAnew 9 = .ok (.bipush 87, 2) := by decide +kernel
theorem dX6_iceAnew_11 : decode cX6_iceAnew 11 = .ok (.iaload, 1) := by decide +kernel
theorem dX6_iceAnew_12 : decode cX6_iceAnew 12 = .ok (.aload_n 0, 1) := by decide +kernel
theorem dX6_iceAnew_13 : decode cX6_iceAnew 13 = .ok (.getfield 7, 3) := by decide +kernel
theorem dX6_iceAnew_16 : decode cX6_iceAnew 16 = .ok (.bipush 86, 2) := by decide +kernel
theorem dX6_iceAnew_18 : decode cX6_iceAnew 18 = .ok (.iaload, 1) := by decide +kernel
theorem dX6_iceAnew_19 : decode cX6_iceAnew 19 = .ok (.iadd, 1) := by decide +kernel
theorem dX6_iceAnew_20 : decode cX6_iceAnew 20 = .ok (.aload_n 0, 1) := by decide +kernel
theorem dX6_iceAnew_21 : decode cX6_iceAnew 21 = .ok (.getfield 7, 3) := by decide +kernel
theorem dX6_iceAnew_24 : decode cX6_iceAnew 24 = .ok (.bipush 88, 2) := by decide +kernel
theorem dX6_iceAnew_26 : decode cX6_iceAnew 26 = .ok (.iaload, 1) := by decide +kernel
theorem dX6_iceAnew_27 : decode cX6_iceAnew 27 = .ok (.isub, 1) := by decide +kernel
theorem dX6_iceAnew_28 : decode cX6_iceAnew 28 = .ok (.aload_n 0, 1) := by decide +kernel
theorem dX6_iceAnew_29 : decode cX6_iceAnew 29 = .ok (.getfield 7, 3) := by decide +kernel
theorem dX6_iceAnew_32 : decode cX6_iceAnew 32 = .ok (.bipush 85, 2) := by decide +kernel
theorem dX6_iceAnew_34 : decode cX6_iceAnew 34 = .ok (.iaload, 1) := by decide +kernel
theorem dX6_iceAnew_35 : decode cX6_iceAnew 35 = .ok (.isub, 1) := by decide +kernel
theorem dX6_iceAnew_36 : decode cX6_iceAnew 36 = .ok (.ireturn, 1) := by decide +kernel
theorem dX6_keeps_0 : decode cX6_keeps 0 = .ok (.iconst 0, 1) := by decide +kernel
theorem dX6_keeps_1 : decode cX6_keeps 1 = .ok (.istore_n 2, 1) := by decide +kernel
theorem dX6_keeps_2 : decode cX6_keeps 2 = .ok (.iload_n 2, 1) := by decide +kernel
theorem dX6_keeps_3 : decode cX6_keeps 3 = .ok (.sipush 1024, 3) := by decide +kernel
theorem dX6_keeps_6 : decode cX6_keeps 6 = .ok (.if_icmp .ge 43, 3) := by decide +kernel
theorem dX6_keeps_9 : decode cX6_keeps 9 = .ok (.aload_n 0, 1) := by decide +kernel
theorem dX6_keeps_10 : decode cX6_keeps 10 = .ok (.getfield 7, 3) := by decide +kernel
theorem dX6_keeps_13 : decode cX6_keeps 13 = .ok (.iload_n 2, 1) := by decide +kernel
theorem dX6_keeps_14 : decode cX6_keeps 14 = .ok (.iaload, 1) := by decide +kernel
theorem dX6_keeps_15 : decode cX6_keeps 15 = .ok (.istore_n 3, 1) := by decide +kernel
theorem dX6_keeps_16 : decode cX6_keeps 16 = .ok (.aload_n 0, 1) := by decide +kernel
theorem dX6_keeps_17 : decode cX6_keeps 17 = .ok (.getfield 7, 3) := by decide +kernel
theorem dX6_keeps_20 : decode cX6_keeps 20 = .ok (.iload_n 2, 1) := by decide +kernel
theorem dX6_keeps_21 : decode cX6_keeps 21 = .ok (.iload_n 1, 1) := by decide +kernel
theorem dX6_keeps_22 : decode cX6_keeps 22 = .ok (.ifCond .eq 12, 3) := by decide +kernel
theorem dX6_keeps_25 : decode cX6_keeps 25 = .ok (.aload_n 0, 1) := by decide +kernel
theorem dX6_keeps_26 : decode cX6_keeps 26 = .ok (.getfield 13, 3) := by decide +kernel
theorem dX6_keeps_29 : decode cX6_keeps 29 = .ok (.iload_n 2, 1) := by decide +kernel
theorem dX6_keeps_30 : decode cX6_keeps 30 = .ok (.iaload, 1) := by decide +kernel
theorem dX6_keeps_31 : decode cX6_keeps 31 = .ok (.goto 4, 3) := by decide +kernel
theorem dX6_keeps_34 : decode cX6_keeps 34 = .ok (.iload_n 3, 1) := by decide +kernel
theorem dX6_keeps_35 : decode cX6_keeps 35 = .ok (.iastore, 1) := by decide +kernel
theorem dX6_keeps_36 : decode cX6_keeps 36 = .ok (.aload_n 0, 1) := by decide +kernel
theorem dX6_keeps_37 : decode cX6_keeps 37 = .ok (.getfield 13, 3) := by decide +kernel
theorem dX6_keeps_40 : decode cX6_keeps 40 = .ok (.iload_n 2, 1) := by decide +kernel
theorem dX6_keeps_41 : decode cX6_keeps 41 = .ok (.iload_n 3, 1) := by decide +kernel
theorem dX6_keeps_42 : decode cX6_keeps 42 = .ok (.iastore, 1) := by decide +kernel
theorem dX6_keeps_43 : decode cX6_keeps 43 = .ok (.iinc 2 1, 3) := by decide +kernel
theorem dX6_keeps_46 : decode cX6_keeps 46 = .ok (.goto (-44), 3) := by decide +kernel
theorem dX6_keeps_49 : decode cX6_keeps 49 = .ok (.return_, 1) := by decide +kernel
set_option maxRecDepth 20000 in
theorem ggX6_would_X6_in : GoodIn wsX6_would wsX6_in := goodIn_r _ [5] (by decide +kernel) (by decide +kernel)
set_option maxRecDepth 20000 in
theorem gX6_would_X6_in : GoodIn wsX6_would (va_wsS RX6 45 yX6_in wsX6_in) := goodIn_app (goodIn_of _ (by decide +kernel)) ggX6_would_X6_in
set_option maxRecDepth 20000 in
theorem ggX6_would_X6_isCell : GoodIn wsX6_would wsX6_isCell := goodIn_r _ [8, 2, 3, 4, 5] (by decide +kernel) (by decide +kernel)
set_option maxRecDepth 20000 in
theorem gX6_would_X6_isCell : GoodIn wsX6_would (va_wsS RX6 56 yX6_isCell wsX6_isCell) := goodIn_app (goodIn_of _ (by decide +kernel)) ggX6_would_X6_isCell
set_option maxRecDepth 20000 in
theorem ggX6_would_X6_asked__ : GoodIn wsX6_would wsX6_asked__ := goodIn_r _ [12, 13, 85, 86, 87, 88, 89, 90, 91, 92, 93, 94, 95, 96, 97, 98, 99, 100] (by decide +kernel) (by decide +kernel)
set_option maxRecDepth 20000 in
theorem gX6_would_X6_asked__ : GoodIn wsX6_would (wsV RX6 60 RX6 yX6_asked__ wsX6_asked__) := goodIn_app (goodIn_of _ (by decide +kernel)) ggX6_would_X6_asked__
set_option maxRecDepth 20000 in
theorem ggX6_would_X6_keeps : GoodIn wsX6_would wsX6_keeps := goodIn_r _ [17, 1, 18, 85, 86, 87, 88, 89, 90, 91, 92, 93, 94, 95, 96, 97, 98, 99, 100] (by decide +kernel) (by decide +kernel)
set_option maxRecDepth 20000 in
theorem gX6_would_X6_keeps : GoodIn wsX6_would (wsV RX6 130 RX6 yX6_keeps wsX6_keeps) := goodIn_app (goodIn_of _ (by decide +kernel)) ggX6_would_X6_keeps
set_option maxRecDepth 20000 in
theorem ggX6_would_X6_passes : GoodIn wsX6_would wsX6_passes := goodIn_r _ [22, 1, 23, 24, 25, 4, 26, 27, 28, 29, 30, 31, 32, 33, 34, 35, 36, 37, 38, 39, 40, 41, 42, 43, 44, 45, 46, 47, 48, 49, 50, 51, 52, 53, 54, 55, 56, 57, 58, 59, 60, 61, 62, 63, 64, 65, 66, 67, 68, 69, 70, 71, 72, 73, 74, 75, 76, 77, 78, 79, 80, 85, 86, 87, 88, 89, 90, 91, 92, 93, 94, 95, 96, 97, 98, 99, 100] (by decide +kernel) (by decide +kernel)
set_option maxRecDepth 20000 in
theorem gX6_would_X6_passes : GoodIn wsX6_would (wsV RX6 116 RX6 yX6_passes wsX6_passes) := goodIn_app (goodIn_of _ (by decide +kernel)) ggX6_would_X6_passes
set_option maxRecDepth 20000 in
theorem ggX6_would_X6_tells : GoodIn wsX6_would wsX6_tells := goodIn_r _ [84, 1, 30, 31, 32, 4, 33, 34, 35, 36, 37, 38, 39, 40, 41, 42, 58, 59, 60, 61, 85, 86, 87, 88, 89, 90, 91, 92, 93, 94, 95, 96, 97, 98, 99, 100] (by decide +kernel) (by decide +kernel)
set_option maxRecDepth 20000 in
theorem gX6_would_X6_tells : GoodIn wsX6_would (wsV RX6 127 RX6 yX6_tells wsX6_tells) := goodIn_app (goodIn_of _ (by decide +kernel)) ggX6_would_X6_tells
theorem dX6_would_0 : decode cX6_would 0 = .ok (.iload_n 1, 1) := by decide +kernel
theorem dX6_would_1 : decode cX6_would 1 = .ok (.iconst 1, 1) := by decide +kernel
theorem dX6_would_2 : decode cX6_would 2 = .ok (.bipush 20, 2) := by decide +kernel
theorem dX6_would_4 : decode cX6_would 4 = .ok (.invokestatic 45, 3) := by decide +kernel
theorem dX6_would_7 : decode cX6_would 7 = .ok (.ifCond .eq 17, 3) := by decide +kernel
theorem dX6_would_10 : decode cX6_would 10 = .ok (.iload_n 3, 1) := by decide +kernel
theorem dX6_would_11 : decode cX6_would 11 = .ok (.iconst 0, 1) := by decide +kernel
theorem dX6_would_12 : decode cX6_would 12 = .ok (.bipush 9, 2) := by decide +kernel
theorem dX6_would_14 : decode cX6_would 14 = .ok (.invokestatic 45, 3) := by decide +kernel
theorem dX6_would_17 : decode cX6_would 17 = .ok (.ifCond .eq 7, 3) := by decide +kernel
theorem dX6_would_20 : decode cX6_would 20 = .ok (.iconst 1, 1) := by decide +kernel
theorem dX6_would_21 : decode cX6_would 21 = .ok (.goto 4, 3) := by decide +kernel
theorem dX6_would_24 : decode cX6_would 24 = .ok (.iconst 0, 1) := by decide +kernel
theorem dX6_would_25 : decode cX6_would 25 = .ok (.istore 4, 2) := by decide +kernel
theorem dX6_would_27 : decode cX6_would 27 = .ok (.aload_n 0, 1) := by decide +kernel
theorem dX6_would_28 : decode cX6_would 28 = .ok (.iload_n 2, 1) := by decide +kernel
theorem dX6_would_29 : decode cX6_would 29 = .ok (.invokestatic 56, 3) := by decide +kernel
theorem dX6_would_32 : decode cX6_would 32 = .ok (.iload 4, 2) := by decide +kernel
theorem dX6_would_34 : decode cX6_would 34 = .ok (.iload 4, 2) := by decide +kernel
theorem dX6_would_36 : decode cX6_would 36 = .ok (.ifCond .eq 21, 3) := by decide +kernel
theorem dX6_would_39 : decode cX6_would 39 = .ok (.aload_n 0, 1) := by decide +kernel
theorem dX6_would_40 : decode cX6_would 40 = .ok (.getfield 7, 3) := by decide +kernel
theorem dX6_would_43 : decode cX6_would 43 = .ok (.bipush 89, 2) := by decide +kernel
theorem dX6_would_45 : decode cX6_would 45 = .ok (.iaload, 1) := by decide +kernel
theorem dX6_would_46 : decode cX6_would 46 = .ok (.iload_n 1, 1) := by decide +kernel
theorem dX6_would_47 : decode cX6_would 47 = .ok (.iadd, 1) := by decide +kernel
theorem dX6_would_48 : decode cX6_would 48 = .ok (.bipush 60, 2) := by decide +kernel
theorem dX6_would_50 : decode cX6_would 50 = .ok (.if_icmp .gt 7, 3) := by decide +kernel
theorem dX6_would_53 : decode cX6_would 53 = .ok (.iconst 1, 1) := by decide +kernel
theorem dX6_would_54 : decode cX6_would 54 = .ok (.goto 4, 3) := by decide +kernel
theorem dX6_would_57 : decode cX6_would 57 = .ok (.iconst 0, 1) := by decide +kernel
theorem dX6_would_58 : decode cX6_would 58 = .ok (.invokevirtual 60, 3) := by decide +kernel
theorem dX6_would_61 : decode cX6_would 61 = .ok (.ifCond .ne 5, 3) := by decide +kernel
theorem dX6_would_64 : decode cX6_would 64 = .ok (.iconst 0, 1) := by decide +kernel
theorem dX6_would_65 : decode cX6_would 65 = .ok (.ireturn, 1) := by decide +kernel
theorem dX6_would_66 : decode cX6_would 66 = .ok (.aload_n 0, 1) := by decide +kernel
theorem dX6_would_67 : decode cX6_would 67 = .ok (.iconst 0, 1) := by decide +kernel
theorem dX6_would_68 : decode cX6_would 68 = .ok (.invokevirtual 130, 3) := by decide +kernel
theorem dX6_would_71 : decode cX6_would 71 = .ok (.aload_n 0, 1) := by decide +kernel
theorem dX6_would_72 : decode cX6_would 72 = .ok (.iload_n 1, 1) := by decide +kernel
theorem dX6_would_73 : decode cX6_would 73 = .ok (.invokevirtual 116, 3) := by decide +kernel
theorem dX6_would_76 : decode cX6_would 76 = .ok (.aload_n 0, 1) := by decide +kernel
theorem dX6_would_77 : decode cX6_would 77 = .ok (.iload_n 2, 1) := by decide +kernel
theorem dX6_would_78 : decode cX6_would 78 = .ok (.iload_n 3, 1) := by decide +kernel
theorem dX6_would_79 : decode cX6_would 79 = .ok (.invokevirtual 127, 3) := by decide +kernel
theorem dX6_would_82 : decode cX6_would 82 = .ok (.istore 5, 2) := by decide +kernel
theorem dX6_would_84 : decode cX6_would 84 = .ok (.aload_n 0, 1) := by decide +kernel
theorem dX6_would_85 : decode cX6_would 85 = .ok (.iconst 1, 1) := by decide +kernel
theorem dX6_would_86 : decode cX6_would 86 = .ok (.invokevirtual 130, 3) := by decide +kernel
theorem dX6_would_89 : decode cX6_would 89 = .ok (.iload 5, 2) := by decide +kernel
theorem dX6_would_91 : decode cX6_would 91 = .ok (.ireturn, 1) := by decide +kernel
set_option maxRecDepth 20000 in
theorem ggX6_forecast_X6_in : GoodIn wsX6_forecast wsX6_in := goodIn_r _ [9] (by decide +kernel) (by decide +kernel)
set_option maxRecDepth 20000 in
theorem gX6_forecast_X6_in : GoodIn wsX6_forecast (va_wsS RX6 45 yX6_in wsX6_in) := goodIn_app (goodIn_of _ (by decide +kernel)) ggX6_forecast_X6_in
set_option maxRecDepth 20000 in
theorem ggX6_forecast_X6_asked_ : GoodIn wsX6_forecast wsX6_asked_ := goodIn_r _ [13, 14, 86, 87, 88, 89, 90, 91, 92, 93, 94, 95, 96, 97, 98, 99, 100, 101] (by decide +kernel) (by decide +kernel)
set_option maxRecDepth 20000 in
theorem gX6_forecast_X6_asked_ : GoodIn wsX6_forecast (wsV RX6 113 RX6 yX6_asked_ wsX6_asked_) := goodIn_app (goodIn_of _ (by decide +kernel)) ggX6_forecast_X6_asked_
set_option maxRecDepth 20000 in
theorem ggX6_forecast_X6_keeps : GoodIn wsX6_forecast wsX6_keeps := goodIn_r _ [18, 1, 19, 86, 87, 88, 89, 90, 91, 92, 93, 94, 95, 96, 97, 98, 99, 100, 101] (by decide +kernel) (by decide +kernel)
set_option maxRecDepth 20000 in
theorem gX6_forecast_X6_keeps : GoodIn wsX6_forecast (wsV RX6 130 RX6 yX6_keeps wsX6_keeps) := goodIn_app (goodIn_of _ (by decide +kernel)) ggX6_forecast_X6_keeps
set_option maxRecDepth 20000 in
theorem ggX6_forecast_X6_passes : GoodIn wsX6_forecast wsX6_passes := goodIn_r _ [23, 1, 24, 25, 26, 8, 27, 28, 29, 30, 31, 32, 33, 34, 35, 36, 37, 38, 39, 40, 41, 42, 43, 44, 45, 46, 47, 48, 49, 50, 51, 52, 53, 54, 55, 56, 57, 58, 59, 60, 61, 62, 63, 64, 65, 66, 67, 68, 69, 70, 71, 72, 73, 74, 75, 76, 77, 78, 79, 80, 81, 86, 87, 88, 89, 90, 91, 92, 93, 94, 95, 96, 97, 98, 99, 100, 101] (by decide +kernel) (by decide +kernel)
set_option maxRecDepth 20000 in
theorem gX6_forecast_X6_passes : GoodIn wsX6_forecast (wsV RX6 116 RX6 yX6_passes wsX6_passes) := goodIn_app (goodIn_of _ (by decide +kernel)) ggX6_forecast_X6_passes
set_option maxRecDepth 20000 in
theorem ggX6_forecast_X6_allIce : GoodIn wsX6_forecast wsX6_allIce := goodIn_r _ [85, 31, 32, 33, 8, 34, 1, 86, 87, 88, 89, 90, 91, 92, 93, 94, 95, 96, 97, 98, 99, 100, 101] (by decide +kernel) (by decide +kernel)
set_option maxRecDepth 20000 in
theorem gX6_forecast_X6_allIce : GoodIn wsX6_forecast (wsV RX6 123 RX6 yX6_allIce wsX6_allIce) := goodIn_app (goodIn_of _ (by decide +kernel)) ggX6_forecast_X6_allIce
theorem dX6_forecast_0 : decode cX6_forecast 0 = .ok (.iload_n 1, 1) := by decide +kernel
theorem dX6_forecast_1 : decode cX6_forecast 1 = .ok (.iconst 1, 1) := by decide +kernel
theorem dX6_forecast_2 : decode cX6_forecast 2 = .ok (.bipush 20, 2) := by decide +kernel
theorem dX6_forecast_4 : decode cX6_forecast 4 = .ok (.invokestatic 45, 3) := by decide +kernel
theorem dX6_forecast_7 : decode cX6_forecast 7 = .ok (.istore_n 2, 1) := by decide +kernel
theorem dX6_forecast_8 : decode cX6_forecast 8 = .ok (.aload_n 0, 1) := by decide +kernel
theorem dX6_forecast_9 : decode cX6_forecast 9 = .ok (.iload_n 2, 1) := by decide +kernel
theorem dX6_forecast_10 : decode cX6_forecast 10 = .ok (.iload_n 2, 1) := by decide +kernel
theorem dX6_forecast_11 : decode cX6_forecast 11 = .ok (.ifCond .eq 30, 3) := by decide +kernel
theorem dX6_forecast_14 : decode cX6_forecast 14 = .ok (.aload_n 0, 1) := by decide +kernel
theorem dX6_forecast_15 : decode cX6_forecast 15 = .ok (.getfield 7, 3) := by decide +kernel
theorem dX6_forecast_18 : decode cX6_forecast 18 = .ok (.bipush 89, 2) := by decide +kernel
theorem dX6_forecast_20 : decode cX6_forecast 20 = .ok (.iaload, 1) := by decide +kernel
theorem dX6_forecast_21 : decode cX6_forecast 21 = .ok (.iload_n 1, 1) := by decide +kernel
theorem dX6_forecast_22 : decode cX6_forecast 22 = .ok (.iadd, 1) := by decide +kernel
theorem dX6_forecast_23 : decode cX6_forecast 23 = .ok (.bipush 60, 2) := by decide +kernel
theorem dX6_forecast_25 : decode cX6_forecast 25 = .ok (.if_icmp .gt 16, 3) := by decide +kernel
theorem dX6_forecast_28 : decode cX6_forecast 28 = .ok (.aload_n 0, 1) := by decide +kernel
theorem dX6_forecast_29 : decode cX6_forecast 29 = .ok (.getfield 120, 3) := by decide +kernel
theorem dX6_forecast_32 : decode cX6_forecast 32 = .ok (.bipush 10, 2) := by decide +kernel
theorem dX6_forecast_34 : decode cX6_forecast 34 = .ok (.if_icmp .ge 7, 3) := by decide +kernel
theorem dX6_forecast_37 : decode cX6_forecast 37 = .ok (.iconst 1, 1) := by decide +kernel
theorem dX6_forecast_38 : decode cX6_forecast 38 = .ok (.goto 4, 3) := by decide +kernel
theorem dX6_forecast_41 : decode cX6_forecast 41 = .ok (.iconst 0, 1) := by decide +kernel
theorem dX6_forecast_42 : decode cX6_forecast 42 = .ok (.invokevirtual 113, 3) := by decide +kernel
theorem dX6_forecast_45 : decode cX6_forecast 45 = .ok (.ifCond .ne 5, 3) := by decide +kernel
theorem dX6_forecast_48 : decode cX6_forecast 48 = .ok (.iconst 0, 1) := by decide +kernel
theorem dX6_forecast_49 : decode cX6_forecast 49 = .ok (.ireturn, 1) := by decide +kernel
theorem dX6_forecast_50 : decode cX6_forecast 50 = .ok (.aload_n 0, 1) := by decide +kernel
theorem dX6_forecast_51 : decode cX6_forecast 51 = .ok (.getfield 29, 3) := by decide +kernel
theorem dX6_forecast_54 : decode cX6_forecast 54 = .ok (.aload_n 0, 1) := by decide +kernel
theorem dX6_forecast_55 : decode cX6_forecast 55 = .ok (.getfield 120, 3) := by decide +kernel
theorem dX6_forecast_58 : decode cX6_forecast 58 = .ok (.aload_n 0, 1) := by decide +kernel
theorem dX6_forecast_59 : decode cX6_forecast 59 = .ok (.getfield 7, 3) := by decide +kernel
theorem dX6_forecast_62 : decode cX6_forecast 62 = .ok (.bipush 89, 2) := by decide +kernel
theorem dX6_forecast_64 : decode cX6_forecast 64 = .ok (.iaload, 1) := by decide +kernel
theorem dX6_forecast_65 : decode cX6_forecast 65 = .ok (.iload_n 1, 1) := by decide +kernel
theorem dX6_forecast_66 : decode cX6_forecast 66 = .ok (.iadd, 1) := by decide +kernel
theorem dX6_forecast_67 : decode cX6_forecast 67 = .ok (.iastore, 1) := by decide +kernel
theorem dX6_forecast_68 : decode cX6_forecast 68 = .ok (.aload_n 0, 1) := by decide +kernel
theorem dX6_forecast_69 : decode cX6_forecast 69 = .ok (.iconst 0, 1) := by decide +kernel
theorem dX6_forecast_70 : decode cX6_forecast 70 = .ok (.invokevirtual 130, 3) := by decide +kernel
theorem dX6_forecast_73 : decode cX6_forecast 73 = .ok (.aload_n 0, 1) := by decide +kernel
theorem dX6_forecast_74 : decode cX6_forecast 74 = .ok (.iload_n 1, 1) := by decide +kernel
theorem dX6_forecast_75 : decode cX6_forecast 75 = .ok (.invokevirtual 116, 3) := by decide +kernel
theorem dX6_forecast_78 : decode cX6_forecast 78 = .ok (.aload_n 0, 1) := by decide +kernel
theorem dX6_forecast_79 : decode cX6_forecast 79 = .ok (.getfield 32, 3) := by decide +kernel
theorem dX6_forecast_82 : decode cX6_forecast 82 = .ok (.aload_n 0, 1) := by decide +kernel
theorem dX6_forecast_83 : decode cX6_forecast 83 = .ok (.getfield 120, 3) := by decide +kernel
theorem dX6_forecast_86 : decode cX6_forecast 86 = .ok (.aload_n 0, 1) := by decide +kernel
theorem dX6_forecast_87 : decode cX6_forecast 87 = .ok (.invokevirtual 123, 3) := by decide +kernel
theorem dX6_forecast_90 : decode cX6_forecast 90 = .ok (.iastore, 1) := by decide +kernel
theorem dX6_forecast_91 : decode cX6_forecast 91 = .ok (.aload_n 0, 1) := by decide +kernel
theorem dX6_forecast_92 : decode cX6_forecast 92 = .ok (.iconst 1, 1) := by decide +kernel
theorem dX6_forecast_93 : decode cX6_forecast 93 = .ok (.invokevirtual 130, 3) := by decide +kernel
theorem dX6_forecast_96 : decode cX6_forecast 96 = .ok (.aload_n 0, 1) := by decide +kernel
theorem dX6_forecast_97 : decode cX6_forecast 97 = .ok (.getfield 35, 3) := by decide +kernel
theorem dX6_forecast_100 : decode cX6_forecast 100 = .ok (.aload_n 0, 1) := by decide +kernel
theorem dX6_forecast_101 : decode cX6_forecast 101 = .ok (.getfield 120, 3) := by decide +kernel
theorem dX6_forecast_104 : decode cX6_forecast 104 = .ok (.iconst (-1), 1) := by decide +kernel
theorem dX6_forecast_105 : decode cX6_forecast 105 = .ok (.iastore, 1) := by decide +kernel
theorem dX6_forecast_106 : decode cX6_forecast 106 = .ok (.aload_n 0, 1) := by decide +kernel
theorem dX6_forecast_107 : decode cX6_forecast 107 = .ok (.dup, 1) := by decide +kernel
theorem dX6_forecast_108 : decode cX6_forecast 108 = .ok (.getfield 120, 3) := by decide +kernel
theorem dX6_forecast_111 : decode cX6_forecast 111 = .ok (.iconst 1, 1) := by decide +kernel
theorem dX6_forecast_112 : decode cX6_forecast 112 = .ok (.iadd, 1) := by decide +kernel
theorem dX6_forecast_113 : decode cX6_forecast 113 = .ok (.putfield 120, 3) := by decide +kernel
theorem dX6_forecast_116 : decode cX6_forecast 116 = .ok (.aload_n 0, 1) := by decide +kernel
theorem dX6_forecast_117 : decode cX6_forecast 117 = .ok (.getfield 32, 3) := by decide +kernel
theorem dX6_forecast_120 : decode cX6_forecast 120 = .ok (.aload_n 0, 1) := by decide +kernel
theorem dX6_forecast_121 : decode cX6_forecast 121 = .ok (.getfield 120, 3) := by decide +kernel
theorem dX6_forecast_124 : decode cX6_forecast 124 = .ok (.iconst 1, 1) := by decide +kernel
theorem dX6_forecast_125 : decode cX6_forecast 125 = .ok (.isub, 1) := by decide +kernel
theorem dX6_forecast_126 : decode cX6_forecast 126 = .ok (.iaload, 1) := by decide +kernel
theorem dX6_forecast_127 : decode cX6_forecast 127 = .ok (.ireturn, 1) := by decide +kernel
set_option maxRecDepth 20000 in
theorem ggX6_miss_X6_in : GoodIn wsX6_miss wsX6_in := goodIn_r _ [6] (by decide +kernel) (by decide +kernel)
set_option maxRecDepth 20000 in
theorem gX6_miss_X6_in : GoodIn wsX6_miss (va_wsS RX6 45 yX6_in wsX6_in) := goodIn_app (goodIn_of _ (by decide +kernel)) ggX6_miss_X6_in
set_option maxRecDepth 20000 in
theorem ggX6_miss_X6_asked : GoodIn wsX6_miss wsX6_asked := goodIn_r _ [10, 11, 12, 13, 14, 15, 16, 17, 18, 19, 20, 21, 22, 23, 24, 25, 26, 27] (by decide +kernel) (by decide +kernel)
set_option maxRecDepth 20000 in
theorem gX6_miss_X6_asked : GoodIn wsX6_miss (wsV RX6 64 RX6 yX6_asked wsX6_asked) := goodIn_app (goodIn_of _ (by decide +kernel)) ggX6_miss_X6_asked
theorem dX6_miss_0 : decode cX6_miss 0 = .ok (.aload_n 0, 1) := by decide +kernel
theorem dX6_miss_1 : decode cX6_miss 1 = .ok (.iload_n 1, 1) := by decide +kernel
theorem dX6_miss_2 : decode cX6_miss 2 = .ok (.iconst 0, 1) := by decide +kernel
theorem dX6_miss_3 : decode cX6_miss 3 = .ok (.aload_n 0, 1) := by decide +kernel
theorem dX6_miss_4 : decode cX6_miss 4 = .ok (.getfield 120, 3) := by decide +kernel
theorem dX6_miss_7 : decode cX6_miss 7 = .ok (.iconst 1, 1) := by decide +kernel
theorem dX6_miss_8 : decode cX6_miss 8 = .ok (.isub, 1) := by decide +kernel
theorem dX6_miss_9 : decode cX6_miss 9 = .ok (.invokestatic 45, 3) := by decide +kernel
theorem dX6_miss_12 : decode cX6_miss 12 = .ok (.invokevirtual 64, 3) := by decide +kernel
theorem dX6_miss_15 : decode cX6_miss 15 = .ok (.ifCond .eq 12, 3) := by decide +kernel
theorem dX6_miss_18 : decode cX6_miss 18 = .ok (.aload_n 0, 1) := by decide +kernel
theorem dX6_miss_19 : decode cX6_miss 19 = .ok (.getfield 35, 3) := by decide +kernel
theorem dX6_miss_22 : decode cX6_miss 22 = .ok (.iload_n 1, 1) := by decide +kernel
theorem dX6_miss_23 : decode cX6_miss 23 = .ok (.iaload, 1) := by decide +kernel
theorem dX6_miss_24 : decode cX6_miss 24 = .ok (.goto 4, 3) := by decide +kernel
theorem dX6_miss_27 : decode cX6_miss 27 = .ok (.iconst 0, 1) := by decide +kernel
theorem dX6_miss_28 : decode cX6_miss 28 = .ok (.ireturn, 1) := by decide +kernel
theorem dJ9_floorDiv_7cf53_0 : decode cJ9_floorDiv_7cf53 0 = .ok (.iload_n 0, 1) := by decide +kernel
theorem dJ9_floorDiv_7cf53_1 : decode cJ9_floorDiv_7cf53 1 = .ok (.iload_n 1, 1) := by decide +kernel
theorem dJ9_floorDiv_7cf53_2 : decode cJ9_floorDiv_7cf53 2 = .ok (.idiv, 1) := by decide +kernel
theorem dJ9_floorDiv_7cf53_3 : decode cJ9_floorDiv_7cf53 3 = .ok (.istore_n 2, 1) := by decide +kernel
theorem dJ9_floorDiv_7cf53_4 : decode cJ9_floorDiv_7cf53 4 = .ok (.iload_n 0, 1) := by decide +kernel
theorem dJ9_floorDiv_7cf53_5 : decode cJ9_floorDiv_7cf53 5 = .ok (.iload_n 1, 1) := by decide +kernel
theorem dJ9_floorDiv_7cf53_6 : decode cJ9_floorDiv_7cf53 6 = .ok (.ixor, 1) := by decide +kernel
theorem dJ9_floorDiv_7cf53_7 : decode cJ9_floorDiv_7cf53 7 = .ok (.ifCond .ge 14, 3) := by decide +kernel
theorem dJ9_floorDiv_7cf53_10 : decode cJ9_floorDiv_7cf53 10 = .ok (.iload_n 2, 1) := by decide +kernel
theorem dJ9_floorDiv_7cf53_11 : decode cJ9_floorDiv_7cf53 11 = .ok (.iload_n 1, 1) := by decide +kernel
theorem dJ9_floorDiv_7cf53_12 : decode cJ9_floorDiv_7cf53 12 = .ok (.imul, 1) := by decide +kernel
theorem dJ9_floorDiv_7cf53_13 : decode cJ9_floorDiv_7cf53 13 = .ok (.iload_n 0, 1) := by decide +kernel
theorem dJ9_floorDiv_7cf53_14 : decode cJ9_floorDiv_7cf53 14 = .ok (.if_icmp .eq 7, 3) := by decide +kernel
theorem dJ9_floorDiv_7cf53_17 : decode cJ9_floorDiv_7cf53 17 = .ok (.iload_n 2, 1) := by decide +kernel
theorem dJ9_floorDiv_7cf53_18 : decode cJ9_floorDiv_7cf53 18 = .ok (.iconst 1, 1) := by decide +kernel
theorem dJ9_floorDiv_7cf53_19 : decode cJ9_floorDiv_7cf53 19 = .ok (.isub, 1) := by decide +kernel
theorem dJ9_floorDiv_7cf53_20 : decode cJ9_floorDiv_7cf53 20 = .ok (.ireturn, 1) := by decide +kernel
theorem dJ9_floorDiv_7cf53_21 : decode cJ9_floorDiv_7cf53 21 = .ok (.iload_n 2, 1) := by decide +kernel
theorem dJ9_floorDiv_7cf53_22 : decode cJ9_floorDiv_7cf53 22 = .ok (.ireturn, 1) := by decide +kernel
theorem dJ9_floorDiv_f86c9_0 : decode cJ9_floorDiv_f86c9 0 = .ok (.lload_n 0, 1) := by decide +kernel
theorem dJ9_floorDiv_f86c9_1 : decode cJ9_floorDiv_f86c9 1 = .ok (.lload_n 2, 1) := by decide +kernel
theorem dJ9_floorDiv_f86c9_2 : decode cJ9_floorDiv_f86c9 2 = .ok (.ldiv, 1) := by decide +kernel
theorem dJ9_floorDiv_f86c9_3 : decode cJ9_floorDiv_f86c9 3 = .ok (.lstore 4, 2) := by decide +kernel
theorem dJ9_floorDiv_f86c9_5 : decode cJ9_floorDiv_f86c9 5 = .ok (.lload_n 0, 1) := by decide +kernel
theorem dJ9_floorDiv_f86c9_6 : decode cJ9_floorDiv_f86c9 6 = .ok (.lload_n 2, 1) := by decide +kernel
theorem dJ9_floorDiv_f86c9_7 : decode cJ9_floorDiv_f86c9 7 = .ok (.lxor, 1) := by decide +kernel
theorem dJ9_floorDiv_f86c9_8 : decode cJ9_floorDiv_f86c9 8 = .ok (.lconst 0, 1) := by decide +kernel
theorem dJ9_floorDiv_f86c9_9 : decode cJ9_floorDiv_f86c9 9 = .ok (.lcmp, 1) := by decide +kernel
theorem dJ9_floorDiv_f86c9_10 : decode cJ9_floorDiv_f86c9 10 = .ok (.ifCond .ge 17, 3) := by decide +kernel
theorem dJ9_floorDiv_f86c9_13 : decode cJ9_floorDiv_f86c9 13 = .ok (.lload 4, 2) := by decide +kernel
theorem dJ9_floorDiv_f86c9_15 : decode cJ9_floorDiv_f86c9 15 = .ok (.lload_n 2, 1) := by decide +kernel
theorem dJ9_floorDiv_f86c9_16 : decode cJ9_floorDiv_f86c9 16 = .ok (.lmul, 1) := by decide +kernel
theorem dJ9_floorDiv_f86c9_17 : decode cJ9_floorDiv_f86c9 17 = .ok (.lload_n 0, 1) := by decide +kernel
theorem dJ9_floorDiv_f86c9_18 : decode cJ9_floorDiv_f86c9 18 = .ok (.lcmp, 1) := by decide +kernel
theorem dJ9_floorDiv_f86c9_19 : decode cJ9_floorDiv_f86c9 19 = .ok (.ifCond .eq 8, 3) := by decide +kernel
theorem dJ9_floorDiv_f86c9_22 : decode cJ9_floorDiv_f86c9 22 = .ok (.lload 4, 2) := by decide +kernel
theorem dJ9_floorDiv_f86c9_24 : decode cJ9_floorDiv_f86c9 24 = .ok (.lconst 1, 1) := by decide +kernel
theorem dJ9_floorDiv_f86c9_25 : decode cJ9_floorDiv_f86c9 25 = .ok (.lsub, 1) := by decide +kernel
theorem dJ9_floorDiv_f86c9_26 : decode cJ9_floorDiv_f86c9 26 = .ok (.lreturn, 1) := by decide +kernel
theorem dJ9_floorDiv_f86c9_27 : decode cJ9_floorDiv_f86c9 27 = .ok (.lload 4, 2) := by decide +kernel
theorem dJ9_floorDiv_f86c9_29 : decode cJ9_floorDiv_f86c9 29 = .ok (.lreturn, 1) := by decide +kernel
theorem dJ9_abs_0f7a4_0 : decode cJ9_abs_0f7a4 0 = .ok (.iload_n 0, 1) := by decide +kernel
theorem dJ9_abs_0f7a4_1 : decode cJ9_abs_0f7a4 1 = .ok (.ifCond .ge 8, 3) := by decide +kernel
theorem dJ9_abs_0f7a4_4 : decode cJ9_abs_0f7a4 4 = .ok (.iload_n 0, 1) := by decide +kernel
theorem dJ9_abs_0f7a4_5 : decode cJ9_abs_0f7a4 5 = .ok (.ineg, 1) := by decide +kernel
theorem dJ9_abs_0f7a4_6 : decode cJ9_abs_0f7a4 6 = .ok (.goto 4, 3) := by decide +kernel
theorem dJ9_abs_0f7a4_9 : decode cJ9_abs_0f7a4 9 = .ok (.iload_n 0, 1) := by decide +kernel
theorem dJ9_abs_0f7a4_10 : decode cJ9_abs_0f7a4 10 = .ok (.ireturn, 1) := by decide +kernel
theorem dJ9_min_7cf53_0 : decode cJ9_min_7cf53 0 = .ok (.iload_n 0, 1) := by decide +kernel
theorem dJ9_min_7cf53_1 : decode cJ9_min_7cf53 1 = .ok (.iload_n 1, 1) := by decide +kernel
theorem dJ9_min_7cf53_2 : decode cJ9_min_7cf53 2 = .ok (.if_icmp .gt 7, 3) := by decide +kernel
theorem dJ9_min_7cf53_5 : decode cJ9_min_7cf53 5 = .ok (.iload_n 0, 1) := by decide +kernel
theorem dJ9_min_7cf53_6 : decode cJ9_min_7cf53 6 = .ok (.goto 4, 3) := by decide +kernel
theorem dJ9_min_7cf53_9 : decode cJ9_min_7cf53 9 = .ok (.iload_n 1, 1) := by decide +kernel
theorem dJ9_min_7cf53_10 : decode cJ9_min_7cf53 10 = .ok (.ireturn, 1) := by decide +kernel
theorem dJ9_min_f86c9_0 : decode cJ9_min_f86c9 0 = .ok (.lload_n 0, 1) := by decide +kernel
theorem dJ9_min_f86c9_1 : decode cJ9_min_f86c9 1 = .ok (.lload_n 2, 1) := by decide +kernel
theorem dJ9_min_f86c9_2 : decode cJ9_min_f86c9 2 = .ok (.lcmp, 1) := by decide +kernel
theorem dJ9_min_f86c9_3 : decode cJ9_min_f86c9 3 = .ok (.ifCond .gt 7, 3) := by decide +kernel
theorem dJ9_min_f86c9_6 : decode cJ9_min_f86c9 6 = .ok (.lload_n 0, 1) := by decide +kernel
theorem dJ9_min_f86c9_7 : decode cJ9_min_f86c9 7 = .ok (.goto 4, 3) := by decide +kernel
theorem dJ9_min_f86c9_10 : decode cJ9_min_f86c9 10 = .ok (.lload_n 2, 1) := by decide +kernel
theorem dJ9_min_f86c9_11 : decode cJ9_min_f86c9 11 = .ok (.lreturn, 1) := by decide +kernel
set_option maxRecDepth 20000 in
theorem ggL_land_X5_land : GoodIn wsL_land wsX5_land := goodIn_ca (goodIn_ca (goodIn_ca (goodIn_r _ [8, 9, 10, 11, 12, 13, 14, 15, 16, 17, 18, 7, 19, 20, 21, 22, 23, 24, 25, 26, 27, 28, 29, 30, 31, 32, 33, 34, 35, 36, 37, 38, 39, 40, 41, 42, 43, 44, 45, 46, 47, 48] (by decide +kernel) (by decide +kernel)) (goodIn_sub (fun _ h => List.mem_cons_of_mem _ (List.mem_append_left _ (List.mem_append_left _ (List.mem_append_right _ h)))) (by decide +kernel))) (goodIn_sub (fun _ h => List.mem_cons_of_mem _ (List.mem_append_left _ (List.mem_append_right _ h))) (by decide +kernel))) (goodIn_sub (fun _ h => List.mem_cons_of_mem _ (List.mem_append_right _ h)) (by decide +kernel))
set_option maxRecDepth 20000 in
theorem gL_land_X5_land : GoodIn wsL_land (wsV RL 7 RX5 yX5_land wsX5_land) := goodIn_app (goodIn_of _ (by decide +kernel)) ggL_land_X5_land
theorem dL_land_0 : decode cL_land 0 = .ok (.aload_n 3, 1) := by decide +kernel
theorem dL_land_1 : decode cL_land 1 = .ok (.iconst 0, 1) := by decide +kernel
theorem dL_land_2 : decode cL_land 2 = .ok (.aload_n 0, 1) := by decide +kernel
theorem dL_land_3 : decode cL_land 3 = .ok (.iload_n 1, 1) := by decide +kernel
theorem dL_land_4 : decode cL_land 4 = .ok (.iload_n 2, 1) := by decide +kernel
theorem dL_land_5 : decode cL_land 5 = .ok (.invokevirtual 7, 3) := by decide +kernel
theorem dL_land_8 : decode cL_land 8 = .ok (.i2l, 1) := by decide +kernel
theorem dL_land_9 : decode cL_land 9 = .ok (.lastore, 1) := by decide +kernel
theorem dL_land_10 : decode cL_land 10 = .ok (.goto 15, 3) := by decide +kernel
theorem dL_land_13 : decode cL_land 13 = .ok (.astore 4, 2) := by decide +kernel
theorem dL_land_15 : decode cL_land 15 = .ok (.iconst 1, 1) := by decide +kernel
theorem dL_land_16 : decode cL_land 16 = .ok (.ireturn, 1) := by decide +kernel
theorem dL_land_17 : decode cL_land 17 = .ok (.astore 4, 2) := by decide +kernel
theorem dL_land_19 : decode cL_land 19 = .ok (.iconst 2, 1) := by decide +kernel
theorem dL_land_20 : decode cL_land 20 = .ok (.ireturn, 1) := by decide +kernel
theorem dL_land_21 : decode cL_land 21 = .ok (.astore 4, 2) := by decide +kernel
theorem dL_land_23 : decode cL_land 23 = .ok (.iconst 3, 1) := by decide +kernel
theorem dL_land_24 : decode cL_land 24 = .ok (.ireturn, 1) := by decide +kernel
theorem dL_land_25 : decode cL_land 25 = .ok (.iconst 0, 1) := by decide +kernel
theorem dL_land_26 : decode cL_land 26 = .ok (.ireturn, 1) := by decide +kernel
set_option maxRecDepth 20000 in
theorem ggL_sea_X5_sea : GoodIn wsL_sea wsX5_sea := goodIn_ca (goodIn_r _ [6, 7, 8, 9, 10, 5, 11, 12, 13, 14, 15, 16, 17, 18, 19, 20, 21, 22, 23, 24, 25, 26, 27, 28, 29, 30, 31, 32, 33] (by decide +kernel) (by decide +kernel)) (goodIn_sub (fun _ h => List.mem_cons_of_mem _ (List.mem_append_right _ h)) (by decide +kernel))
set_option maxRecDepth 20000 in
theorem gL_sea_X5_sea : GoodIn wsL_sea (wsV RL 19 RX5 yX5_sea wsX5_sea) := goodIn_app (goodIn_of _ (by decide +kernel)) ggL_sea_X5_sea
theorem dL_sea_0 : decode cL_sea 0 = .ok (.aload_n 2, 1) := by decide +kernel
theorem dL_sea_1 : decode cL_sea 1 = .ok (.iconst 0, 1) := by decide +kernel
theorem dL_sea_2 : decode cL_sea 2 = .ok (.aload_n 0, 1) := by decide +kernel
theorem dL_sea_3 : decode cL_sea 3 = .ok (.iload_n 1, 1) := by decide +kernel
theorem dL_sea_4 : decode cL_sea 4 = .ok (.invokevirtual 19, 3) := by decide +kernel
theorem dL_sea_7 : decode cL_sea 7 = .ok (.i2l, 1) := by decide +kernel
theorem dL_sea_8 : decode cL_sea 8 = .ok (.lastore, 1) := by decide +kernel
theorem dL_sea_9 : decode cL_sea 9 = .ok (.goto 6, 3) := by decide +kernel
theorem dL_sea_12 : decode cL_sea 12 = .ok (.astore_n 3, 1) := by decide +kernel
theorem dL_sea_13 : decode cL_sea 13 = .ok (.iconst 1, 1) := by decide +kernel
theorem dL_sea_14 : decode cL_sea 14 = .ok (.ireturn, 1) := by decide +kernel
theorem dL_sea_15 : decode cL_sea 15 = .ok (.iconst 0, 1) := by decide +kernel
theorem dL_sea_16 : decode cL_sea 16 = .ok (.ireturn, 1) := by decide +kernel
set_option maxRecDepth 20000 in
theorem ggL_climate_X5_climate : GoodIn wsL_climate wsX5_climate := goodIn_ca (goodIn_r _ [6, 7, 8, 9, 10, 11, 12, 5, 13, 14, 15, 16, 17, 18, 19, 20, 21, 22, 23, 24, 25, 26, 27, 28, 29, 30, 31, 32, 33, 34, 35] (by decide +kernel) (by decide +kernel)) (goodIn_sub (fun _ h => List.mem_cons_of_mem _ (List.mem_append_right _ h)) (by decide +kernel))
set_option maxRecDepth 20000 in
theorem gL_climate_X5_climate : GoodIn wsL_climate (wsV RL 23 RX5 yX5_climate wsX5_climate) := goodIn_app (goodIn_of _ (by decide +kernel)) ggL_climate_X5_climate
theorem dL_climate_0 : decode cL_climate 0 = .ok (.aload_n 0, 1) := by decide +kernel
theorem dL_climate_1 : decode cL_climate 1 = .ok (.iload_n 1, 1) := by decide +kernel
theorem dL_climate_2 : decode cL_climate 2 = .ok (.iload_n 2, 1) := by decide +kernel
theorem dL_climate_3 : decode cL_climate 3 = .ok (.iload_n 3, 1) := by decide +kernel
theorem dL_climate_4 : decode cL_climate 4 = .ok (.invokevirtual 23, 3) := by decide +kernel
theorem dL_climate_7 : decode cL_climate 7 = .ok (.goto 7, 3) := by decide +kernel
theorem dL_climate_10 : decode cL_climate 10 = .ok (.astore 4, 2) := by decide +kernel
theorem dL_climate_12 : decode cL_climate 12 = .ok (.iconst 1, 1) := by decide +kernel
theorem dL_climate_13 : decode cL_climate 13 = .ok (.ireturn, 1) := by decide +kernel
theorem dL_climate_14 : decode cL_climate 14 = .ok (.iconst 0, 1) := by decide +kernel
theorem dL_climate_15 : decode cL_climate 15 = .ok (.ireturn, 1) := by decide +kernel
set_option maxRecDepth 20000 in
theorem ggL_ice_X5_ice : GoodIn wsL_ice wsX5_ice := goodIn_ca (goodIn_ca (goodIn_ca (goodIn_r _ [8, 9, 10, 11, 12, 13, 14, 15, 16, 17, 18, 7, 19, 20, 21, 22, 23, 24, 25, 26, 27, 28, 29, 30, 31, 32, 33, 34, 35, 36, 37, 38, 39, 40, 41, 42, 43, 44, 45, 46, 47, 48, 49, 50, 51, 52, 53, 54, 55, 56, 57, 58, 59, 60] (by decide +kernel) (by decide +kernel)) (goodIn_sub (fun _ h => List.mem_cons_of_mem _ (List.mem_append_left _ (List.mem_append_left _ (List.mem_append_right _ h)))) (by decide +kernel))) (goodIn_sub (fun _ h => List.mem_cons_of_mem _ (List.mem_append_left _ (List.mem_append_right _ h))) (by decide +kernel))) (goodIn_sub (fun _ h => List.mem_cons_of_mem _ (List.mem_append_right _ h)) (by decide +kernel))
set_option maxRecDepth 20000 in
theorem gL_ice_X5_ice : GoodIn wsL_ice (wsV RL 27 RX5 yX5_ice wsX5_ice) := goodIn_app (goodIn_of _ (by decide +kernel)) ggL_ice_X5_ice
theorem dL_ice_0 : decode cL_ice 0 = .ok (.aload_n 3, 1) := by decide +kernel
theorem dL_ice_1 : decode cL_ice 1 = .ok (.iconst 0, 1) := by decide +kernel
theorem dL_ice_2 : decode cL_ice 2 = .ok (.aload_n 0, 1) := by decide +kernel
theorem dL_ice_3 : decode cL_ice 3 = .ok (.iload_n 1, 1) := by decide +kernel
theorem dL_ice_4 : decode cL_ice 4 = .ok (.iload_n 2, 1) := by decide +kernel
theorem dL_ice_5 : decode cL_ice 5 = .ok (.invokevirtual 27, 3) := by decide +kernel
theorem dL_ice_8 : decode cL_ice 8 = .ok (.i2l, 1) := by decide +kernel
theorem dL_ice_9 : decode cL_ice 9 = .ok (.lastore, 1) := by decide +kernel
theorem dL_ice_10 : decode cL_ice 10 = .ok (.goto 15, 3) := by decide +kernel
theorem dL_ice_13 : decode cL_ice 13 = .ok (.astore 4, 2) := by decide +kernel
theorem dL_ice_15 : decode cL_ice 15 = .ok (.iconst 1, 1) := by decide +kernel
theorem dL_ice_16 : decode cL_ice 16 = .ok (.ireturn, 1) := by decide +kernel
theorem dL_ice_17 : decode cL_ice 17 = .ok (.astore 4, 2) := by decide +kernel
theorem dL_ice_19 : decode cL_ice 19 = .ok (.iconst 2, 1) := by decide +kernel
theorem dL_ice_20 : decode cL_ice 20 = .ok (.ireturn, 1) := by decide +kernel
theorem dL_ice_21 : decode cL_ice 21 = .ok (.astore 4, 2) := by decide +kernel
theorem dL_ice_23 : decode cL_ice 23 = .ok (.iconst 3, 1) := by decide +kernel
theorem dL_ice_24 : decode cL_ice 24 = .ok (.ireturn, 1) := by decide +kernel
theorem dL_ice_25 : decode cL_ice 25 = .ok (.iconst 0, 1) := by decide +kernel
theorem dL_ice_26 : decode cL_ice 26 = .ok (.ireturn, 1) := by decide +kernel
set_option maxRecDepth 20000 in
theorem ggL_pass_X5_pass : GoodIn wsL_pass wsX5_pass := goodIn_ca (goodIn_ca (goodIn_r _ [7, 8, 9, 10, 11, 12, 6, 13, 14, 15, 16, 17, 18, 19, 20, 21, 22, 23, 24, 25, 26, 27, 28, 29, 30, 31, 32, 33, 34, 35, 36, 37, 38, 39, 40, 41, 42, 43, 44, 45, 46, 47, 48, 49, 50, 51, 52, 53, 54, 55, 56, 57, 58, 59, 60, 61, 62, 63, 64, 65, 66, 67, 68, 69, 70, 71, 72, 73, 74, 75, 76, 77, 78, 79, 80, 81, 82, 83, 84, 85, 86, 87, 88, 89, 90, 91, 92, 93, 94, 95, 96, 97, 98, 99, 100, 101, 102, 103, 104, 105, 106, 107, 108, 109, 110, 111, 112, 113, 114, 115, 116, 117, 118, 119, 120, 121, 122, 123, 124, 125, 126, 127, 128, 129, 130, 131, 132, 133, 134, 135, 136, 137, 138, 139, 140, 141, 142, 143, 144, 145, 146, 147, 148, 149, 150, 151, 152, 153, 154, 155, 156, 157, 158, 159, 160, 161, 162, 163, 164, 165, 166, 167, 168, 169, 170, 171, 172, 173, 174, 175, 176, 177, 178, 179, 180, 181, 182, 183, 184, 185, 186, 187, 188, 189] (by decide +kernel) (by decide +kernel)) (goodIn_sub (fun _ h => List.mem_cons_of_mem _ (List.mem_append_left _ (List.mem_append_right _ h))) (by decide +kernel))) (goodIn_sub (fun _ h => List.mem_cons_of_mem _ (List.mem_append_right _ h)) (by decide +kernel))
set_option maxRecDepth 20000 in
theorem gL_pass_X5_pass : GoodIn wsL_pass (wsV RL 30 RX5 yX5_pass wsX5_pass) := goodIn_app (goodIn_of _ (by decide +kernel)) ggL_pass_X5_pass
theorem dL_pass_0 : decode cL_pass 0 = .ok (.aload_n 2, 1) := by decide +kernel
theorem dL_pass_1 : decode cL_pass 1 = .ok (.iconst 0, 1) := by decide +kernel
theorem dL_pass_2 : decode cL_pass 2 = .ok (.aload_n 0, 1) := by decide +kernel
theorem dL_pass_3 : decode cL_pass 3 = .ok (.iload_n 1, 1) := by decide +kernel
theorem dL_pass_4 : decode cL_pass 4 = .ok (.invokevirtual 30, 3) := by decide +kernel
theorem dL_pass_7 : decode cL_pass 7 = .ok (.i2l, 1) := by decide +kernel
theorem dL_pass_8 : decode cL_pass 8 = .ok (.lastore, 1) := by decide +kernel
theorem dL_pass_9 : decode cL_pass 9 = .ok (.goto 9, 3) := by decide +kernel
theorem dL_pass_12 : decode cL_pass 12 = .ok (.astore_n 3, 1) := by decide +kernel
theorem dL_pass_13 : decode cL_pass 13 = .ok (.iconst 1, 1) := by decide +kernel
theorem dL_pass_14 : decode cL_pass 14 = .ok (.ireturn, 1) := by decide +kernel
theorem dL_pass_15 : decode cL_pass 15 = .ok (.astore_n 3, 1) := by decide +kernel
theorem dL_pass_16 : decode cL_pass 16 = .ok (.iconst 2, 1) := by decide +kernel
theorem dL_pass_17 : decode cL_pass 17 = .ok (.ireturn, 1) := by decide +kernel
theorem dL_pass_18 : decode cL_pass 18 = .ok (.iconst 0, 1) := by decide +kernel
theorem dL_pass_19 : decode cL_pass 19 = .ok (.ireturn, 1) := by decide +kernel
set_option maxRecDepth 20000 in
theorem ggL_cellIs_X5_cellIs : GoodIn wsL_cellIs wsX5_cellIs := goodIn_ca (goodIn_ca (goodIn_r _ [7, 8, 9, 10, 6, 11, 12, 13, 14, 15, 16, 17, 18, 19, 20, 21, 22, 23, 24, 25, 26, 27, 28, 29, 30, 31, 32, 33, 34, 35, 36, 37, 38, 39, 40, 41, 42, 43, 44, 45, 46, 47, 48, 49, 50, 51, 52, 53, 54, 55, 56, 57, 58, 59, 60, 61, 62, 63, 64, 65, 66, 67, 68, 69, 70, 71, 72, 73, 74] (by decide +kernel) (by decide +kernel)) (goodIn_sub (fun _ h => List.mem_cons_of_mem _ (List.mem_append_left _ (List.mem_append_right _ h))) (by decide +kernel))) (goodIn_sub (fun _ h => List.mem_cons_of_mem _ (List.mem_append_right _ h)) (by decide +kernel))
set_option maxRecDepth 20000 in
theorem gL_cellIs_X5_cellIs : GoodIn wsL_cellIs (wsV RL 33 RX5 yX5_cellIs wsX5_cellIs) := goodIn_app (goodIn_of _ (by decide +kernel)) ggL_cellIs_X5_cellIs
theorem dL_cellIs_0 : decode cL_cellIs 0 = .ok (.aload_n 3, 1) := by decide +kernel
theorem dL_cellIs_1 : decode cL_cellIs 1 = .ok (.iconst 0, 1) := by decide +kernel
theorem dL_cellIs_2 : decode cL_cellIs 2 = .ok (.aload_n 0, 1) := by decide +kernel
theorem dL_cellIs_3 : decode cL_cellIs 3 = .ok (.iload_n 1, 1) := by decide +kernel
theorem dL_cellIs_4 : decode cL_cellIs 4 = .ok (.iload_n 2, 1) := by decide +kernel
theorem dL_cellIs_5 : decode cL_cellIs 5 = .ok (.invokevirtual 33, 3) := by decide +kernel
theorem dL_cellIs_8 : decode cL_cellIs 8 = .ok (.i2l, 1) := by decide +kernel
theorem dL_cellIs_9 : decode cL_cellIs 9 = .ok (.lastore, 1) := by decide +kernel
theorem dL_cellIs_10 : decode cL_cellIs 10 = .ok (.goto 11, 3) := by decide +kernel
theorem dL_cellIs_13 : decode cL_cellIs 13 = .ok (.astore 4, 2) := by decide +kernel
theorem dL_cellIs_15 : decode cL_cellIs 15 = .ok (.iconst 1, 1) := by decide +kernel
theorem dL_cellIs_16 : decode cL_cellIs 16 = .ok (.ireturn, 1) := by decide +kernel
theorem dL_cellIs_17 : decode cL_cellIs 17 = .ok (.astore 4, 2) := by decide +kernel
theorem dL_cellIs_19 : decode cL_cellIs 19 = .ok (.iconst 2, 1) := by decide +kernel
theorem dL_cellIs_20 : decode cL_cellIs 20 = .ok (.ireturn, 1) := by decide +kernel
theorem dL_cellIs_21 : decode cL_cellIs 21 = .ok (.iconst 0, 1) := by decide +kernel
theorem dL_cellIs_22 : decode cL_cellIs 22 = .ok (.ireturn, 1) := by decide +kernel
set_option maxRecDepth 20000 in
theorem ggL_layer_X5_layer : GoodIn wsL_layer wsX5_layer := goodIn_ca (goodIn_ca (goodIn_r _ [7, 8, 9, 10, 11, 6, 12, 13, 14, 15, 16, 17, 18, 19, 20, 21, 22, 23, 24, 25, 26, 27, 28, 29, 30, 31, 32, 33, 34, 35, 36, 37, 38, 39, 40, 41, 42, 43, 44, 45, 46, 47] (by decide +kernel) (by decide +kernel)) (goodIn_sub (fun _ h => List.mem_cons_of_mem _ (List.mem_append_left _ (List.mem_append_right _ h))) (by decide +kernel))) (goodIn_sub (fun _ h => List.mem_cons_of_mem _ (List.mem_append_right _ h)) (by decide +kernel))
set_option maxRecDepth 20000 in
theorem gL_layer_X5_layer : GoodIn wsL_layer (wsV RL 36 RX5 yX5_layer wsX5_layer) := goodIn_app (goodIn_of _ (by decide +kernel)) ggL_layer_X5_layer
theorem dL_layer_0 : decode cL_layer 0 = .ok (.aload_n 3, 1) := by decide +kernel
theorem dL_layer_1 : decode cL_layer 1 = .ok (.iconst 0, 1) := by decide +kernel
theorem dL_layer_2 : decode cL_layer 2 = .ok (.aload_n 0, 1) := by decide +kernel
theorem dL_layer_3 : decode cL_layer 3 = .ok (.iload_n 1, 1) := by decide +kernel
theorem dL_layer_4 : decode cL_layer 4 = .ok (.iload_n 2, 1) := by decide +kernel
theorem dL_layer_5 : decode cL_layer 5 = .ok (.invokevirtual 36, 3) := by decide +kernel
theorem dL_layer_8 : decode cL_layer 8 = .ok (.i2l, 1) := by decide +kernel
theorem dL_layer_9 : decode cL_layer 9 = .ok (.lastore, 1) := by decide +kernel
theorem dL_layer_10 : decode cL_layer 10 = .ok (.goto 11, 3) := by decide +kernel
theorem dL_layer_13 : decode cL_layer 13 = .ok (.astore 4, 2) := by decide +kernel
theorem dL_layer_15 : decode cL_layer 15 = .ok (.iconst 1, 1) := by decide +kernel
theorem dL_layer_16 : decode cL_layer 16 = .ok (.ireturn, 1) := by decide +kernel
theorem dL_layer_17 : decode cL_layer 17 = .ok (.astore 4, 2) := by decide +kernel
theorem dL_layer_19 : decode cL_layer 19 = .ok (.iconst 2, 1) := by decide +kernel
theorem dL_layer_20 : decode cL_layer 20 = .ok (.ireturn, 1) := by decide +kernel
theorem dL_layer_21 : decode cL_layer 21 = .ok (.iconst 0, 1) := by decide +kernel
theorem dL_layer_22 : decode cL_layer 22 = .ok (.ireturn, 1) := by decide +kernel
set_option maxRecDepth 20000 in
theorem ggL_yearAt_X5_yearAt : GoodIn wsL_yearAt wsX5_yearAt := goodIn_ca (goodIn_ca (goodIn_r _ [7, 8, 9, 10, 11, 12, 6, 13, 14, 15, 16, 17, 18, 19, 20, 21, 22, 23, 24, 25, 26, 27, 28, 29, 30, 31, 32, 33, 34, 35, 36, 37, 38, 39, 40, 41, 42, 43, 44, 45, 46, 47, 48, 49, 50, 51, 52] (by decide +kernel) (by decide +kernel)) (goodIn_sub (fun _ h => List.mem_cons_of_mem _ (List.mem_append_left _ (List.mem_append_right _ h))) (by decide +kernel))) (goodIn_sub (fun _ h => List.mem_cons_of_mem _ (List.mem_append_right _ h)) (by decide +kernel))
set_option maxRecDepth 20000 in
theorem gL_yearAt_X5_yearAt : GoodIn wsL_yearAt (wsV RL 39 RX5 yX5_yearAt wsX5_yearAt) := goodIn_app (goodIn_of _ (by decide +kernel)) ggL_yearAt_X5_yearAt
theorem dL_yearAt_0 : decode cL_yearAt 0 = .ok (.aload_n 3, 1) := by decide +kernel
theorem dL_yearAt_1 : decode cL_yearAt 1 = .ok (.iconst 0, 1) := by decide +kernel
theorem dL_yearAt_2 : decode cL_yearAt 2 = .ok (.aload_n 0, 1) := by decide +kernel
theorem dL_yearAt_3 : decode cL_yearAt 3 = .ok (.iload_n 1, 1) := by decide +kernel
theorem dL_yearAt_4 : decode cL_yearAt 4 = .ok (.iload_n 2, 1) := by decide +kernel
theorem dL_yearAt_5 : decode cL_yearAt 5 = .ok (.invokevirtual 39, 3) := by decide +kernel
theorem dL_yearAt_8 : decode cL_yearAt 8 = .ok (.i2l, 1) := by decide +kernel
theorem dL_yearAt_9 : decode cL_yearAt 9 = .ok (.lastore, 1) := by decide +kernel
theorem dL_yearAt_10 : decode cL_yearAt 10 = .ok (.goto 11, 3) := by decide +kernel
theorem dL_yearAt_13 : decode cL_yearAt 13 = .ok (.astore 4, 2) := by decide +kernel
theorem dL_yearAt_15 : decode cL_yearAt 15 = .ok (.iconst 1, 1) := by decide +kernel
theorem dL_yearAt_16 : decode cL_yearAt 16 = .ok (.ireturn, 1) := by decide +kernel
theorem dL_yearAt_17 : decode cL_yearAt 17 = .ok (.astore 4, 2) := by decide +kernel
theorem dL_yearAt_19 : decode cL_yearAt 19 = .ok (.iconst 2, 1) := by decide +kernel
theorem dL_yearAt_20 : decode cL_yearAt 20 = .ok (.ireturn, 1) := by decide +kernel
theorem dL_yearAt_21 : decode cL_yearAt 21 = .ok (.iconst 0, 1) := by decide +kernel
theorem dL_yearAt_22 : decode cL_yearAt 22 = .ok (.ireturn, 1) := by decide +kernel
set_option maxRecDepth 20000 in
theorem ggL_common_X5_common : GoodIn wsL_common wsX5_common := goodIn_ca (goodIn_r _ [6, 7, 8, 9, 10, 11, 12, 5, 13, 14, 15, 16, 17, 18, 19, 20, 21, 22, 23, 24, 25, 26, 27, 28, 29, 30, 31, 32, 33, 34, 35, 36, 37, 38, 39, 40, 41, 42, 43, 44, 45, 46, 47, 48, 49, 50] (by decide +kernel) (by decide +kernel)) (goodIn_sub (fun _ h => List.mem_cons_of_mem _ (List.mem_append_right _ h)) (by decide +kernel))
set_option maxRecDepth 20000 in
theorem gL_common_X5_common : GoodIn wsL_common (wsV RL 42 RX5 yX5_common wsX5_common) := goodIn_app (goodIn_of _ (by decide +kernel)) ggL_common_X5_common
theorem dL_common_0 : decode cL_common 0 = .ok (.aload_n 3, 1) := by decide +kernel
theorem dL_common_1 : decode cL_common 1 = .ok (.iconst 0, 1) := by decide +kernel
theorem dL_common_2 : decode cL_common 2 = .ok (.aload_n 0, 1) := by decide +kernel
theorem dL_common_3 : decode cL_common 3 = .ok (.iload_n 1, 1) := by decide +kernel
theorem dL_common_4 : decode cL_common 4 = .ok (.iload_n 2, 1) := by decide +kernel
theorem dL_common_5 : decode cL_common 5 = .ok (.invokevirtual 42, 3) := by decide +kernel
theorem dL_common_8 : decode cL_common 8 = .ok (.i2l, 1) := by decide +kernel
theorem dL_common_9 : decode cL_common 9 = .ok (.lastore, 1) := by decide +kernel
theorem dL_common_10 : decode cL_common 10 = .ok (.goto 7, 3) := by decide +kernel
theorem dL_common_13 : decode cL_common 13 = .ok (.astore 4, 2) := by decide +kernel
theorem dL_common_15 : decode cL_common 15 = .ok (.iconst 1, 1) := by decide +kernel
theorem dL_common_16 : decode cL_common 16 = .ok (.ireturn, 1) := by decide +kernel
theorem dL_common_17 : decode cL_common 17 = .ok (.iconst 0, 1) := by decide +kernel
theorem dL_common_18 : decode cL_common 18 = .ok (.ireturn, 1) := by decide +kernel
set_option maxRecDepth 20000 in
theorem ggL_flood_X5_flood : GoodIn wsL_flood wsX5_flood := goodIn_ca (goodIn_ca (goodIn_r _ [7, 8, 9, 10, 11, 12, 13, 14, 15, 16, 6, 17, 18, 19, 20, 21, 22, 23, 24, 25, 26, 27, 28, 29, 30] (by decide +kernel) (by decide +kernel)) (goodIn_sub (fun _ h => List.mem_cons_of_mem _ (List.mem_append_left _ (List.mem_append_right _ h))) (by decide +kernel))) (goodIn_sub (fun _ h => List.mem_cons_of_mem _ (List.mem_append_right _ h)) (by decide +kernel))
set_option maxRecDepth 20000 in
theorem gL_flood_X5_flood : GoodIn wsL_flood (wsV RL 45 RX5 yX5_flood wsX5_flood) := goodIn_app (goodIn_of _ (by decide +kernel)) ggL_flood_X5_flood
theorem dL_flood_0 : decode cL_flood 0 = .ok (.aload_n 3, 1) := by decide +kernel
theorem dL_flood_1 : decode cL_flood 1 = .ok (.iconst 0, 1) := by decide +kernel
theorem dL_flood_2 : decode cL_flood 2 = .ok (.aload_n 0, 1) := by decide +kernel
theorem dL_flood_3 : decode cL_flood 3 = .ok (.iload_n 1, 1) := by decide +kernel
theorem dL_flood_4 : decode cL_flood 4 = .ok (.iload_n 2, 1) := by decide +kernel
theorem dL_flood_5 : decode cL_flood 5 = .ok (.invokevirtual 45, 3) := by decide +kernel
theorem dL_flood_8 : decode cL_flood 8 = .ok (.i2l, 1) := by decide +kernel
theorem dL_flood_9 : decode cL_flood 9 = .ok (.lastore, 1) := by decide +kernel
theorem dL_flood_10 : decode cL_flood 10 = .ok (.goto 11, 3) := by decide +kernel
theorem dL_flood_13 : decode cL_flood 13 = .ok (.astore 4, 2) := by decide +kernel
theorem dL_flood_15 : decode cL_flood 15 = .ok (.iconst 1, 1) := by decide +kernel
theorem dL_flood_16 : decode cL_flood 16 = .ok (.ireturn, 1) := by decide +kernel
theorem dL_flood_17 : decode cL_flood 17 = .ok (.astore 4, 2) := by decide +kernel
theorem dL_flood_19 : decode cL_flood 19 = .ok (.iconst 2, 1) := by decide +kernel
theorem dL_flood_20 : decode cL_flood 20 = .ok (.ireturn, 1) := by decide +kernel
theorem dL_flood_21 : decode cL_flood 21 = .ok (.iconst 0, 1) := by decide +kernel
theorem dL_flood_22 : decode cL_flood 22 = .ok (.ireturn, 1) := by decide +kernel
set_option maxRecDepth 20000 in
theorem ggL_front_X5_front : GoodIn wsL_front wsX5_front := goodIn_ca (goodIn_r _ [6, 7, 8, 9, 10, 11, 12, 5, 13, 14, 15, 16, 17, 18, 19, 20, 21, 22, 23, 24, 25, 26, 27, 28, 29, 30, 31, 32, 33, 34, 35, 36, 37, 38, 39, 40, 41, 42] (by decide +kernel) (by decide +kernel)) (goodIn_sub (fun _ h => List.mem_cons_of_mem _ (List.mem_append_right _ h)) (by decide +kernel))
set_option maxRecDepth 20000 in
theorem gL_front_X5_front : GoodIn wsL_front (wsV RL 48 RX5 yX5_front wsX5_front) := goodIn_app (goodIn_of _ (by decide +kernel)) ggL_front_X5_front
theorem dL_front_0 : decode cL_front 0 = .ok (.aload_n 2, 1) := by decide +kernel
theorem dL_front_1 : decode cL_front 1 = .ok (.iconst 0, 1) := by decide +kernel
theorem dL_front_2 : decode cL_front 2 = .ok (.aload_n 0, 1) := by decide +kernel
theorem dL_front_3 : decode cL_front 3 = .ok (.iload_n 1, 1) := by decide +kernel
theorem dL_front_4 : decode cL_front 4 = .ok (.invokevirtual 48, 3) := by decide +kernel
theorem dL_front_7 : decode cL_front 7 = .ok (.i2l, 1) := by decide +kernel
theorem dL_front_8 : decode cL_front 8 = .ok (.lastore, 1) := by decide +kernel
theorem dL_front_9 : decode cL_front 9 = .ok (.goto 6, 3) := by decide +kernel
theorem dL_front_12 : decode cL_front 12 = .ok (.astore_n 3, 1) := by decide +kernel
theorem dL_front_13 : decode cL_front 13 = .ok (.iconst 1, 1) := by decide +kernel
theorem dL_front_14 : decode cL_front 14 = .ok (.ireturn, 1) := by decide +kernel
theorem dL_front_15 : decode cL_front 15 = .ok (.iconst 0, 1) := by decide +kernel
theorem dL_front_16 : decode cL_front 16 = .ok (.ireturn, 1) := by decide +kernel
set_option maxRecDepth 20000 in
theorem ggL_total_X5_total : GoodIn wsL_total wsX5_total := goodIn_ca (goodIn_r _ [6, 7, 8, 9, 10, 11, 12, 13, 14, 15, 5, 16, 17, 18, 19, 20, 21, 22, 23, 24, 25, 26, 27, 28, 29, 30, 31, 32, 33, 34, 35, 36, 37, 38, 39, 40, 41, 42, 43, 44, 45, 46, 47, 48, 49, 50, 51, 52, 53, 54, 55, 56, 57] (by decide +kernel) (by decide +kernel)) (goodIn_sub (fun _ h => List.mem_cons_of_mem _ (List.mem_append_right _ h)) (by decide +kernel))
set_option maxRecDepth 20000 in
theorem gL_total_X5_total : GoodIn wsL_total (wsV RL 51 RX5 yX5_total wsX5_total) := goodIn_app (goodIn_of _ (by decide +kernel)) ggL_total_X5_total
theorem dL_total_0 : decode cL_total 0 = .ok (.aload_n 2, 1) := by decide +kernel
theorem dL_total_1 : decode cL_total 1 = .ok (.iconst 0, 1) := by decide +kernel
theorem dL_total_2 : decode cL_total 2 = .ok (.aload_n 0, 1) := by decide +kernel
theorem dL_total_3 : decode cL_total 3 = .ok (.iload_n 1, 1) := by decide +kernel
theorem dL_total_4 : decode cL_total 4 = .ok (.invokevirtual 51, 3) := by decide +kernel
theorem dL_total_7 : decode cL_total 7 = .ok (.i2l, 1) := by decide +kernel
theorem dL_total_8 : decode cL_total 8 = .ok (.lastore, 1) := by decide +kernel
theorem dL_total_9 : decode cL_total 9 = .ok (.goto 6, 3) := by decide +kernel
theorem dL_total_12 : decode cL_total 12 = .ok (.astore_n 3, 1) := by decide +kernel
theorem dL_total_13 : decode cL_total 13 = .ok (.iconst 1, 1) := by decide +kernel
theorem dL_total_14 : decode cL_total 14 = .ok (.ireturn, 1) := by decide +kernel
theorem dL_total_15 : decode cL_total 15 = .ok (.iconst 0, 1) := by decide +kernel
theorem dL_total_16 : decode cL_total 16 = .ok (.ireturn, 1) := by decide +kernel
set_option maxRecDepth 20000 in
theorem ggL_would_X5_would : GoodIn wsL_would wsX5_would := goodIn_ca (goodIn_ca (goodIn_ca (goodIn_r _ [8, 9, 10, 11, 7, 12, 13, 14, 15, 16, 17, 18, 19, 20, 21, 22, 23, 24, 25, 26, 27, 28, 29, 30, 31, 32, 33, 34, 35, 36, 37, 38, 39, 40, 41, 42, 43, 44, 45, 46, 47, 48, 49, 50, 51, 52, 53, 54, 55, 56, 57, 58, 59, 60, 61, 62, 63, 64, 65, 66, 67, 68, 69, 70, 71, 72, 73, 74, 75, 76, 77, 78, 79, 80, 81, 82, 83, 84, 85, 86, 87, 88, 89, 90, 91, 92, 93, 94, 95, 96, 97, 98, 99, 100, 101, 102, 103, 104, 105, 106, 107, 108, 109, 110, 111, 112, 113, 114, 115, 116, 117, 118, 119, 120, 121, 122, 123, 124, 125, 126, 127, 128, 129, 130, 131, 132, 133, 134, 135, 136, 137, 138, 139, 140, 141, 142, 143, 144, 145, 146, 147, 148, 149, 150, 151, 152, 153, 154, 155, 156, 157, 158, 159, 160, 161, 162, 163, 164, 165, 166, 167, 168, 169, 170, 171, 172, 173, 174, 175, 176, 177, 178, 179, 180, 181, 182, 183, 184, 185, 186, 187, 188, 189, 190, 191, 192, 193, 194, 195, 196, 197] (by decide +kernel) (by decide +kernel)) (goodIn_sub (fun _ h => List.mem_cons_of_mem _ (List.mem_append_left _ (List.mem_append_left _ (List.mem_append_right _ h)))) (by decide +kernel))) (goodIn_sub (fun _ h => List.mem_cons_of_mem _ (List.mem_append_left _ (List.mem_append_right _ h))) (by decide +kernel))) (goodIn_sub (fun _ h => List.mem_cons_of_mem _ (List.mem_append_right _ h)) (by decide +kernel))
set_option maxRecDepth 20000 in
theorem gL_would_X5_would : GoodIn wsL_would (wsV RL 54 RX5 yX5_would wsX5_would) := goodIn_app (goodIn_of _ (by decide +kernel)) ggL_would_X5_would
theorem dL_would_0 : decode cL_would 0 = .ok (.aload 4, 2) := by decide +kernel
theorem dL_would_2 : decode cL_would 2 = .ok (.iconst 0, 1) := by decide +kernel
theorem dL_would_3 : decode cL_would 3 = .ok (.aload_n 0, 1) := by decide +kernel
theorem dL_would_4 : decode cL_would 4 = .ok (.iload_n 1, 1) := by decide +kernel
theorem dL_would_5 : decode cL_would 5 = .ok (.iload_n 2, 1) := by decide +kernel
theorem dL_would_6 : decode cL_would 6 = .ok (.iload_n 3, 1) := by decide +kernel
theorem dL_would_7 : decode cL_would 7 = .ok (.invokevirtual 54, 3) := by decide +kernel
theorem dL_would_10 : decode cL_would 10 = .ok (.i2l, 1) := by decide +kernel
theorem dL_would_11 : decode cL_would 11 = .ok (.lastore, 1) := by decide +kernel
theorem dL_would_12 : decode cL_would 12 = .ok (.goto 15, 3) := by decide +kernel
theorem dL_would_15 : decode cL_would 15 = .ok (.astore 5, 2) := by decide +kernel
theorem dL_would_17 : decode cL_would 17 = .ok (.iconst 1, 1) := by decide +kernel
theorem dL_would_18 : decode cL_would 18 = .ok (.ireturn, 1) := by decide +kernel
theorem dL_would_19 : decode cL_would 19 = .ok (.astore 5, 2) := by decide +kernel
theorem dL_would_21 : decode cL_would 21 = .ok (.iconst 2, 1) := by decide +kernel
theorem dL_would_22 : decode cL_would 22 = .ok (.ireturn, 1) := by decide +kernel
theorem dL_would_23 : decode cL_would 23 = .ok (.astore 5, 2) := by decide +kernel
theorem dL_would_25 : decode cL_would 25 = .ok (.iconst 3, 1) := by decide +kernel
theorem dL_would_26 : decode cL_would 26 = .ok (.ireturn, 1) := by decide +kernel
theorem dL_would_27 : decode cL_would 27 = .ok (.iconst 0, 1) := by decide +kernel
theorem dL_would_28 : decode cL_would 28 = .ok (.ireturn, 1) := by decide +kernel
set_option maxRecDepth 20000 in
theorem ggL_forecast_X5_forecast : GoodIn wsL_forecast wsX5_forecast := goodIn_ca (goodIn_ca (goodIn_r _ [7, 8, 9, 10, 11, 12, 13, 14, 15, 16, 6, 17, 18, 19, 20, 21, 22, 23, 24, 25, 26, 27, 28, 29, 30, 31, 32, 33, 34, 35, 36, 37, 38, 39, 40, 41, 42, 43, 44, 45, 46, 47, 48, 49, 50, 51, 52, 53, 54, 55, 56, 57, 58, 59, 60, 61, 62, 63, 64, 65, 66, 67, 68, 69, 70, 71, 72, 73, 74, 75, 76, 77, 78, 79, 80, 81, 82, 83, 84, 85, 86, 87, 88, 89, 90, 91, 92, 93, 94, 95, 96, 97, 98, 99, 100, 101, 102, 103, 104, 105, 106, 107, 108, 109, 110, 111, 112, 113, 114, 115, 116, 117, 118, 119, 120, 121, 122, 123, 124, 125, 126, 127, 128, 129, 130, 131, 132, 133, 134, 135, 136, 137, 138, 139, 140, 141, 142, 143, 144, 145, 146, 147, 148, 149, 150, 151, 152, 153, 154, 155, 156, 157, 158, 159, 160, 161, 162, 163, 164, 165, 166, 167, 168, 169, 170, 171, 172, 173, 174, 175, 176, 177, 178, 179, 180, 181, 182, 183, 184, 185, 186, 187, 188, 189, 190, 191, 192, 193, 194, 195, 196, 197, 198] (by decide +kernel) (by decide +kernel)) (goodIn_sub (fun _ h => List.mem_cons_of_mem _ (List.mem_append_left _ (List.mem_append_right _ h))) (by decide +kernel))) (goodIn_sub (fun _ h => List.mem_cons_of_mem _ (List.mem_append_right _ h)) (by decide +kernel))
set_option maxRecDepth 20000 in
theorem gL_forecast_X5_forecast : GoodIn wsL_forecast (wsV RL 58 RX5 yX5_forecast wsX5_forecast) := goodIn_app (goodIn_of _ (by decide +kernel)) ggL_forecast_X5_forecast
theorem dL_forecast_0 : decode cL_forecast 0 = .ok (.aload_n 2, 1) := by decide +kernel
theorem dL_forecast_1 : decode cL_forecast 1 = .ok (.iconst 0, 1) := by decide +kernel
theorem dL_forecast_2 : decode cL_forecast 2 = .ok (.aload_n 0, 1) := by decide +kernel
theorem dL_forecast_3 : decode cL_forecast 3 = .ok (.iload_n 1, 1) := by decide +kernel
theorem dL_forecast_4 : decode cL_forecast 4 = .ok (.invokevirtual 58, 3) := by decide +kernel
theorem dL_forecast_7 : decode cL_forecast 7 = .ok (.i2l, 1) := by decide +kernel
theorem dL_forecast_8 : decode cL_forecast 8 = .ok (.lastore, 1) := by decide +kernel
theorem dL_forecast_9 : decode cL_forecast 9 = .ok (.goto 9, 3) := by decide +kernel
theorem dL_forecast_12 : decode cL_forecast 12 = .ok (.astore_n 3, 1) := by decide +kernel
theorem dL_forecast_13 : decode cL_forecast 13 = .ok (.iconst 1, 1) := by decide +kernel
theorem dL_forecast_14 : decode cL_forecast 14 = .ok (.ireturn, 1) := by decide +kernel
theorem dL_forecast_15 : decode cL_forecast 15 = .ok (.astore_n 3, 1) := by decide +kernel
theorem dL_forecast_16 : decode cL_forecast 16 = .ok (.iconst 2, 1) := by decide +kernel
theorem dL_forecast_17 : decode cL_forecast 17 = .ok (.ireturn, 1) := by decide +kernel
theorem dL_forecast_18 : decode cL_forecast 18 = .ok (.iconst 0, 1) := by decide +kernel
theorem dL_forecast_19 : decode cL_forecast 19 = .ok (.ireturn, 1) := by decide +kernel
set_option maxRecDepth 20000 in
theorem ggL_miss_X5_miss : GoodIn wsL_miss wsX5_miss := goodIn_ca (goodIn_r _ [6, 7, 8, 9, 10, 11, 12, 13, 14, 15, 16, 17, 18, 19, 20, 21, 22, 23, 24, 25, 26, 27, 28, 29, 30, 31, 32, 33, 34, 35, 36, 37, 38, 39, 40, 41, 42, 43, 44, 45, 46, 47, 48, 49, 50] (by decide +kernel) (by decide +kernel)) (goodIn_sub (fun _ h => List.mem_cons_of_mem _ (List.mem_append_right _ h)) (by decide +kernel))
set_option maxRecDepth 20000 in
theorem gL_miss_X5_miss : GoodIn wsL_miss (wsV RL 61 RX5 yX5_miss wsX5_miss) := goodIn_app (goodIn_of _ (by decide +kernel)) ggL_miss_X5_miss
theorem dL_miss_0 : decode cL_miss 0 = .ok (.aload_n 2, 1) := by decide +kernel
theorem dL_miss_1 : decode cL_miss 1 = .ok (.iconst 0, 1) := by decide +kernel
theorem dL_miss_2 : decode cL_miss 2 = .ok (.aload_n 0, 1) := by decide +kernel
theorem dL_miss_3 : decode cL_miss 3 = .ok (.iload_n 1, 1) := by decide +kernel
theorem dL_miss_4 : decode cL_miss 4 = .ok (.invokevirtual 61, 3) := by decide +kernel
theorem dL_miss_7 : decode cL_miss 7 = .ok (.i2l, 1) := by decide +kernel
theorem dL_miss_8 : decode cL_miss 8 = .ok (.lastore, 1) := by decide +kernel
theorem dL_miss_9 : decode cL_miss 9 = .ok (.goto 6, 3) := by decide +kernel
theorem dL_miss_12 : decode cL_miss 12 = .ok (.astore_n 3, 1) := by decide +kernel
theorem dL_miss_13 : decode cL_miss 13 = .ok (.iconst 1, 1) := by decide +kernel
theorem dL_miss_14 : decode cL_miss 14 = .ok (.ireturn, 1) := by decide +kernel
theorem dL_miss_15 : decode cL_miss 15 = .ok (.iconst 0, 1) := by decide +kernel
theorem dL_miss_16 : decode cL_miss 16 = .ok (.ireturn, 1) := by decide +kernel
set_option maxRecDepth 20000 in
theorem ggL_law_X5_init : GoodIn wsL_law wsX5_init := goodIn_r _ [9, 10, 11, 12, 13, 14, 15, 16, 17, 18, 19, 20, 21, 22, 23, 24, 25, 26, 27, 28, 29, 30, 31, 32, 33, 34, 35, 36, 37, 38, 39, 40, 41, 42, 43, 44, 45, 46, 47, 48, 49, 50, 51, 52, 53, 54, 55, 56, 57, 58, 59, 60, 61, 62, 63, 64, 65, 66, 67, 68, 69, 70, 71, 594, 595, 596, 597, 598, 599, 600, 601, 602, 603, 604, 605, 606, 607, 608, 609, 574, 575, 576, 577, 610, 611, 612, 613, 614, 615, 616, 617, 618, 619, 620, 621, 622, 623, 624, 625, 626] (by decide +kernel) (by decide +kernel)
set_option maxRecDepth 20000 in
theorem gL_law_X5_init : GoodIn wsL_law (wsX5_init) := ggL_law_X5_init
set_option maxRecDepth 20000 in
theorem ggL_law_X6_init : GoodIn wsL_law wsX6_init := goodIn_r _ [74, 75, 11, 12, 38, 76, 77, 60, 78, 79, 80, 81, 82, 83, 84, 85, 578, 579, 580, 581, 582, 583, 584, 585, 586, 587, 588, 589, 590, 591, 592, 593] (by decide +kernel) (by decide +kernel)
set_option maxRecDepth 20000 in
theorem gL_law_X6_init : GoodIn wsL_law (wsX6_init) := ggL_law_X6_init
set_option maxRecDepth 20000 in
theorem ggL_law_L_land : GoodIn wsL_law wsL_land := goodIn_ca (goodIn_ca (goodIn_ca (goodIn_r _ [89, 90, 91, 92, 93, 94, 95, 2, 96, 97, 98, 16, 99, 100, 101, 102, 103, 104, 105, 106, 107, 108, 109, 110, 111, 112, 113, 574, 575, 576, 577, 594, 595, 596, 597, 598, 599, 600, 601, 602, 603, 604, 605, 606, 607, 608, 609, 620, 621] (by decide +kernel) (by decide +kernel)) (goodIn_sub (fun _ h => List.mem_append_left _ (List.mem_append_left _ (List.mem_append_right _ h))) (by decide +kernel))) (goodIn_sub (fun _ h => List.mem_append_left _ (List.mem_append_right _ h)) (by decide +kernel))) (goodIn_sub (fun _ h => List.mem_append_right _ h) (by decide +kernel))
set_option maxRecDepth 20000 in
theorem gL_law_L_land : GoodIn wsL_law (va_wsS RL 68 yL_land wsL_land) := goodIn_app (goodIn_of _ (by decide +kernel)) ggL_law_L_land
set_option maxRecDepth 20000 in
theorem ggL_law_X6_land : GoodIn wsL_law wsX6_land := goodIn_r _ [117, 76, 118, 119, 5, 120, 121, 122, 123, 124, 125, 126, 127, 128, 129, 130, 131, 132, 578, 579, 580, 581, 582, 583, 584, 585, 586, 587, 588, 589, 590, 591, 592, 593] (by decide +kernel) (by decide +kernel)
set_option maxRecDepth 20000 in
theorem gL_law_X6_land : GoodIn wsL_law (wsV RL 73 RX6 yX6_land wsX6_land) := goodIn_app (goodIn_of _ (by decide +kernel)) ggL_law_X6_land
set_option maxRecDepth 20000 in
theorem ggL_law_X6_thrown : GoodIn wsL_law wsX6_thrown := goodIn_r _ [136, 132, 578, 579, 580, 581, 582, 583, 584, 585, 586, 587, 588, 589, 590, 591, 592, 593] (by decide +kernel) (by decide +kernel)
set_option maxRecDepth 20000 in
theorem gL_law_X6_thrown : GoodIn wsL_law (wsV RL 74 RX6 yX6_thrown wsX6_thrown) := goodIn_app (goodIn_of _ (by decide +kernel)) ggL_law_X6_thrown
set_option maxRecDepth 20000 in
theorem ggL_law_L_sea : GoodIn wsL_law wsL_sea := goodIn_ca (goodIn_r _ [139, 91, 140, 141, 142, 2, 143, 16, 144, 109, 110, 111, 112, 113, 574, 575, 576, 577, 594, 595, 596, 597, 598, 599, 600, 601, 602, 603, 604, 605, 606, 607, 608, 609] (by decide +kernel) (by decide +kernel)) (goodIn_sub (fun _ h => List.mem_append_right _ h) (by decide +kernel))
set_option maxRecDepth 20000 in
theorem gL_law_L_sea : GoodIn wsL_law (va_wsS RL 78 yL_sea wsL_sea) := goodIn_app (goodIn_of _ (by decide +kernel)) ggL_law_L_sea
set_option maxRecDepth 20000 in
theorem ggL_law_X6_sea : GoodIn wsL_law wsX6_sea := goodIn_r _ [148, 149, 121, 122, 5, 123, 150, 151, 152, 153, 132, 578, 579, 580, 581, 582, 583, 584, 585, 586, 587, 588, 589, 590, 591, 592, 593] (by decide +kernel) (by decide +kernel)
set_option maxRecDepth 20000 in
theorem gL_law_X6_sea : GoodIn wsL_law (wsV RL 81 RX6 yX6_sea wsX6_sea) := goodIn_app (goodIn_of _ (by decide +kernel)) ggL_law_X6_sea
set_option maxRecDepth 20000 in
theorem ggL_law_L_climate : GoodIn wsL_law wsL_climate := goodIn_ca (goodIn_r _ [156, 91, 157, 158, 159, 2, 160, 16, 161, 162, 163, 109, 110, 111, 112, 113, 574, 575, 576, 577, 594, 595, 596, 597, 598, 599, 600, 601, 602, 603, 604, 605, 606, 607, 608, 609] (by decide +kernel) (by decide +kernel)) (goodIn_sub (fun _ h => List.mem_append_right _ h) (by decide +kernel))
set_option maxRecDepth 20000 in
theorem gL_law_L_climate : GoodIn wsL_law (va_wsS RL 82 yL_climate wsL_climate) := goodIn_app (goodIn_of _ (by decide +kernel)) ggL_law_L_climate
set_option maxRecDepth 20000 in
theorem ggL_law_X6_climate : GoodIn wsL_law wsX6_climate := goodIn_r _ [167, 168, 169, 170, 121, 122, 5, 123, 150, 151, 152, 153, 132, 578, 579, 580, 581, 582, 583, 584, 585, 586, 587, 588, 589, 590, 591, 592, 593] (by decide +kernel) (by decide +kernel)
set_option maxRecDepth 20000 in
theorem gL_law_X6_climate : GoodIn wsL_law (wsV RL 85 RX6 yX6_climate wsX6_climate) := goodIn_app (goodIn_of _ (by decide +kernel)) ggL_law_X6_climate
set_option maxRecDepth 20000 in
theorem ggL_law_L_ice : GoodIn wsL_law wsL_ice := goodIn_ca (goodIn_ca (goodIn_ca (goodIn_r _ [173, 90, 91, 92, 174, 175, 176, 2, 177, 97, 98, 16, 99, 100, 178, 179, 180, 104, 105, 106, 107, 108, 109, 110, 111, 112, 113, 181, 182, 183, 32, 184, 52, 51, 574, 575, 576, 577, 594, 595, 596, 597, 598, 599, 600, 601, 602, 603, 604, 605, 606, 607, 608, 609, 620, 621, 622, 623, 624, 625, 626] (by decide +kernel) (by decide +kernel)) (goodIn_sub (fun _ h => List.mem_append_left _ (List.mem_append_left _ (List.mem_append_right _ h))) (by decide +kernel))) (goodIn_sub (fun _ h => List.mem_append_left _ (List.mem_append_right _ h)) (by decide +kernel))) (goodIn_sub (fun _ h => List.mem_append_right _ h) (by decide +kernel))
set_option maxRecDepth 20000 in
theorem gL_law_L_ice : GoodIn wsL_law (va_wsS RL 86 yL_ice wsL_ice) := goodIn_app (goodIn_of _ (by decide +kernel)) ggL_law_L_ice
set_option maxRecDepth 20000 in
theorem ggL_law_X6_ice : GoodIn wsL_law wsX6_ice := goodIn_r _ [188, 76, 118, 119, 5, 120, 121, 122, 123, 124, 125, 126, 127, 128, 129, 130, 131, 132, 578, 579, 580, 581, 582, 583, 584, 585, 586, 587, 588, 589, 590, 591, 592, 593] (by decide +kernel) (by decide +kernel)
set_option maxRecDepth 20000 in
theorem gL_law_X6_ice : GoodIn wsL_law (wsV RL 88 RX6 yX6_ice wsX6_ice) := goodIn_app (goodIn_of _ (by decide +kernel)) ggL_law_X6_ice
set_option maxRecDepth 20000 in
theorem ggL_law_X5_ash : GoodIn wsL_law wsX5_ash := goodIn_r _ [192, 21, 193, 16, 178, 574, 575, 576, 577, 610, 611, 612, 613, 614, 615, 616, 594, 595, 596, 597, 598, 599, 600, 601, 602, 603, 604, 605, 606, 607, 608, 609] (by decide +kernel) (by decide +kernel)
set_option maxRecDepth 20000 in
theorem gL_law_X5_ash : GoodIn wsL_law (wsV RL 89 RX5 yX5_ash wsX5_ash) := goodIn_app (goodIn_of _ (by decide +kernel)) ggL_law_X5_ash
set_option maxRecDepth 20000 in
theorem ggL_law_X6_ash : GoodIn wsL_law wsX6_ash := goodIn_r _ [197, 132, 78, 76, 578, 579, 580, 581, 582, 583, 584, 585, 586, 587, 588, 589, 590, 591, 592, 593] (by decide +kernel) (by decide +kernel)
set_option maxRecDepth 20000 in
theorem gL_law_X6_ash : GoodIn wsL_law (wsV RL 93 RX6 yX6_ash wsX6_ash) := goodIn_app (goodIn_of _ (by decide +kernel)) ggL_law_X6_ash
set_option maxRecDepth 20000 in
theorem ggL_law_L_pass : GoodIn wsL_law wsL_pass := goodIn_ca (goodIn_ca (goodIn_r _ [200, 91, 92, 201, 202, 203, 2, 204, 16, 21, 178, 109, 110, 111, 112, 113, 205, 206, 207, 208, 97, 98, 209, 210, 211, 15, 212, 213, 214, 215, 216, 217, 218, 43, 33, 219, 220, 37, 221, 222, 223, 224, 225, 226, 41, 227, 228, 229, 230, 231, 39, 232, 233, 234, 235, 236, 237, 238, 239, 240, 241, 182, 183, 32, 184, 52, 51, 242, 243, 244, 245, 246, 247, 248, 249, 250, 251, 252, 253, 254, 255, 45, 44, 256, 257, 258, 259, 260, 261, 262, 263, 264, 265, 266, 267, 268, 269, 270, 271, 272, 273, 274, 275, 276, 277, 278, 279, 280, 281, 282, 283, 284, 285, 286, 287, 288, 46, 289, 290, 291, 292, 293, 294, 295, 296, 297, 298, 299, 300, 301, 40, 302, 303, 304, 305, 47, 42, 306, 307, 308, 20, 309, 62, 310, 311, 63, 312, 313, 314, 64, 65, 66, 315, 316, 317, 318, 574, 575, 576, 577, 594, 595, 596, 597, 598, 599, 600, 601, 602, 603, 604, 605, 606, 607, 608, 609, 620, 621, 622, 623, 624, 625, 626, 610, 611, 612, 613, 614, 615, 616] (by decide +kernel) (by decide +kernel)) (goodIn_sub (fun _ h => List.mem_append_right _ h) (by decide +kernel))) (goodIn_sub (fun _ h => List.mem_append_left _ (List.mem_append_left _ (List.mem_append_right _ h))) (by decide +kernel))
set_option maxRecDepth 20000 in
theorem gL_law_L_pass : GoodIn wsL_law (va_wsS RL 94 yL_pass wsL_pass) := goodIn_app (goodIn_of _ (by decide +kernel)) ggL_law_L_pass
set_option maxRecDepth 20000 in
theorem ggL_law_X6_pass : GoodIn wsL_law wsX6_pass := goodIn_r _ [322, 76, 323, 83, 84, 82, 121, 122, 5, 123, 324, 325, 326, 327, 132, 328, 329, 330, 331, 332, 333, 334, 335, 168, 169, 170, 124, 125, 126, 127, 336, 337, 338, 339, 340, 341, 342, 343, 149, 344, 345, 346, 347, 85, 348, 349, 350, 351, 352, 353, 354, 355, 356, 357, 358, 359, 360, 361, 362, 363, 364, 365, 79, 80, 81, 366, 367, 368, 369, 370, 371, 372, 373, 374, 375, 376, 377, 378, 379, 380, 381, 578, 579, 580, 581, 582, 583, 584, 585, 586, 587, 588, 589, 590, 591, 592, 593] (by decide +kernel) (by decide +kernel)
set_option maxRecDepth 20000 in
theorem gL_law_X6_pass : GoodIn wsL_law (wsV RL 96 RX6 yX6_pass wsX6_pass) := goodIn_app (goodIn_of _ (by decide +kernel)) ggL_law_X6_pass
set_option maxRecDepth 20000 in
theorem ggL_law_L_cellIs : GoodIn wsL_law wsL_cellIs := goodIn_ca (goodIn_ca (goodIn_r _ [384, 90, 91, 385, 386, 387, 2, 388, 16, 104, 105, 106, 107, 108, 109, 110, 111, 112, 113, 389, 390, 391, 15, 392, 39, 33, 219, 41, 42, 43, 40, 228, 229, 230, 231, 393, 394, 395, 396, 44, 397, 398, 225, 399, 236, 237, 238, 239, 240, 281, 282, 283, 284, 574, 575, 576, 577, 594, 595, 596, 597, 598, 599, 600, 601, 602, 603, 604, 605, 606, 607, 608, 609, 620, 621] (by decide +kernel) (by decide +kernel)) (goodIn_sub (fun _ h => List.mem_append_left _ (List.mem_append_right _ h)) (by decide +kernel))) (goodIn_sub (fun _ h => List.mem_append_right _ h) (by decide +kernel))
set_option maxRecDepth 20000 in
theorem gL_law_L_cellIs : GoodIn wsL_law (va_wsS RL 97 yL_cellIs wsL_cellIs) := goodIn_app (goodIn_of _ (by decide +kernel)) ggL_law_L_cellIs
set_option maxRecDepth 20000 in
theorem ggL_law_X6_cellIs : GoodIn wsL_law wsX6_cellIs := goodIn_r _ [403, 118, 119, 5, 120, 121, 122, 123, 324, 325, 326, 327, 132, 404, 405, 406, 407, 76, 124, 125, 126, 127, 336, 337, 338, 339, 340, 341, 342, 343, 149, 358, 359, 360, 361, 578, 579, 580, 581, 582, 583, 584, 585, 586, 587, 588, 589, 590, 591, 592, 593] (by decide +kernel) (by decide +kernel)
set_option maxRecDepth 20000 in
theorem gL_law_X6_cellIs : GoodIn wsL_law (wsV RL 99 RX6 yX6_cellIs wsX6_cellIs) := goodIn_app (goodIn_of _ (by decide +kernel)) ggL_law_X6_cellIs
set_option maxRecDepth 20000 in
theorem ggL_law_L_layer : GoodIn wsL_law wsL_layer := goodIn_ca (goodIn_ca (goodIn_r _ [410, 90, 91, 411, 412, 413, 2, 414, 16, 99, 104, 105, 106, 107, 108, 109, 110, 111, 112, 113, 415, 248, 249, 32, 250, 52, 574, 575, 576, 577, 594, 595, 596, 597, 598, 599, 600, 601, 602, 603, 604, 605, 606, 607, 608, 609, 620, 621] (by decide +kernel) (by decide +kernel)) (goodIn_sub (fun _ h => List.mem_append_left _ (List.mem_append_right _ h)) (by decide +kernel))) (goodIn_sub (fun _ h => List.mem_append_right _ h) (by decide +kernel))
set_option maxRecDepth 20000 in
theorem gL_law_L_layer : GoodIn wsL_law (va_wsS RL 100 yL_layer wsL_layer) := goodIn_app (goodIn_of _ (by decide +kernel)) ggL_law_L_layer
set_option maxRecDepth 20000 in
theorem ggL_law_X6_layer : GoodIn wsL_law wsX6_layer := goodIn_r _ [419, 76, 118, 119, 5, 120, 121, 122, 123, 324, 325, 326, 327, 132, 578, 579, 580, 581, 582, 583, 584, 585, 586, 587, 588, 589, 590, 591, 592, 593] (by decide +kernel) (by decide +kernel)
set_option maxRecDepth 20000 in
theorem gL_law_X6_layer : GoodIn wsL_law (wsV RL 102 RX6 yX6_layer wsX6_layer) := goodIn_app (goodIn_of _ (by decide +kernel)) ggL_law_X6_layer
set_option maxRecDepth 20000 in
theorem ggL_law_L_yearAt : GoodIn wsL_law wsL_yearAt := goodIn_ca (goodIn_ca (goodIn_r _ [422, 90, 91, 423, 424, 425, 2, 426, 427, 16, 99, 104, 105, 106, 107, 108, 109, 110, 111, 112, 113, 428, 429, 430, 32, 431, 247, 248, 249, 250, 52, 574, 575, 576, 577, 594, 595, 596, 597, 598, 599, 600, 601, 602, 603, 604, 605, 606, 607, 608, 609, 620, 621] (by decide +kernel) (by decide +kernel)) (goodIn_sub (fun _ h => List.mem_append_left _ (List.mem_append_right _ h)) (by decide +kernel))) (goodIn_sub (fun _ h => List.mem_append_right _ h) (by decide +kernel))
set_option maxRecDepth 20000 in
theorem gL_law_L_yearAt : GoodIn wsL_law (va_wsS RL 103 yL_yearAt wsL_yearAt) := goodIn_app (goodIn_of _ (by decide +kernel)) ggL_law_L_yearAt
set_option maxRecDepth 20000 in
theorem ggL_law_X6_yearAt : GoodIn wsL_law wsX6_yearAt := goodIn_r _ [435, 76, 118, 119, 5, 120, 121, 122, 123, 324, 325, 326, 327, 132, 578, 579, 580, 581, 582, 583, 584, 585, 586, 587, 588, 589, 590, 591, 592, 593] (by decide +kernel) (by decide +kernel)
set_option maxRecDepth 20000 in
theorem gL_law_X6_yearAt : GoodIn wsL_law (wsV RL 105 RX6 yX6_yearAt wsX6_yearAt) := goodIn_app (goodIn_of _ (by decide +kernel)) ggL_law_X6_yearAt
set_option maxRecDepth 20000 in
theorem ggL_law_L_common : GoodIn wsL_law wsL_common := goodIn_ca (goodIn_r _ [438, 90, 439, 440, 441, 2, 442, 21, 193, 16, 99, 104, 105, 106, 107, 108, 415, 248, 249, 32, 250, 52, 574, 575, 576, 577, 610, 611, 612, 613, 614, 615, 616, 594, 595, 596, 597, 598, 599, 600, 601, 602, 603, 604, 605, 606, 607, 608, 609, 620, 621] (by decide +kernel) (by decide +kernel)) (goodIn_sub (fun _ h => List.mem_append_left _ (List.mem_append_right _ h)) (by decide +kernel))
set_option maxRecDepth 20000 in
theorem gL_law_L_common : GoodIn wsL_law (va_wsS RL 106 yL_common wsL_common) := goodIn_app (goodIn_of _ (by decide +kernel)) ggL_law_L_common
set_option maxRecDepth 20000 in
theorem ggL_law_X6_common : GoodIn wsL_law wsX6_common := goodIn_r _ [446, 78, 76, 118, 119, 5, 120, 121, 122, 123, 150, 151, 152, 153, 132, 578, 579, 580, 581, 582, 583, 584, 585, 586, 587, 588, 589, 590, 591, 592, 593] (by decide +kernel) (by decide +kernel)
set_option maxRecDepth 20000 in
theorem gL_law_X6_common : GoodIn wsL_law (wsV RL 108 RX6 yX6_common wsX6_common) := goodIn_app (goodIn_of _ (by decide +kernel)) ggL_law_X6_common
set_option maxRecDepth 20000 in
theorem ggL_law_X5_floods : GoodIn wsL_law wsX5_floods := goodIn_r _ [450, 21, 451, 574, 575, 576, 577, 610, 611, 612, 613, 614, 615, 616] (by decide +kernel) (by decide +kernel)
set_option maxRecDepth 20000 in
theorem gL_law_X5_floods : GoodIn wsL_law (wsV RL 109 RX5 yX5_floods wsX5_floods) := goodIn_app (goodIn_of _ (by decide +kernel)) ggL_law_X5_floods
set_option maxRecDepth 20000 in
theorem ggL_law_X6_floods : GoodIn wsL_law wsX6_floods := goodIn_r _ [455, 132, 76, 578, 579, 580, 581, 582, 583, 584, 585, 586, 587, 588, 589, 590, 591, 592, 593] (by decide +kernel) (by decide +kernel)
set_option maxRecDepth 20000 in
theorem gL_law_X6_floods : GoodIn wsL_law (wsV RL 112 RX6 yX6_floods wsX6_floods) := goodIn_app (goodIn_of _ (by decide +kernel)) ggL_law_X6_floods
set_option maxRecDepth 20000 in
theorem ggL_law_L_flood : GoodIn wsL_law wsL_flood := goodIn_ca (goodIn_ca (goodIn_r _ [458, 90, 91, 459, 460, 461, 2, 462, 107, 108, 21, 451, 463, 464, 465, 109, 110, 111, 112, 113, 574, 575, 576, 577, 610, 611, 612, 613, 614, 615, 616] (by decide +kernel) (by decide +kernel)) (goodIn_sub (fun _ h => List.mem_append_left _ (List.mem_append_right _ h)) (by decide +kernel))) (goodIn_sub (fun _ h => List.mem_append_right _ h) (by decide +kernel))
set_option maxRecDepth 20000 in
theorem gL_law_L_flood : GoodIn wsL_law (va_wsS RL 113 yL_flood wsL_flood) := goodIn_app (goodIn_of _ (by decide +kernel)) ggL_law_L_flood
set_option maxRecDepth 20000 in
theorem ggL_law_X6_flood : GoodIn wsL_law wsX6_flood := goodIn_r _ [469, 76, 79, 80, 81, 121, 122, 5, 123, 324, 325, 326, 327, 132, 578, 579, 580, 581, 582, 583, 584, 585, 586, 587, 588, 589, 590, 591, 592, 593] (by decide +kernel) (by decide +kernel)
set_option maxRecDepth 20000 in
theorem gL_law_X6_flood : GoodIn wsL_law (wsV RL 115 RX6 yX6_flood wsX6_flood) := goodIn_app (goodIn_of _ (by decide +kernel)) ggL_law_X6_flood
set_option maxRecDepth 20000 in
theorem ggL_law_L_front : GoodIn wsL_law wsL_front := goodIn_ca (goodIn_r _ [472, 91, 473, 474, 475, 2, 476, 16, 178, 21, 477, 109, 110, 111, 112, 113, 574, 575, 576, 577, 594, 595, 596, 597, 598, 599, 600, 601, 602, 603, 604, 605, 606, 607, 608, 609, 610, 611, 612, 613, 614, 615, 616] (by decide +kernel) (by decide +kernel)) (goodIn_sub (fun _ h => List.mem_append_right _ h) (by decide +kernel))
set_option maxRecDepth 20000 in
theorem gL_law_L_front : GoodIn wsL_law (va_wsS RL 116 yL_front wsL_front) := goodIn_app (goodIn_of _ (by decide +kernel)) ggL_law_L_front
set_option maxRecDepth 20000 in
theorem ggL_law_X6_front : GoodIn wsL_law wsX6_front := goodIn_r _ [481, 76, 121, 122, 5, 123, 150, 151, 152, 153, 132, 578, 579, 580, 581, 582, 583, 584, 585, 586, 587, 588, 589, 590, 591, 592, 593] (by decide +kernel) (by decide +kernel)
set_option maxRecDepth 20000 in
theorem gL_law_X6_front : GoodIn wsL_law (wsV RL 118 RX6 yX6_front wsX6_front) := goodIn_app (goodIn_of _ (by decide +kernel)) ggL_law_X6_front
set_option maxRecDepth 20000 in
theorem ggL_law_L_total : GoodIn wsL_law wsL_total := goodIn_ca (goodIn_r _ [484, 91, 485, 486, 487, 2, 488, 16, 99, 179, 489, 490, 491, 180, 109, 110, 111, 112, 113, 492, 316, 317, 32, 318, 51, 493, 494, 495, 15, 496, 41, 574, 575, 576, 577, 594, 595, 596, 597, 598, 599, 600, 601, 602, 603, 604, 605, 606, 607, 608, 609, 622, 623, 624, 625, 626, 620, 621] (by decide +kernel) (by decide +kernel)) (goodIn_sub (fun _ h => List.mem_append_right _ h) (by decide +kernel))
set_option maxRecDepth 20000 in
theorem gL_law_L_total : GoodIn wsL_law (va_wsS RL 119 yL_total wsL_total) := goodIn_app (goodIn_of _ (by decide +kernel)) ggL_law_L_total
set_option maxRecDepth 20000 in
theorem ggL_law_X6_total : GoodIn wsL_law wsX6_total := goodIn_r _ [500, 76, 121, 122, 5, 123, 150, 151, 152, 153, 132, 378, 379, 380, 381, 124, 125, 126, 127, 578, 579, 580, 581, 582, 583, 584, 585, 586, 587, 588, 589, 590, 591, 592, 593] (by decide +kernel) (by decide +kernel)
set_option maxRecDepth 20000 in
theorem gL_law_X6_total : GoodIn wsL_law (wsV RL 121 RX6 yX6_total wsX6_total) := goodIn_app (goodIn_of _ (by decide +kernel)) ggL_law_X6_total
set_option maxRecDepth 20000 in
theorem ggL_law_X5_iceAnew : GoodIn wsL_law wsX5_iceAnew := goodIn_r _ [504, 16, 179, 491, 180, 505, 490, 574, 575, 576, 577, 594, 595, 596, 597, 598, 599, 600, 601, 602, 603, 604, 605, 606, 607, 608, 609, 622, 623, 624, 625, 626] (by decide +kernel) (by decide +kernel)
set_option maxRecDepth 20000 in
theorem gL_law_X5_iceAnew : GoodIn wsL_law (wsV RL 122 RX5 yX5_iceAnew wsX5_iceAnew) := goodIn_app (goodIn_of _ (by decide +kernel)) ggL_law_X5_iceAnew
set_option maxRecDepth 20000 in
theorem ggL_law_X6_iceAnew : GoodIn wsL_law wsX6_iceAnew := goodIn_r _ [509, 132, 76, 578, 579, 580, 581, 582, 583, 584, 585, 586, 587, 588, 589, 590, 591, 592, 593] (by decide +kernel) (by decide +kernel)
set_option maxRecDepth 20000 in
theorem gL_law_X6_iceAnew : GoodIn wsL_law (wsV RL 125 RX6 yX6_iceAnew wsX6_iceAnew) := goodIn_app (goodIn_of _ (by decide +kernel)) ggL_law_X6_iceAnew
set_option maxRecDepth 20000 in
theorem ggL_law_L_would : GoodIn wsL_law wsL_would := goodIn_ca (goodIn_ca (goodIn_ca (goodIn_r _ [512, 90, 91, 92, 513, 514, 515, 2, 516, 17, 104, 105, 106, 107, 108, 109, 110, 111, 112, 113, 205, 206, 207, 208, 97, 98, 16, 178, 517, 518, 519, 520, 521, 522, 523, 15, 524, 213, 240, 218, 220, 222, 33, 39, 525, 526, 527, 528, 40, 41, 42, 529, 530, 531, 32, 532, 51, 533, 52, 209, 210, 211, 212, 214, 215, 216, 217, 43, 219, 37, 221, 223, 224, 225, 226, 227, 228, 229, 230, 231, 232, 233, 234, 235, 236, 237, 238, 239, 241, 182, 183, 184, 242, 243, 244, 245, 246, 247, 248, 249, 250, 251, 252, 253, 254, 255, 45, 44, 256, 257, 258, 259, 260, 261, 262, 263, 264, 265, 266, 267, 268, 269, 270, 271, 272, 273, 274, 275, 276, 277, 278, 279, 280, 281, 282, 283, 284, 285, 286, 287, 288, 46, 289, 290, 291, 292, 293, 294, 295, 296, 297, 298, 299, 300, 301, 302, 303, 304, 305, 47, 389, 390, 391, 392, 393, 394, 395, 396, 397, 398, 399, 574, 575, 576, 577, 594, 595, 596, 597, 598, 599, 600, 601, 602, 603, 604, 605, 606, 607, 608, 609, 620, 621, 622, 623, 624, 625, 626] (by decide +kernel) (by decide +kernel)) (goodIn_sub (fun _ h => List.mem_append_left _ (List.mem_append_right _ h)) (by decide +kernel))) (goodIn_sub (fun _ h => List.mem_append_right _ h) (by decide +kernel))) (goodIn_sub (fun _ h => List.mem_append_left _ (List.mem_append_left _ (List.mem_append_right _ h))) (by decide +kernel))
set_option maxRecDepth 20000 in
theorem gL_law_L_would : GoodIn wsL_law (va_wsS RL 126 yL_would wsL_would) := goodIn_app (goodIn_of _ (by decide +kernel)) ggL_law_L_would
set_option maxRecDepth 20000 in
theorem ggL_law_X6_would : GoodIn wsL_law wsX6_would := goodIn_r _ [537, 76, 121, 122, 5, 123, 118, 119, 120, 128, 129, 130, 131, 132, 538, 539, 540, 541, 77, 328, 329, 330, 331, 332, 333, 334, 335, 168, 169, 170, 124, 125, 126, 127, 336, 337, 338, 339, 340, 341, 342, 343, 149, 344, 345, 346, 347, 85, 348, 349, 350, 351, 352, 353, 354, 355, 356, 357, 358, 359, 360, 361, 362, 363, 364, 365, 79, 80, 81, 366, 367, 368, 369, 370, 371, 372, 373, 374, 375, 376, 377, 404, 405, 406, 407, 578, 579, 580, 581, 582, 583, 584, 585, 586, 587, 588, 589, 590, 591, 592, 593] (by decide +kernel) (by decide +kernel)
set_option maxRecDepth 20000 in
theorem gL_law_X6_would : GoodIn wsL_law (wsV RL 129 RX6 yX6_would wsX6_would) := goodIn_app (goodIn_of _ (by decide +kernel)) ggL_law_X6_would
set_option maxRecDepth 20000 in
theorem ggL_law_L_forecast : GoodIn wsL_law wsL_forecast := goodIn_ca (goodIn_ca (goodIn_r _ [544, 91, 92, 545, 546, 547, 2, 548, 97, 98, 25, 549, 17, 99, 178, 109, 110, 111, 112, 113, 205, 206, 207, 208, 16, 517, 518, 519, 520, 521, 522, 523, 15, 524, 213, 240, 218, 220, 222, 33, 39, 525, 526, 527, 528, 40, 41, 42, 529, 530, 531, 32, 532, 51, 533, 52, 209, 210, 211, 212, 214, 215, 216, 217, 43, 219, 37, 221, 223, 224, 225, 226, 227, 228, 229, 230, 231, 232, 233, 234, 235, 236, 237, 238, 239, 241, 182, 183, 184, 242, 243, 244, 245, 246, 247, 248, 249, 250, 251, 252, 253, 254, 255, 45, 44, 256, 257, 258, 259, 260, 261, 262, 263, 264, 265, 266, 267, 268, 269, 270, 271, 272, 273, 274, 275, 276, 277, 278, 279, 280, 281, 282, 283, 284, 285, 286, 287, 288, 46, 289, 290, 291, 292, 293, 294, 295, 296, 297, 298, 299, 300, 301, 302, 303, 304, 305, 47, 492, 316, 317, 318, 550, 551, 552, 24, 553, 554, 70, 71, 574, 575, 576, 577, 617, 618, 619, 594, 595, 596, 597, 598, 599, 600, 601, 602, 603, 604, 605, 606, 607, 608, 609, 620, 621, 622, 623, 624, 625, 626] (by decide +kernel) (by decide +kernel)) (goodIn_sub (fun _ h => List.mem_append_left _ (List.mem_append_left _ (List.mem_append_right _ h))) (by decide +kernel))) (goodIn_sub (fun _ h => List.mem_append_right _ h) (by decide +kernel))
set_option maxRecDepth 20000 in
theorem gL_law_L_forecast : GoodIn wsL_law (va_wsS RL 130 yL_forecast wsL_forecast) := goodIn_app (goodIn_of _ (by decide +kernel)) ggL_law_L_forecast
set_option maxRecDepth 20000 in
theorem ggL_law_X6_forecast : GoodIn wsL_law wsX6_forecast := goodIn_r _ [558, 76, 323, 82, 83, 84, 121, 122, 5, 123, 324, 325, 326, 327, 132, 538, 539, 540, 541, 77, 328, 329, 330, 331, 332, 333, 334, 335, 168, 169, 170, 124, 125, 126, 127, 336, 337, 338, 339, 340, 341, 342, 343, 149, 344, 345, 346, 347, 85, 348, 349, 350, 351, 352, 353, 354, 355, 356, 357, 358, 359, 360, 361, 362, 363, 364, 365, 79, 80, 81, 366, 367, 368, 369, 370, 371, 372, 373, 374, 375, 376, 377, 378, 379, 380, 381, 578, 579, 580, 581, 582, 583, 584, 585, 586, 587, 588, 589, 590, 591, 592, 593] (by decide +kernel) (by decide +kernel)
set_option maxRecDepth 20000 in
theorem gL_law_X6_forecast : GoodIn wsL_law (wsV RL 132 RX6 yX6_forecast wsX6_forecast) := goodIn_app (goodIn_of _ (by decide +kernel)) ggL_law_X6_forecast
set_option maxRecDepth 20000 in
theorem ggL_law_L_miss : GoodIn wsL_law wsL_miss := goodIn_ca (goodIn_r _ [561, 90, 562, 563, 564, 2, 565, 107, 108, 25, 549, 566, 16, 178, 567, 21, 568, 569, 398, 225, 399, 574, 575, 576, 577, 617, 618, 619, 594, 595, 596, 597, 598, 599, 600, 601, 602, 603, 604, 605, 606, 607, 608, 609, 610, 611, 612, 613, 614, 615, 616] (by decide +kernel) (by decide +kernel)) (goodIn_sub (fun _ h => List.mem_append_left _ (List.mem_append_right _ h)) (by decide +kernel))
set_option maxRecDepth 20000 in
theorem gL_law_L_miss : GoodIn wsL_law (va_wsS RL 133 yL_miss wsL_miss) := goodIn_app (goodIn_of _ (by decide +kernel)) ggL_law_L_miss
set_option maxRecDepth 20000 in
theorem ggL_law_X6_miss : GoodIn wsL_law wsX6_miss := goodIn_r _ [573, 323, 84, 121, 122, 5, 123, 150, 151, 152, 153, 132, 578, 579, 580, 581, 582, 583, 584, 585, 586, 587, 588, 589, 590, 591, 592, 593] (by decide +kernel) (by decide +kernel)
set_option maxRecDepth 20000 in
theorem gL_law_X6_miss : GoodIn wsL_law (wsV RL 135 RX6 yX6_miss wsX6_miss) := goodIn_app (goodIn_of _ (by decide +kernel)) ggL_law_X6_miss
theorem dL_law_0 : decode cL_law 0 = .ok (.new 8, 3) := by decide +kernel
theorem dL_law_3 : decode cL_law 3 = .ok (.dup, 1) := by decide +kernel
theorem dL_law_4 : decode cL_law 4 = .ok (.invokespecial 64, 3) := by decide +kernel
theorem dL_law_7 : decode cL_law 7 = .ok (.astore_n 1, 1) := by decide +kernel
theorem dL_law_8 : decode cL_law 8 = .ok (.new 65, 3) := by decide +kernel
theorem dL_law_11 : decode cL_law 11 = .ok (.dup, 1) := by decide +kernel
theorem dL_law_12 : decode cL_law 12 = .ok (.invokespecial 67, 3) := by decide +kernel
theorem dL_law_15 : decode cL_law 15 = .ok (.astore_n 2, 1) := by decide +kernel
theorem dL_law_16 : decode cL_law 16 = .ok (.iconst 1, 1) := by decide +kernel
theorem dL_law_17 : decode cL_law 17 = .ok (.newarray .long, 2) := by decide +kernel
theorem dL_law_19 : decode cL_law 19 = .ok (.astore_n 3, 1) := by decide +kernel
theorem dL_law_20 : decode cL_law 20 = .ok (.iconst 0, 1) := by decide +kernel
theorem dL_law_21 : decode cL_law 21 = .ok (.istore 4, 2) := by decide +kernel
theorem dL_law_23 : decode cL_law 23 = .ok (.iload 4, 2) := by decide +kernel
theorem dL_law_25 : decode cL_law 25 = .ok (.aload_n 0, 1) := by decide +kernel
theorem dL_law_26 : decode cL_law 26 = .ok (.arraylength, 1) := by decide +kernel
theorem dL_law_27 : decode cL_law 27 = .ok (.iconst 4, 1) := by decide +kernel
theorem dL_law_28 : decode cL_law 28 = .ok (.isub, 1) := by decide +kernel
theorem dL_law_29 : decode cL_law 29 = .ok (.if_icmp .gt 1092, 3) := by decide +kernel
theorem dL_law_32 : decode cL_law 32 = .ok (.aload_n 0, 1) := by decide +kernel
theorem dL_law_33 : decode cL_law 33 = .ok (.iload 4, 2) := by decide +kernel
theorem dL_law_35 : decode cL_law 35 = .ok (.iaload, 1) := by decide +kernel
theorem dL_law_36 : decode cL_law 36 = .ok (.bipush 31, 2) := by decide +kernel
theorem dL_law_38 : decode cL_law 38 = .ok (.iand, 1) := by decide +kernel
theorem dL_law_39 : decode cL_law 39 = .ok (.tableswitch 1076 0 17 #[85, 153, 209, 269, 337, 350, 406, 474, 542, 610, 678, 691, 759, 815, 871, 884, 964, 1020], 85) := by decide +kernel
theorem dL_law_124 : decode cL_law 124 = .ok (.aload_n 1, 1) := by decide +kernel
theorem dL_law_125 : decode cL_law 125 = .ok (.aload_n 0, 1) := by decide +kernel
theorem dL_law_126 : decode cL_law 126 = .ok (.iload 4, 2) := by decide +kernel
theorem dL_law_128 : decode cL_law 128 = .ok (.iconst 1, 1) := by decide +kernel
theorem dL_law_129 : decode cL_law 129 = .ok (.iadd, 1) := by decide +kernel
theorem dL_law_130 : decode cL_law 130 = .ok (.iaload, 1) := by decide +kernel
theorem dL_law_131 : decode cL_law 131 = .ok (.aload_n 0, 1) := by decide +kernel
theorem dL_law_132 : decode cL_law 132 = .ok (.iload 4, 2) := by decide +kernel
theorem dL_law_134 : decode cL_law 134 = .ok (.iconst 2, 1) := by decide +kernel
theorem dL_law_135 : decode cL_law 135 = .ok (.iadd, 1) := by decide +kernel
theorem dL_law_136 : decode cL_law 136 = .ok (.iaload, 1) := by decide +kernel
theorem dL_law_137 : decode cL_law 137 = .ok (.aload_n 3, 1) := by decide +kernel
theorem dL_law_138 : decode cL_law 138 = .ok (.invokestatic 68, 3) := by decide +kernel
theorem dL_law_141 : decode cL_law 141 = .ok (.istore 5, 2) := by decide +kernel
theorem dL_law_143 : decode cL_law 143 = .ok (.aload_n 2, 1) := by decide +kernel
theorem dL_law_144 : decode cL_law 144 = .ok (.aload_n 0, 1) := by decide +kernel
theorem dL_law_145 : decode cL_law 145 = .ok (.iload 4, 2) := by decide +kernel
theorem dL_law_147 : decode cL_law 147 = .ok (.iconst 1, 1) := by decide +kernel
theorem dL_law_148 : decode cL_law 148 = .ok (.iadd, 1) := by decide +kernel
theorem dL_law_149 : decode cL_law 149 = .ok (.iaload, 1) := by decide +kernel
theorem dL_law_150 : decode cL_law 150 = .ok (.aload_n 0, 1) := by decide +kernel
theorem dL_law_151 : decode cL_law 151 = .ok (.iload 4, 2) := by decide +kernel
theorem dL_law_153 : decode cL_law 153 = .ok (.iconst 2, 1) := by decide +kernel
theorem dL_law_154 : decode cL_law 154 = .ok (.iadd, 1) := by decide +kernel
theorem dL_law_155 : decode cL_law 155 = .ok (.iaload, 1) := by decide +kernel
theorem dL_law_156 : decode cL_law 156 = .ok (.invokevirtual 73, 3) := by decide +kernel
theorem dL_law_159 : decode cL_law 159 = .ok (.istore 6, 2) := by decide +kernel
theorem dL_law_161 : decode cL_law 161 = .ok (.aload_n 2, 1) := by decide +kernel
theorem dL_law_162 : decode cL_law 162 = .ok (.invokevirtual 74, 3) := by decide +kernel
theorem dL_law_165 : decode cL_law 165 = .ok (.iload 5, 2) := by decide +kernel
theorem dL_law_167 : decode cL_law 167 = .ok (.if_icmp .eq 5, 3) := by decide +kernel
theorem dL_law_170 : decode cL_law 170 = .ok (.iconst 0, 1) := by decide +kernel
theorem dL_law_171 : decode cL_law 171 = .ok (.ireturn, 1) := by decide +kernel
theorem dL_law_172 : decode cL_law 172 = .ok (.iload 5, 2) := by decide +kernel
theorem dL_law_174 : decode cL_law 174 = .ok (.ifCond .ne 15, 3) := by decide +kernel
theorem dL_law_177 : decode cL_law 177 = .ok (.aload_n 3, 1) := by decide +kernel
theorem dL_law_178 : decode cL_law 178 = .ok (.iconst 0, 1) := by decide +kernel
theorem dL_law_179 : decode cL_law 179 = .ok (.laload, 1) := by decide +kernel
theorem dL_law_180 : decode cL_law 180 = .ok (.iload 6, 2) := by decide +kernel
theorem dL_law_182 : decode cL_law 182 = .ok (.i2l, 1) := by decide +kernel
theorem dL_law_183 : decode cL_law 183 = .ok (.lcmp, 1) := by decide +kernel
theorem dL_law_184 : decode cL_law 184 = .ok (.ifCond .eq 5, 3) := by decide +kernel
theorem dL_law_187 : decode cL_law 187 = .ok (.iconst 0, 1) := by decide +kernel
theorem dL_law_188 : decode cL_law 188 = .ok (.ireturn, 1) := by decide +kernel
theorem dL_law_189 : decode cL_law 189 = .ok (.goto 926, 3) := by decide +kernel
theorem dL_law_192 : decode cL_law 192 = .ok (.aload_n 1, 1) := by decide +kernel
theorem dL_law_193 : decode cL_law 193 = .ok (.aload_n 0, 1) := by decide +kernel
theorem dL_law_194 : decode cL_law 194 = .ok (.iload 4, 2) := by decide +kernel
theorem dL_law_196 : decode cL_law 196 = .ok (.iconst 1, 1) := by decide +kernel
theorem dL_law_197 : decode cL_law 197 = .ok (.iadd, 1) := by decide +kernel
theorem dL_law_198 : decode cL_law 198 = .ok (.iaload, 1) := by decide +kernel
theorem dL_law_199 : decode cL_law 199 = .ok (.aload_n 3, 1) := by decide +kernel
theorem dL_law_200 : decode cL_law 200 = .ok (.invokestatic 78, 3) := by decide +kernel
theorem dL_law_203 : decode cL_law 203 = .ok (.istore 5, 2) := by decide +kernel
theorem dL_law_205 : decode cL_law 205 = .ok (.aload_n 2, 1) := by decide +kernel
theorem dL_law_206 : decode cL_law 206 = .ok (.aload_n 0, 1) := by decide +kernel
theorem dL_law_207 : decode cL_law 207 = .ok (.iload 4, 2) := by decide +kernel
theorem dL_law_209 : decode cL_law 209 = .ok (.iconst 1, 1) := by decide +kernel
theorem dL_law_210 : decode cL_law 210 = .ok (.iadd, 1) := by decide +kernel
theorem dL_law_211 : decode cL_law 211 = .ok (.iaload, 1) := by decide +kernel
theorem dL_law_212 : decode cL_law 212 = .ok (.invokevirtual 81, 3) := by decide +kernel
theorem dL_law_215 : decode cL_law 215 = .ok (.istore 6, 2) := by decide +kernel
theorem dL_law_217 : decode cL_law 217 = .ok (.aload_n 2, 1) := by decide +kernel
theorem dL_law_218 : decode cL_law 218 = .ok (.invokevirtual 74, 3) := by decide +kernel
theorem dL_law_221 : decode cL_law 221 = .ok (.iload 5, 2) := by decide +kernel
theorem dL_law_223 : decode cL_law 223 = .ok (.if_icmp .eq 5, 3) := by decide +kernel
theorem dL_law_226 : decode cL_law 226 = .ok (.iconst 0, 1) := by decide +kernel
theorem dL_law_227 : decode cL_law 227 = .ok (.ireturn, 1) := by decide +kernel
theorem dL_law_228 : decode cL_law 228 = .ok (.iload 5, 2) := by decide +kernel
theorem dL_law_230 : decode cL_law 230 = .ok (.ifCond .ne 15, 3) := by decide +kernel
theorem dL_law_233 : decode cL_law 233 = .ok (.aload_n 3, 1) := by decide +kernel
theorem dL_law_234 : decode cL_law 234 = .ok (.iconst 0, 1) := by decide +kernel
theorem dL_law_235 : decode cL_law 235 = .ok (.laload, 1) := by decide +kernel
theorem dL_law_236 : decode cL_law 236 = .ok (.iload 6, 2) := by decide +kernel
theorem dL_law_238 : decode cL_law 238 = .ok (.i2l, 1) := by decide +kernel
theorem dL_law_239 : decode cL_law 239 = .ok (.lcmp, 1) := by decide +kernel
theorem dL_law_240 : decode cL_law 240 = .ok (.ifCond .eq 5, 3) := by decide +kernel
theorem dL_law_243 : decode cL_law 243 = .ok (.iconst 0, 1) := by decide +kernel
theorem dL_law_244 : decode cL_law 244 = .ok (.ireturn, 1) := by decide +kernel
theorem dL_law_245 : decode cL_law 245 = .ok (.goto 870, 3) := by decide +kernel
theorem dL_law_248 : decode cL_law 248 = .ok (.aload_n 1, 1) := by decide +kernel
theorem dL_law_249 : decode cL_law 249 = .ok (.aload_n 0, 1) := by decide +kernel
theorem dL_law_250 : decode cL_law 250 = .ok (.iload 4, 2) := by decide +kernel
theorem dL_law_252 : decode cL_law 252 = .ok (.iconst 1, 1) := by decide +kernel
theorem dL_law_253 : decode cL_law 253 = .ok (.iadd, 1) := by decide +kernel
theorem dL_law_254 : decode cL_law 254 = .ok (.iaload, 1) := by decide +kernel
theorem dL_law_255 : decode cL_law 255 = .ok (.aload_n 0, 1) := by decide +kernel
theorem dL_law_256 : decode cL_law 256 = .ok (.iload 4, 2) := by decide +kernel
theorem dL_law_258 : decode cL_law 258 = .ok (.iconst 2, 1) := by decide +kernel
theorem dL_law_259 : decode cL_law 259 = .ok (.iadd, 1) := by decide +kernel
theorem dL_law_260 : decode cL_law 260 = .ok (.iaload, 1) := by decide +kernel
theorem dL_law_261 : decode cL_law 261 = .ok (.aload_n 0, 1) := by decide +kernel
theorem dL_law_262 : decode cL_law 262 = .ok (.iload 4, 2) := by decide +kernel
theorem dL_law_264 : decode cL_law 264 = .ok (.iconst 3, 1) := by decide +kernel
theorem dL_law_265 : decode cL_law 265 = .ok (.iadd, 1) := by decide +kernel
theorem dL_law_266 : decode cL_law 266 = .ok (.iaload, 1) := by decide +kernel
theorem dL_law_267 : decode cL_law 267 = .ok (.invokestatic 82, 3) := by decide +kernel
theorem dL_law_270 : decode cL_law 270 = .ok (.istore 5, 2) := by decide +kernel
theorem dL_law_272 : decode cL_law 272 = .ok (.aload_n 2, 1) := by decide +kernel
theorem dL_law_273 : decode cL_law 273 = .ok (.aload_n 0, 1) := by decide +kernel
theorem dL_law_274 : decode cL_law 274 = .ok (.iload 4, 2) := by decide +kernel
theorem dL_law_276 : decode cL_law 276 = .ok (.iconst 1, 1) := by decide +kernel
theorem dL_law_277 : decode cL_law 277 = .ok (.iadd, 1) := by decide +kernel
theorem dL_law_278 : decode cL_law 278 = .ok (.iaload, 1) := by decide +kernel
theorem dL_law_279 : decode cL_law 279 = .ok (.aload_n 0, 1) := by decide +kernel
theorem dL_law_280 : decode cL_law 280 = .ok (.iload 4, 2) := by decide +kernel
theorem dL_law_282 : decode cL_law 282 = .ok (.iconst 2, 1) := by decide +kernel
theorem dL_law_283 : decode cL_law 283 = .ok (.iadd, 1) := by decide +kernel
theorem dL_law_284 : decode cL_law 284 = .ok (.iaload, 1) := by decide +kernel
theorem dL_law_285 : decode cL_law 285 = .ok (.aload_n 0, 1) := by decide +kernel
theorem dL_law_286 : decode cL_law 286 = .ok (.iload 4, 2) := by decide +kernel
theorem dL_law_288 : decode cL_law 288 = .ok (.iconst 3, 1) := by decide +kernel
theorem dL_law_289 : decode cL_law 289 = .ok (.iadd, 1) := by decide +kernel
theorem dL_law_290 : decode cL_law 290 = .ok (.iaload, 1) := by decide +kernel
theorem dL_law_291 : decode cL_law 291 = .ok (.invokevirtual 85, 3) := by decide +kernel
theorem dL_law_294 : decode cL_law 294 = .ok (.aload_n 2, 1) := by decide +kernel
theorem dL_law_295 : decode cL_law 295 = .ok (.invokevirtual 74, 3) := by decide +kernel
theorem dL_law_298 : decode cL_law 298 = .ok (.iload 5, 2) := by decide +kernel
theorem dL_law_300 : decode cL_law 300 = .ok (.if_icmp .eq 5, 3) := by decide +kernel
theorem dL_law_303 : decode cL_law 303 = .ok (.iconst 0, 1) := by decide +kernel
theorem dL_law_304 : decode cL_law 304 = .ok (.ireturn, 1) := by decide +kernel
theorem dL_law_305 : decode cL_law 305 = .ok (.goto 810, 3) := by decide +kernel
theorem dL_law_308 : decode cL_law 308 = .ok (.aload_n 1, 1) := by decide +kernel
theorem dL_law_309 : decode cL_law 309 = .ok (.aload_n 0, 1) := by decide +kernel
theorem dL_law_310 : decode cL_law 310 = .ok (.iload 4, 2) := by decide +kernel
theorem dL_law_312 : decode cL_law 312 = .ok (.iconst 1, 1) := by decide +kernel
theorem dL_law_313 : decode cL_law 313 = .ok (.iadd, 1) := by decide +kernel
theorem dL_law_314 : decode cL_law 314 = .ok (.iaload, 1) := by decide +kernel
theorem dL_law_315 : decode cL_law 315 = .ok (.aload_n 0, 1) := by decide +kernel
theorem dL_law_316 : decode cL_law 316 = .ok (.iload 4, 2) := by decide +kernel
theorem dL_law_318 : decode cL_law 318 = .ok (.iconst 2, 1) := by decide +kernel
theorem dL_law_319 : decode cL_law 319 = .ok (.iadd, 1) := by decide +kernel
theorem dL_law_320 : decode cL_law 320 = .ok (.iaload, 1) := by decide +kernel
theorem dL_law_321 : decode cL_law 321 = .ok (.aload_n 3, 1) := by decide +kernel
theorem dL_law_322 : decode cL_law 322 = .ok (.invokestatic 86, 3) := by decide +kernel
theorem dL_law_325 : decode cL_law 325 = .ok (.istore 5, 2) := by decide +kernel
theorem dL_law_327 : decode cL_law 327 = .ok (.aload_n 2, 1) := by decide +kernel
theorem dL_law_328 : decode cL_law 328 = .ok (.aload_n 0, 1) := by decide +kernel
theorem dL_law_329 : decode cL_law 329 = .ok (.iload 4, 2) := by decide +kernel
theorem dL_law_331 : decode cL_law 331 = .ok (.iconst 1, 1) := by decide +kernel
theorem dL_law_332 : decode cL_law 332 = .ok (.iadd, 1) := by decide +kernel
theorem dL_law_333 : decode cL_law 333 = .ok (.iaload, 1) := by decide +kernel
theorem dL_law_334 : decode cL_law 334 = .ok (.aload_n 0, 1) := by decide +kernel
theorem dL_law_335 : decode cL_law 335 = .ok (.iload 4, 2) := by decide +kernel
theorem dL_law_337 : decode cL_law 337 = .ok (.iconst 2, 1) := by decide +kernel
theorem dL_law_338 : decode cL_law 338 = .ok (.iadd, 1) := by decide +kernel
theorem dL_law_339 : decode cL_law 339 = .ok (.iaload, 1) := by decide +kernel
theorem dL_law_340 : decode cL_law 340 = .ok (.invokevirtual 88, 3) := by decide +kernel
theorem dL_law_343 : decode cL_law 343 = .ok (.istore 6, 2) := by decide +kernel
theorem dL_law_345 : decode cL_law 345 = .ok (.aload_n 2, 1) := by decide +kernel
theorem dL_law_346 : decode cL_law 346 = .ok (.invokevirtual 74, 3) := by decide +kernel
theorem dL_law_349 : decode cL_law 349 = .ok (.iload 5, 2) := by decide +kernel
theorem dL_law_351 : decode cL_law 351 = .ok (.if_icmp .eq 5, 3) := by decide +kernel
theorem dL_law_354 : decode cL_law 354 = .ok (.iconst 0, 1) := by decide +kernel
theorem dL_law_355 : decode cL_law 355 = .ok (.ireturn, 1) := by decide +kernel
theorem dL_law_356 : decode cL_law 356 = .ok (.iload 5, 2) := by decide +kernel
theorem dL_law_358 : decode cL_law 358 = .ok (.ifCond .ne 15, 3) := by decide +kernel
theorem dL_law_361 : decode cL_law 361 = .ok (.aload_n 3, 1) := by decide +kernel
theorem dL_law_362 : decode cL_law 362 = .ok (.iconst 0, 1) := by decide +kernel
theorem dL_law_363 : decode cL_law 363 = .ok (.laload, 1) := by decide +kernel
theorem dL_law_364 : decode cL_law 364 = .ok (.iload 6, 2) := by decide +kernel
theorem dL_law_366 : decode cL_law 366 = .ok (.i2l, 1) := by decide +kernel
theorem dL_law_367 : decode cL_law 367 = .ok (.lcmp, 1) := by decide +kernel
theorem dL_law_368 : decode cL_law 368 = .ok (.ifCond .eq 5, 3) := by decide +kernel
theorem dL_law_371 : decode cL_law 371 = .ok (.iconst 0, 1) := by decide +kernel
theorem dL_law_372 : decode cL_law 372 = .ok (.ireturn, 1) := by decide +kernel
theorem dL_law_373 : decode cL_law 373 = .ok (.goto 742, 3) := by decide +kernel
theorem dL_law_376 : decode cL_law 376 = .ok (.aload_n 1, 1) := by decide +kernel
theorem dL_law_377 : decode cL_law 377 = .ok (.invokevirtual 89, 3) := by decide +kernel
theorem dL_law_380 : decode cL_law 380 = .ok (.aload_n 2, 1) := by decide +kernel
theorem dL_law_381 : decode cL_law 381 = .ok (.invokevirtual 93, 3) := by decide +kernel
theorem dL_law_384 : decode cL_law 384 = .ok (.if_icmp .eq 731, 3) := by decide +kernel
theorem dL_law_387 : decode cL_law 387 = .ok (.iconst 0, 1) := by decide +kernel
theorem dL_law_388 : decode cL_law 388 = .ok (.ireturn, 1) := by decide +kernel
theorem dL_law_389 : decode cL_law 389 = .ok (.aload_n 1, 1) := by decide +kernel
theorem dL_law_390 : decode cL_law 390 = .ok (.aload_n 0, 1) := by decide +kernel
theorem dL_law_391 : decode cL_law 391 = .ok (.iload 4, 2) := by decide +kernel
theorem dL_law_393 : decode cL_law 393 = .ok (.iconst 1, 1) := by decide +kernel
theorem dL_law_394 : decode cL_law 394 = .ok (.iadd, 1) := by decide +kernel
theorem dL_law_395 : decode cL_law 395 = .ok (.iaload, 1) := by decide +kernel
theorem dL_law_396 : decode cL_law 396 = .ok (.aload_n 3, 1) := by decide +kernel
theorem dL_law_397 : decode cL_law 397 = .ok (.invokestatic 94, 3) := by decide +kernel
theorem dL_law_400 : decode cL_law 400 = .ok (.istore 5, 2) := by decide +kernel
theorem dL_law_402 : decode cL_law 402 = .ok (.aload_n 2, 1) := by decide +kernel
theorem dL_law_403 : decode cL_law 403 = .ok (.aload_n 0, 1) := by decide +kernel
theorem dL_law_404 : decode cL_law 404 = .ok (.iload 4, 2) := by decide +kernel
theorem dL_law_406 : decode cL_law 406 = .ok (.iconst 1, 1) := by decide +kernel
theorem dL_law_407 : decode cL_law 407 = .ok (.iadd, 1) := by decide +kernel
theorem dL_law_408 : decode cL_law 408 = .ok (.iaload, 1) := by decide +kernel
theorem dL_law_409 : decode cL_law 409 = .ok (.invokevirtual 96, 3) := by decide +kernel
theorem dL_law_412 : decode cL_law 412 = .ok (.istore 6, 2) := by decide +kernel
theorem dL_law_414 : decode cL_law 414 = .ok (.aload_n 2, 1) := by decide +kernel
theorem dL_law_415 : decode cL_law 415 = .ok (.invokevirtual 74, 3) := by decide +kernel
theorem dL_law_418 : decode cL_law 418 = .ok (.iload 5, 2) := by decide +kernel
theorem dL_law_420 : decode cL_law 420 = .ok (.if_icmp .eq 5, 3) := by decide +kernel
theorem dL_law_423 : decode cL_law 423 = .ok (.iconst 0, 1) := by decide +kernel
theorem dL_law_424 : decode cL_law 424 = .ok (.ireturn, 1) := by decide +kernel
theorem dL_law_425 : decode cL_law 425 = .ok (.iload 5, 2) := by decide +kernel
theorem dL_law_427 : decode cL_law 427 = .ok (.ifCond .ne 15, 3) := by decide +kernel
theorem dL_law_430 : decode cL_law 430 = .ok (.aload_n 3, 1) := by decide +kernel
theorem dL_law_431 : decode cL_law 431 = .ok (.iconst 0, 1) := by decide +kernel
theorem dL_law_432 : decode cL_law 432 = .ok (.laload, 1) := by decide +kernel
theorem dL_law_433 : decode cL_law 433 = .ok (.iload 6, 2) := by decide +kernel
theorem dL_law_435 : decode cL_law 435 = .ok (.i2l, 1) := by decide +kernel
theorem dL_law_436 : decode cL_law 436 = .ok (.lcmp, 1) := by decide +kernel
theorem dL_law_437 : decode cL_law 437 = .ok (.ifCond .eq 5, 3) := by decide +kernel
theorem dL_law_440 : decode cL_law 440 = .ok (.iconst 0, 1) := by decide +kernel
theorem dL_law_441 : decode cL_law 441 = .ok (.ireturn, 1) := by decide +kernel
theorem dL_law_442 : decode cL_law 442 = .ok (.goto 673, 3) := by decide +kernel
theorem dL_law_445 : decode cL_law 445 = .ok (.aload_n 1, 1) := by decide +kernel
theorem dL_law_446 : decode cL_law 446 = .ok (.aload_n 0, 1) := by decide +kernel
theorem dL_law_447 : decode cL_law 447 = .ok (.iload 4, 2) := by decide +kernel
theorem dL_law_449 : decode cL_law 449 = .ok (.iconst 1, 1) := by decide +kernel
theorem dL_law_450 : decode cL_law 450 = .ok (.iadd, 1) := by decide +kernel
theorem dL_law_451 : decode cL_law 451 = .ok (.iaload, 1) := by decide +kernel
theorem dL_law_452 : decode cL_law 452 = .ok (.aload_n 0, 1) := by decide +kernel
theorem dL_law_453 : decode cL_law 453 = .ok (.iload 4, 2) := by decide +kernel
theorem dL_law_455 : decode cL_law 455 = .ok (.iconst 2, 1) := by decide +kernel
theorem dL_law_456 : decode cL_law 456 = .ok (.iadd, 1) := by decide +kernel
theorem dL_law_457 : decode cL_law 457 = .ok (.iaload, 1) := by decide +kernel
theorem dL_law_458 : decode cL_law 458 = .ok (.aload_n 3, 1) := by decide +kernel
theorem dL_law_459 : decode cL_law 459 = .ok (.invokestatic 97, 3) := by decide +kernel
theorem dL_law_462 : decode cL_law 462 = .ok (.istore 5, 2) := by decide +kernel
theorem dL_law_464 : decode cL_law 464 = .ok (.aload_n 2, 1) := by decide +kernel
theorem dL_law_465 : decode cL_law 465 = .ok (.aload_n 0, 1) := by decide +kernel
theorem dL_law_466 : decode cL_law 466 = .ok (.iload 4, 2) := by decide +kernel
theorem dL_law_468 : decode cL_law 468 = .ok (.iconst 1, 1) := by decide +kernel
theorem dL_law_469 : decode cL_law 469 = .ok (.iadd, 1) := by decide +kernel
theorem dL_law_470 : decode cL_law 470 = .ok (.iaload, 1) := by decide +kernel
theorem dL_law_471 : decode cL_law 471 = .ok (.aload_n 0, 1) := by decide +kernel
theorem dL_law_472 : decode cL_law 472 = .ok (.iload 4, 2) := by decide +kernel
theorem dL_law_474 : decode cL_law 474 = .ok (.iconst 2, 1) := by decide +kernel
theorem dL_law_475 : decode cL_law 475 = .ok (.iadd, 1) := by decide +kernel
theorem dL_law_476 : decode cL_law 476 = .ok (.iaload, 1) := by decide +kernel
theorem dL_law_477 : decode cL_law 477 = .ok (.invokevirtual 99, 3) := by decide +kernel
theorem dL_law_480 : decode cL_law 480 = .ok (.istore 6, 2) := by decide +kernel
theorem dL_law_482 : decode cL_law 482 = .ok (.aload_n 2, 1) := by decide +kernel
theorem dL_law_483 : decode cL_law 483 = .ok (.invokevirtual 74, 3) := by decide +kernel
theorem dL_law_486 : decode cL_law 486 = .ok (.iload 5, 2) := by decide +kernel
theorem dL_law_488 : decode cL_law 488 = .ok (.if_icmp .eq 5, 3) := by decide +kernel
theorem dL_law_491 : decode cL_law 491 = .ok (.iconst 0, 1) := by decide +kernel
theorem dL_law_492 : decode cL_law 492 = .ok (.ireturn, 1) := by decide +kernel
theorem dL_law_493 : decode cL_law 493 = .ok (.iload 5, 2) := by decide +kernel
theorem dL_law_495 : decode cL_law 495 = .ok (.ifCond .ne 15, 3) := by decide +kernel
theorem dL_law_498 : decode cL_law 498 = .ok (.aload_n 3, 1) := by decide +kernel
theorem dL_law_499 : decode cL_law 499 = .ok (.iconst 0, 1) := by decide +kernel
theorem dL_law_500 : decode cL_law 500 = .ok (.laload, 1) := by decide +kernel
theorem dL_law_501 : decode cL_law 501 = .ok (.iload 6, 2) := by decide +kernel
theorem dL_law_503 : decode cL_law 503 = .ok (.i2l, 1) := by decide +kernel
theorem dL_law_504 : decode cL_law 504 = .ok (.lcmp, 1) := by decide +kernel
theorem dL_law_505 : decode cL_law 505 = .ok (.ifCond .eq 5, 3) := by decide +kernel
theorem dL_law_508 : decode cL_law 508 = .ok (.iconst 0, 1) := by decide +kernel
theorem dL_law_509 : decode cL_law 509 = .ok (.ireturn, 1) := by decide +kernel
theorem dL_law_510 : decode cL_law 510 = .ok (.goto 605, 3) := by decide +kernel
theorem dL_law_513 : decode cL_law 513 = .ok (.aload_n 1, 1) := by decide +kernel
theorem dL_law_514 : decode cL_law 514 = .ok (.aload_n 0, 1) := by decide +kernel
theorem dL_law_515 : decode cL_law 515 = .ok (.iload 4, 2) := by decide +kernel
theorem dL_law_517 : decode cL_law 517 = .ok (.iconst 1, 1) := by decide +kernel
theorem dL_law_518 : decode cL_law 518 = .ok (.iadd, 1) := by decide +kernel
theorem dL_law_519 : decode cL_law 519 = .ok (.iaload, 1) := by decide +kernel
theorem dL_law_520 : decode cL_law 520 = .ok (.aload_n 0, 1) := by decide +kernel
theorem dL_law_521 : decode cL_law 521 = .ok (.iload 4, 2) := by decide +kernel
theorem dL_law_523 : decode cL_law 523 = .ok (.iconst 2, 1) := by decide +kernel
theorem dL_law_524 : decode cL_law 524 = .ok (.iadd, 1) := by decide +kernel
theorem dL_law_525 : decode cL_law 525 = .ok (.iaload, 1) := by decide +kernel
theorem dL_law_526 : decode cL_law 526 = .ok (.aload_n 3, 1) := by decide +kernel
theorem dL_law_527 : decode cL_law 527 = .ok (.invokestatic 100, 3) := by decide +kernel
theorem dL_law_530 : decode cL_law 530 = .ok (.istore 5, 2) := by decide +kernel
theorem dL_law_532 : decode cL_law 532 = .ok (.aload_n 2, 1) := by decide +kernel
theorem dL_law_533 : decode cL_law 533 = .ok (.aload_n 0, 1) := by decide +kernel
theorem dL_law_534 : decode cL_law 534 = .ok (.iload 4, 2) := by decide +kernel
theorem dL_law_536 : decode cL_law 536 = .ok (.iconst 1, 1) := by decide +kernel
theorem dL_law_537 : decode cL_law 537 = .ok (.iadd, 1) := by decide +kernel
theorem dL_law_538 : decode cL_law 538 = .ok (.iaload, 1) := by decide +kernel
theorem dL_law_539 : decode cL_law 539 = .ok (.aload_n 0, 1) := by decide +kernel
theorem dL_law_540 : decode cL_law 540 = .ok (.iload 4, 2) := by decide +kernel
theorem dL_law_542 : decode cL_law 542 = .ok (.iconst 2, 1) := by decide +kernel
theorem dL_law_543 : decode cL_law 543 = .ok (.iadd, 1) := by decide +kernel
theorem dL_law_544 : decode cL_law 544 = .ok (.iaload, 1) := by decide +kernel
theorem dL_law_545 : decode cL_law 545 = .ok (.invokevirtual 102, 3) := by decide +kernel
theorem dL_law_548 : decode cL_law 548 = .ok (.istore 6, 2) := by decide +kernel
theorem dL_law_550 : decode cL_law 550 = .ok (.aload_n 2, 1) := by decide +kernel
theorem dL_law_551 : decode cL_law 551 = .ok (.invokevirtual 74, 3) := by decide +kernel
theorem dL_law_554 : decode cL_law 554 = .ok (.iload 5, 2) := by decide +kernel
theorem dL_law_556 : decode cL_law 556 = .ok (.if_icmp .eq 5, 3) := by decide +kernel
theorem dL_law_559 : decode cL_law 559 = .ok (.iconst 0, 1) := by decide +kernel
theorem dL_law_560 : decode cL_law 560 = .ok (.ireturn, 1) := by decide +kernel
theorem dL_law_561 : decode cL_law 561 = .ok (.iload 5, 2) := by decide +kernel
theorem dL_law_563 : decode cL_law 563 = .ok (.ifCond .ne 15, 3) := by decide +kernel
theorem dL_law_566 : decode cL_law 566 = .ok (.aload_n 3, 1) := by decide +kernel
theorem dL_law_567 : decode cL_law 567 = .ok (.iconst 0, 1) := by decide +kernel
theorem dL_law_568 : decode cL_law 568 = .ok (.laload, 1) := by decide +kernel
theorem dL_law_569 : decode cL_law 569 = .ok (.iload 6, 2) := by decide +kernel
theorem dL_law_571 : decode cL_law 571 = .ok (.i2l, 1) := by decide +kernel
theorem dL_law_572 : decode cL_law 572 = .ok (.lcmp, 1) := by decide +kernel
theorem dL_law_573 : decode cL_law 573 = .ok (.ifCond .eq 5, 3) := by decide +kernel
theorem dL_law_576 : decode cL_law 576 = .ok (.iconst 0, 1) := by decide +kernel
theorem dL_law_577 : decode cL_law 577 = .ok (.ireturn, 1) := by decide +kernel
theorem dL_law_578 : decode cL_law 578 = .ok (.goto 537, 3) := by decide +kernel
theorem dL_law_581 : decode cL_law 581 = .ok (.aload_n 1, 1) := by decide +kernel
theorem dL_law_582 : decode cL_law 582 = .ok (.aload_n 0, 1) := by decide +kernel
theorem dL_law_583 : decode cL_law 583 = .ok (.iload 4, 2) := by decide +kernel
theorem dL_law_585 : decode cL_law 585 = .ok (.iconst 1, 1) := by decide +kernel
theorem dL_law_586 : decode cL_law 586 = .ok (.iadd, 1) := by decide +kernel
theorem dL_law_587 : decode cL_law 587 = .ok (.iaload, 1) := by decide +kernel
theorem dL_law_588 : decode cL_law 588 = .ok (.aload_n 0, 1) := by decide +kernel
theorem dL_law_589 : decode cL_law 589 = .ok (.iload 4, 2) := by decide +kernel
theorem dL_law_591 : decode cL_law 591 = .ok (.iconst 2, 1) := by decide +kernel
theorem dL_law_592 : decode cL_law 592 = .ok (.iadd, 1) := by decide +kernel
theorem dL_law_593 : decode cL_law 593 = .ok (.iaload, 1) := by decide +kernel
theorem dL_law_594 : decode cL_law 594 = .ok (.aload_n 3, 1) := by decide +kernel
theorem dL_law_595 : decode cL_law 595 = .ok (.invokestatic 103, 3) := by decide +kernel
theorem dL_law_598 : decode cL_law 598 = .ok (.istore 5, 2) := by decide +kernel
theorem dL_law_600 : decode cL_law 600 = .ok (.aload_n 2, 1) := by decide +kernel
theorem dL_law_601 : decode cL_law 601 = .ok (.aload_n 0, 1) := by decide +kernel
theorem dL_law_602 : decode cL_law 602 = .ok (.iload 4, 2) := by decide +kernel
theorem dL_law_604 : decode cL_law 604 = .ok (.iconst 1, 1) := by decide +kernel
theorem dL_law_605 : decode cL_law 605 = .ok (.iadd, 1) := by decide +kernel
theorem dL_law_606 : decode cL_law 606 = .ok (.iaload, 1) := by decide +kernel
theorem dL_law_607 : decode cL_law 607 = .ok (.aload_n 0, 1) := by decide +kernel
theorem dL_law_608 : decode cL_law 608 = .ok (.iload 4, 2) := by decide +kernel
theorem dL_law_610 : decode cL_law 610 = .ok (.iconst 2, 1) := by decide +kernel
theorem dL_law_611 : decode cL_law 611 = .ok (.iadd, 1) := by decide +kernel
theorem dL_law_612 : decode cL_law 612 = .ok (.iaload, 1) := by decide +kernel
theorem dL_law_613 : decode cL_law 613 = .ok (.invokevirtual 105, 3) := by decide +kernel
theorem dL_law_616 : decode cL_law 616 = .ok (.istore 6, 2) := by decide +kernel
theorem dL_law_618 : decode cL_law 618 = .ok (.aload_n 2, 1) := by decide +kernel
theorem dL_law_619 : decode cL_law 619 = .ok (.invokevirtual 74, 3) := by decide +kernel
theorem dL_law_622 : decode cL_law 622 = .ok (.iload 5, 2) := by decide +kernel
theorem dL_law_624 : decode cL_law 624 = .ok (.if_icmp .eq 5, 3) := by decide +kernel
theorem dL_law_627 : decode cL_law 627 = .ok (.iconst 0, 1) := by decide +kernel
theorem dL_law_628 : decode cL_law 628 = .ok (.ireturn, 1) := by decide +kernel
theorem dL_law_629 : decode cL_law 629 = .ok (.iload 5, 2) := by decide +kernel
theorem dL_law_631 : decode cL_law 631 = .ok (.ifCond .ne 15, 3) := by decide +kernel
theorem dL_law_634 : decode cL_law 634 = .ok (.aload_n 3, 1) := by decide +kernel
theorem dL_law_635 : decode cL_law 635 = .ok (.iconst 0, 1) := by decide +kernel
theorem dL_law_636 : decode cL_law 636 = .ok (.laload, 1) := by decide +kernel
theorem dL_law_637 : decode cL_law 637 = .ok (.iload 6, 2) := by decide +kernel
theorem dL_law_639 : decode cL_law 639 = .ok (.i2l, 1) := by decide +kernel
theorem dL_law_640 : decode cL_law 640 = .ok (.lcmp, 1) := by decide +kernel
theorem dL_law_641 : decode cL_law 641 = .ok (.ifCond .eq 5, 3) := by decide +kernel
theorem dL_law_644 : decode cL_law 644 = .ok (.iconst 0, 1) := by decide +kernel
theorem dL_law_645 : decode cL_law 645 = .ok (.ireturn, 1) := by decide +kernel
theorem dL_law_646 : decode cL_law 646 = .ok (.goto 469, 3) := by decide +kernel
theorem dL_law_649 : decode cL_law 649 = .ok (.aload_n 1, 1) := by decide +kernel
theorem dL_law_650 : decode cL_law 650 = .ok (.aload_n 0, 1) := by decide +kernel
theorem dL_law_651 : decode cL_law 651 = .ok (.iload 4, 2) := by decide +kernel
theorem dL_law_653 : decode cL_law 653 = .ok (.iconst 1, 1) := by decide +kernel
theorem dL_law_654 : decode cL_law 654 = .ok (.iadd, 1) := by decide +kernel
theorem dL_law_655 : decode cL_law 655 = .ok (.iaload, 1) := by decide +kernel
theorem dL_law_656 : decode cL_law 656 = .ok (.aload_n 0, 1) := by decide +kernel
theorem dL_law_657 : decode cL_law 657 = .ok (.iload 4, 2) := by decide +kernel
theorem dL_law_659 : decode cL_law 659 = .ok (.iconst 2, 1) := by decide +kernel
theorem dL_law_660 : decode cL_law 660 = .ok (.iadd, 1) := by decide +kernel
theorem dL_law_661 : decode cL_law 661 = .ok (.iaload, 1) := by decide +kernel
theorem dL_law_662 : decode cL_law 662 = .ok (.aload_n 3, 1) := by decide +kernel
theorem dL_law_663 : decode cL_law 663 = .ok (.invokestatic 106, 3) := by decide +kernel
theorem dL_law_666 : decode cL_law 666 = .ok (.istore 5, 2) := by decide +kernel
theorem dL_law_668 : decode cL_law 668 = .ok (.aload_n 2, 1) := by decide +kernel
theorem dL_law_669 : decode cL_law 669 = .ok (.aload_n 0, 1) := by decide +kernel
theorem dL_law_670 : decode cL_law 670 = .ok (.iload 4, 2) := by decide +kernel
theorem dL_law_672 : decode cL_law 672 = .ok (.iconst 1, 1) := by decide +kernel
theorem dL_law_673 : decode cL_law 673 = .ok (.iadd, 1) := by decide +kernel
theorem dL_law_674 : decode cL_law 674 = .ok (.iaload, 1) := by decide +kernel
theorem dL_law_675 : decode cL_law 675 = .ok (.aload_n 0, 1) := by decide +kernel
theorem dL_law_676 : decode cL_law 676 = .ok (.iload 4, 2) := by decide +kernel
theorem dL_law_678 : decode cL_law 678 = .ok (.iconst 2, 1) := by decide +kernel
theorem dL_law_679 : decode cL_law 679 = .ok (.iadd, 1) := by decide +kernel
theorem dL_law_680 : decode cL_law 680 = .ok (.iaload, 1) := by decide +kernel
theorem dL_law_681 : decode cL_law 681 = .ok (.invokevirtual 108, 3) := by decide +kernel
theorem dL_law_684 : decode cL_law 684 = .ok (.istore 6, 2) := by decide +kernel
theorem dL_law_686 : decode cL_law 686 = .ok (.aload_n 2, 1) := by decide +kernel
theorem dL_law_687 : decode cL_law 687 = .ok (.invokevirtual 74, 3) := by decide +kernel
theorem dL_law_690 : decode cL_law 690 = .ok (.iload 5, 2) := by decide +kernel
theorem dL_law_692 : decode cL_law 692 = .ok (.if_icmp .eq 5, 3) := by decide +kernel
theorem dL_law_695 : decode cL_law 695 = .ok (.iconst 0, 1) := by decide +kernel
theorem dL_law_696 : decode cL_law 696 = .ok (.ireturn, 1) := by decide +kernel
theorem dL_law_697 : decode cL_law 697 = .ok (.iload 5, 2) := by decide +kernel
theorem dL_law_699 : decode cL_law 699 = .ok (.ifCond .ne 15, 3) := by decide +kernel
theorem dL_law_702 : decode cL_law 702 = .ok (.aload_n 3, 1) := by decide +kernel
theorem dL_law_703 : decode cL_law 703 = .ok (.iconst 0, 1) := by decide +kernel
theorem dL_law_704 : decode cL_law 704 = .ok (.laload, 1) := by decide +kernel
theorem dL_law_705 : decode cL_law 705 = .ok (.iload 6, 2) := by decide +kernel
theorem dL_law_707 : decode cL_law 707 = .ok (.i2l, 1) := by decide +kernel
theorem dL_law_708 : decode cL_law 708 = .ok (.lcmp, 1) := by decide +kernel
theorem dL_law_709 : decode cL_law 709 = .ok (.ifCond .eq 5, 3) := by decide +kernel
theorem dL_law_712 : decode cL_law 712 = .ok (.iconst 0, 1) := by decide +kernel
theorem dL_law_713 : decode cL_law 713 = .ok (.ireturn, 1) := by decide +kernel
theorem dL_law_714 : decode cL_law 714 = .ok (.goto 401, 3) := by decide +kernel
theorem dL_law_717 : decode cL_law 717 = .ok (.aload_n 1, 1) := by decide +kernel
theorem dL_law_718 : decode cL_law 718 = .ok (.invokevirtual 109, 3) := by decide +kernel
theorem dL_law_721 : decode cL_law 721 = .ok (.aload_n 2, 1) := by decide +kernel
theorem dL_law_722 : decode cL_law 722 = .ok (.invokevirtual 112, 3) := by decide +kernel
theorem dL_law_725 : decode cL_law 725 = .ok (.if_icmp .eq 390, 3) := by decide +kernel
theorem dL_law_728 : decode cL_law 728 = .ok (.iconst 0, 1) := by decide +kernel
theorem dL_law_729 : decode cL_law 729 = .ok (.ireturn, 1) := by decide +kernel
theorem dL_law_730 : decode cL_law 730 = .ok (.aload_n 1, 1) := by decide +kernel
theorem dL_law_731 : decode cL_law 731 = .ok (.aload_n 0, 1) := by decide +kernel
theorem dL_law_732 : decode cL_law 732 = .ok (.iload 4, 2) := by decide +kernel
theorem dL_law_734 : decode cL_law 734 = .ok (.iconst 1, 1) := by decide +kernel
theorem dL_law_735 : decode cL_law 735 = .ok (.iadd, 1) := by decide +kernel
theorem dL_law_736 : decode cL_law 736 = .ok (.iaload, 1) := by decide +kernel
theorem dL_law_737 : decode cL_law 737 = .ok (.aload_n 0, 1) := by decide +kernel
theorem dL_law_738 : decode cL_law 738 = .ok (.iload 4, 2) := by decide +kernel
theorem dL_law_740 : decode cL_law 740 = .ok (.iconst 2, 1) := by decide +kernel
theorem dL_law_741 : decode cL_law 741 = .ok (.iadd, 1) := by decide +kernel
theorem dL_law_742 : decode cL_law 742 = .ok (.iaload, 1) := by decide +kernel
theorem dL_law_743 : decode cL_law 743 = .ok (.aload_n 3, 1) := by decide +kernel
theorem dL_law_744 : decode cL_law 744 = .ok (.invokestatic 113, 3) := by decide +kernel
theorem dL_law_747 : decode cL_law 747 = .ok (.istore 5, 2) := by decide +kernel
theorem dL_law_749 : decode cL_law 749 = .ok (.aload_n 2, 1) := by decide +kernel
theorem dL_law_750 : decode cL_law 750 = .ok (.aload_n 0, 1) := by decide +kernel
theorem dL_law_751 : decode cL_law 751 = .ok (.iload 4, 2) := by decide +kernel
theorem dL_law_753 : decode cL_law 753 = .ok (.iconst 1, 1) := by decide +kernel
theorem dL_law_754 : decode cL_law 754 = .ok (.iadd, 1) := by decide +kernel
theorem dL_law_755 : decode cL_law 755 = .ok (.iaload, 1) := by decide +kernel
theorem dL_law_756 : decode cL_law 756 = .ok (.aload_n 0, 1) := by decide +kernel
theorem dL_law_757 : decode cL_law 757 = .ok (.iload 4, 2) := by decide +kernel
theorem dL_law_759 : decode cL_law 759 = .ok (.iconst 2, 1) := by decide +kernel
theorem dL_law_760 : decode cL_law 760 = .ok (.iadd, 1) := by decide +kernel
theorem dL_law_761 : decode cL_law 761 = .ok (.iaload, 1) := by decide +kernel
theorem dL_law_762 : decode cL_law 762 = .ok (.invokevirtual 115, 3) := by decide +kernel
theorem dL_law_765 : decode cL_law 765 = .ok (.istore 6, 2) := by decide +kernel
theorem dL_law_767 : decode cL_law 767 = .ok (.aload_n 2, 1) := by decide +kernel
theorem dL_law_768 : decode cL_law 768 = .ok (.invokevirtual 74, 3) := by decide +kernel
theorem dL_law_771 : decode cL_law 771 = .ok (.iload 5, 2) := by decide +kernel
theorem dL_law_773 : decode cL_law 773 = .ok (.if_icmp .eq 5, 3) := by decide +kernel
theorem dL_law_776 : decode cL_law 776 = .ok (.iconst 0, 1) := by decide +kernel
theorem dL_law_777 : decode cL_law 777 = .ok (.ireturn, 1) := by decide +kernel
theorem dL_law_778 : decode cL_law 778 = .ok (.iload 5, 2) := by decide +kernel
theorem dL_law_780 : decode cL_law 780 = .ok (.ifCond .ne 15, 3) := by decide +kernel
theorem dL_law_783 : decode cL_law 783 = .ok (.aload_n 3, 1) := by decide +kernel
theorem dL_law_784 : decode cL_law 784 = .ok (.iconst 0, 1) := by decide +kernel
theorem dL_law_785 : decode cL_law 785 = .ok (.laload, 1) := by decide +kernel
theorem dL_law_786 : decode cL_law 786 = .ok (.iload 6, 2) := by decide +kernel
theorem dL_law_788 : decode cL_law 788 = .ok (.i2l, 1) := by decide +kernel
theorem dL_law_789 : decode cL_law 789 = .ok (.lcmp, 1) := by decide +kernel
theorem dL_law_790 : decode cL_law 790 = .ok (.ifCond .eq 5, 3) := by decide +kernel
theorem dL_law_793 : decode cL_law 793 = .ok (.iconst 0, 1) := by decide +kernel
theorem dL_law_794 : decode cL_law 794 = .ok (.ireturn, 1) := by decide +kernel
theorem dL_law_795 : decode cL_law 795 = .ok (.goto 320, 3) := by decide +kernel
theorem dL_law_798 : decode cL_law 798 = .ok (.aload_n 1, 1) := by decide +kernel
theorem dL_law_799 : decode cL_law 799 = .ok (.aload_n 0, 1) := by decide +kernel
theorem dL_law_800 : decode cL_law 800 = .ok (.iload 4, 2) := by decide +kernel
theorem dL_law_802 : decode cL_law 802 = .ok (.iconst 1, 1) := by decide +kernel
theorem dL_law_803 : decode cL_law 803 = .ok (.iadd, 1) := by decide +kernel
theorem dL_law_804 : decode cL_law 804 = .ok (.iaload, 1) := by decide +kernel
theorem dL_law_805 : decode cL_law 805 = .ok (.aload_n 3, 1) := by decide +kernel
theorem dL_law_806 : decode cL_law 806 = .ok (.invokestatic 116, 3) := by decide +kernel
theorem dL_law_809 : decode cL_law 809 = .ok (.istore 5, 2) := by decide +kernel
theorem dL_law_811 : decode cL_law 811 = .ok (.aload_n 2, 1) := by decide +kernel
theorem dL_law_812 : decode cL_law 812 = .ok (.aload_n 0, 1) := by decide +kernel
theorem dL_law_813 : decode cL_law 813 = .ok (.iload 4, 2) := by decide +kernel
theorem dL_law_815 : decode cL_law 815 = .ok (.iconst 1, 1) := by decide +kernel
theorem dL_law_816 : decode cL_law 816 = .ok (.iadd, 1) := by decide +kernel
theorem dL_law_817 : decode cL_law 817 = .ok (.iaload, 1) := by decide +kernel
theorem dL_law_818 : decode cL_law 818 = .ok (.invokevirtual 118, 3) := by decide +kernel
theorem dL_law_821 : decode cL_law 821 = .ok (.istore 6, 2) := by decide +kernel
theorem dL_law_823 : decode cL_law 823 = .ok (.aload_n 2, 1) := by decide +kernel
theorem dL_law_824 : decode cL_law 824 = .ok (.invokevirtual 74, 3) := by decide +kernel
theorem dL_law_827 : decode cL_law 827 = .ok (.iload 5, 2) := by decide +kernel
theorem dL_law_829 : decode cL_law 829 = .ok (.if_icmp .eq 5, 3) := by decide +kernel
theorem dL_law_832 : decode cL_law 832 = .ok (.iconst 0, 1) := by decide +kernel
theorem dL_law_833 : decode cL_law 833 = .ok (.ireturn, 1) := by decide +kernel
theorem dL_law_834 : decode cL_law 834 = .ok (.iload 5, 2) := by decide +kernel
theorem dL_law_836 : decode cL_law 836 = .ok (.ifCond .ne 15, 3) := by decide +kernel
theorem dL_law_839 : decode cL_law 839 = .ok (.aload_n 3, 1) := by decide +kernel
theorem dL_law_840 : decode cL_law 840 = .ok (.iconst 0, 1) := by decide +kernel
theorem dL_law_841 : decode cL_law 841 = .ok (.laload, 1) := by decide +kernel
theorem dL_law_842 : decode cL_law 842 = .ok (.iload 6, 2) := by decide +kernel
theorem dL_law_844 : decode cL_law 844 = .ok (.i2l, 1) := by decide +kernel
theorem dL_law_845 : decode cL_law 845 = .ok (.lcmp, 1) := by decide +kernel
theorem dL_law_846 : decode cL_law 846 = .ok (.ifCond .eq 5, 3) := by decide +kernel
theorem dL_law_849 : decode cL_law 849 = .ok (.iconst 0, 1) := by decide +kernel
theorem dL_law_850 : decode cL_law 850 = .ok (.ireturn, 1) := by decide +kernel
theorem dL_law_851 : decode cL_law 851 = .ok (.goto 264, 3) := by decide +kernel
theorem dL_law_854 : decode cL_law 854 = .ok (.aload_n 1, 1) := by decide +kernel
theorem dL_law_855 : decode cL_law 855 = .ok (.aload_n 0, 1) := by decide +kernel
theorem dL_law_856 : decode cL_law 856 = .ok (.iload 4, 2) := by decide +kernel
theorem dL_law_858 : decode cL_law 858 = .ok (.iconst 1, 1) := by decide +kernel
theorem dL_law_859 : decode cL_law 859 = .ok (.iadd, 1) := by decide +kernel
theorem dL_law_860 : decode cL_law 860 = .ok (.iaload, 1) := by decide +kernel
theorem dL_law_861 : decode cL_law 861 = .ok (.aload_n 3, 1) := by decide +kernel
theorem dL_law_862 : decode cL_law 862 = .ok (.invokestatic 119, 3) := by decide +kernel
theorem dL_law_865 : decode cL_law 865 = .ok (.istore 5, 2) := by decide +kernel
theorem dL_law_867 : decode cL_law 867 = .ok (.aload_n 2, 1) := by decide +kernel
theorem dL_law_868 : decode cL_law 868 = .ok (.aload_n 0, 1) := by decide +kernel
theorem dL_law_869 : decode cL_law 869 = .ok (.iload 4, 2) := by decide +kernel
theorem dL_law_871 : decode cL_law 871 = .ok (.iconst 1, 1) := by decide +kernel
theorem dL_law_872 : decode cL_law 872 = .ok (.iadd, 1) := by decide +kernel
theorem dL_law_873 : decode cL_law 873 = .ok (.iaload, 1) := by decide +kernel
theorem dL_law_874 : decode cL_law 874 = .ok (.invokevirtual 121, 3) := by decide +kernel
theorem dL_law_877 : decode cL_law 877 = .ok (.istore 6, 2) := by decide +kernel
theorem dL_law_879 : decode cL_law 879 = .ok (.aload_n 2, 1) := by decide +kernel
theorem dL_law_880 : decode cL_law 880 = .ok (.invokevirtual 74, 3) := by decide +kernel
theorem dL_law_883 : decode cL_law 883 = .ok (.iload 5, 2) := by decide +kernel
theorem dL_law_885 : decode cL_law 885 = .ok (.if_icmp .eq 5, 3) := by decide +kernel
theorem dL_law_888 : decode cL_law 888 = .ok (.iconst 0, 1) := by decide +kernel
theorem dL_law_889 : decode cL_law 889 = .ok (.ireturn, 1) := by decide +kernel
theorem dL_law_890 : decode cL_law 890 = .ok (.iload 5, 2) := by decide +kernel
theorem dL_law_892 : decode cL_law 892 = .ok (.ifCond .ne 15, 3) := by decide +kernel
theorem dL_law_895 : decode cL_law 895 = .ok (.aload_n 3, 1) := by decide +kernel
theorem dL_law_896 : decode cL_law 896 = .ok (.iconst 0, 1) := by decide +kernel
theorem dL_law_897 : decode cL_law 897 = .ok (.laload, 1) := by decide +kernel
theorem dL_law_898 : decode cL_law 898 = .ok (.iload 6, 2) := by decide +kernel
theorem dL_law_900 : decode cL_law 900 = .ok (.i2l, 1) := by decide +kernel
theorem dL_law_901 : decode cL_law 901 = .ok (.lcmp, 1) := by decide +kernel
theorem dL_law_902 : decode cL_law 902 = .ok (.ifCond .eq 5, 3) := by decide +kernel
theorem dL_law_905 : decode cL_law 905 = .ok (.iconst 0, 1) := by decide +kernel
theorem dL_law_906 : decode cL_law 906 = .ok (.ireturn, 1) := by decide +kernel
theorem dL_law_907 : decode cL_law 907 = .ok (.goto 208, 3) := by decide +kernel
theorem dL_law_910 : decode cL_law 910 = .ok (.aload_n 1, 1) := by decide +kernel
theorem dL_law_911 : decode cL_law 911 = .ok (.invokevirtual 122, 3) := by decide +kernel
theorem dL_law_914 : decode cL_law 914 = .ok (.aload_n 2, 1) := by decide +kernel
theorem dL_law_915 : decode cL_law 915 = .ok (.invokevirtual 125, 3) := by decide +kernel
theorem dL_law_918 : decode cL_law 918 = .ok (.if_icmp .eq 197, 3) := by decide +kernel
theorem dL_law_921 : decode cL_law 921 = .ok (.iconst 0, 1) := by decide +kernel
theorem dL_law_922 : decode cL_law 922 = .ok (.ireturn, 1) := by decide +kernel
theorem dL_law_923 : decode cL_law 923 = .ok (.aload_n 1, 1) := by decide +kernel
theorem dL_law_924 : decode cL_law 924 = .ok (.aload_n 0, 1) := by decide +kernel
theorem dL_law_925 : decode cL_law 925 = .ok (.iload 4, 2) := by decide +kernel
theorem dL_law_927 : decode cL_law 927 = .ok (.iconst 1, 1) := by decide +kernel
theorem dL_law_928 : decode cL_law 928 = .ok (.iadd, 1) := by decide +kernel
theorem dL_law_929 : decode cL_law 929 = .ok (.iaload, 1) := by decide +kernel
theorem dL_law_930 : decode cL_law 930 = .ok (.aload_n 0, 1) := by decide +kernel
theorem dL_law_931 : decode cL_law 931 = .ok (.iload 4, 2) := by decide +kernel
theorem dL_law_933 : decode cL_law 933 = .ok (.iconst 2, 1) := by decide +kernel
theorem dL_law_934 : decode cL_law 934 = .ok (.iadd, 1) := by decide +kernel
theorem dL_law_935 : decode cL_law 935 = .ok (.iaload, 1) := by decide +kernel
theorem dL_law_936 : decode cL_law 936 = .ok (.aload_n 0, 1) := by decide +kernel
theorem dL_law_937 : decode cL_law 937 = .ok (.iload 4, 2) := by decide +kernel
theorem dL_law_939 : decode cL_law 939 = .ok (.iconst 3, 1) := by decide +kernel
theorem dL_law_940 : decode cL_law 940 = .ok (.iadd, 1) := by decide +kernel
theorem dL_law_941 : decode cL_law 941 = .ok (.iaload, 1) := by decide +kernel
theorem dL_law_942 : decode cL_law 942 = .ok (.aload_n 3, 1) := by decide +kernel
theorem dL_law_943 : decode cL_law 943 = .ok (.invokestatic 126, 3) := by decide +kernel
theorem dL_law_946 : decode cL_law 946 = .ok (.istore 5, 2) := by decide +kernel
theorem dL_law_948 : decode cL_law 948 = .ok (.aload_n 2, 1) := by decide +kernel
theorem dL_law_949 : decode cL_law 949 = .ok (.aload_n 0, 1) := by decide +kernel
theorem dL_law_950 : decode cL_law 950 = .ok (.iload 4, 2) := by decide +kernel
theorem dL_law_952 : decode cL_law 952 = .ok (.iconst 1, 1) := by decide +kernel
theorem dL_law_953 : decode cL_law 953 = .ok (.iadd, 1) := by decide +kernel
theorem dL_law_954 : decode cL_law 954 = .ok (.iaload, 1) := by decide +kernel
theorem dL_law_955 : decode cL_law 955 = .ok (.aload_n 0, 1) := by decide +kernel
theorem dL_law_956 : decode cL_law 956 = .ok (.iload 4, 2) := by decide +kernel
theorem dL_law_958 : decode cL_law 958 = .ok (.iconst 2, 1) := by decide +kernel
theorem dL_law_959 : decode cL_law 959 = .ok (.iadd, 1) := by decide +kernel
theorem dL_law_960 : decode cL_law 960 = .ok (.iaload, 1) := by decide +kernel
theorem dL_law_961 : decode cL_law 961 = .ok (.aload_n 0, 1) := by decide +kernel
theorem dL_law_962 : decode cL_law 962 = .ok (.iload 4, 2) := by decide +kernel
theorem dL_law_964 : decode cL_law 964 = .ok (.iconst 3, 1) := by decide +kernel
theorem dL_law_965 : decode cL_law 965 = .ok (.iadd, 1) := by decide +kernel
theorem dL_law_966 : decode cL_law 966 = .ok (.iaload, 1) := by decide +kernel
theorem dL_law_967 : decode cL_law 967 = .ok (.invokevirtual 129, 3) := by decide +kernel
theorem dL_law_970 : decode cL_law 970 = .ok (.istore 6, 2) := by decide +kernel
theorem dL_law_972 : decode cL_law 972 = .ok (.aload_n 2, 1) := by decide +kernel
theorem dL_law_973 : decode cL_law 973 = .ok (.invokevirtual 74, 3) := by decide +kernel
theorem dL_law_976 : decode cL_law 976 = .ok (.iload 5, 2) := by decide +kernel
theorem dL_law_978 : decode cL_law 978 = .ok (.if_icmp .eq 5, 3) := by decide +kernel
theorem dL_law_981 : decode cL_law 981 = .ok (.iconst 0, 1) := by decide +kernel
theorem dL_law_982 : decode cL_law 982 = .ok (.ireturn, 1) := by decide +kernel
theorem dL_law_983 : decode cL_law 983 = .ok (.iload 5, 2) := by decide +kernel
theorem dL_law_985 : decode cL_law 985 = .ok (.ifCond .ne 15, 3) := by decide +kernel
theorem dL_law_988 : decode cL_law 988 = .ok (.aload_n 3, 1) := by decide +kernel
theorem dL_law_989 : decode cL_law 989 = .ok (.iconst 0, 1) := by decide +kernel
theorem dL_law_990 : decode cL_law 990 = .ok (.laload, 1) := by decide +kernel
theorem dL_law_991 : decode cL_law 991 = .ok (.iload 6, 2) := by decide +kernel
theorem dL_law_993 : decode cL_law 993 = .ok (.i2l, 1) := by decide +kernel
theorem dL_law_994 : decode cL_law 994 = .ok (.lcmp, 1) := by decide +kernel
theorem dL_law_995 : decode cL_law 995 = .ok (.ifCond .eq 5, 3) := by decide +kernel
theorem dL_law_998 : decode cL_law 998 = .ok (.iconst 0, 1) := by decide +kernel
theorem dL_law_999 : decode cL_law 999 = .ok (.ireturn, 1) := by decide +kernel
theorem dL_law_1000 : decode cL_law 1000 = .ok (.goto 115, 3) := by decide +kernel
theorem dL_law_1003 : decode cL_law 1003 = .ok (.aload_n 1, 1) := by decide +kernel
theorem dL_law_1004 : decode cL_law 1004 = .ok (.aload_n 0, 1) := by decide +kernel
theorem dL_law_1005 : decode cL_law 1005 = .ok (.iload 4, 2) := by decide +kernel
theorem dL_law_1007 : decode cL_law 1007 = .ok (.iconst 1, 1) := by decide +kernel
theorem dL_law_1008 : decode cL_law 1008 = .ok (.iadd, 1) := by decide +kernel
theorem dL_law_1009 : decode cL_law 1009 = .ok (.iaload, 1) := by decide +kernel
theorem dL_law_1010 : decode cL_law 1010 = .ok (.aload_n 3, 1) := by decide +kernel
theorem dL_law_1011 : decode cL_law 1011 = .ok (.invokestatic 130, 3) := by decide +kernel
theorem dL_law_1014 : decode cL_law 1014 = .ok (.istore 5, 2) := by decide +kernel
theorem dL_law_1016 : decode cL_law 1016 = .ok (.aload_n 2, 1) := by decide +kernel
theorem dL_law_1017 : decode cL_law 1017 = .ok (.aload_n 0, 1) := by decide +kernel
theorem dL_law_1018 : decode cL_law 1018 = .ok (.iload 4, 2) := by decide +kernel
theorem dL_law_1020 : decode cL_law 1020 = .ok (.iconst 1, 1) := by decide +kernel
theorem dL_law_1021 : decode cL_law 1021 = .ok (.iadd, 1) := by decide +kernel
theorem dL_law_1022 : decode cL_law 1022 = .ok (.iaload, 1) := by decide +kernel
theorem dL_law_1023 : decode cL_law 1023 = .ok (.invokevirtual 132, 3) := by decide +kernel
theorem dL_law_1026 : decode cL_law 1026 = .ok (.istore 6, 2) := by decide +kernel
theorem dL_law_1028 : decode cL_law 1028 = .ok (.aload_n 2, 1) := by decide +kernel
theorem dL_law_1029 : decode cL_law 1029 = .ok (.invokevirtual 74, 3) := by decide +kernel
theorem dL_law_1032 : decode cL_law 1032 = .ok (.iload 5, 2) := by decide +kernel
theorem dL_law_1034 : decode cL_law 1034 = .ok (.if_icmp .eq 5, 3) := by decide +kernel
theorem dL_law_1037 : decode cL_law 1037 = .ok (.iconst 0, 1) := by decide +kernel
theorem dL_law_1038 : decode cL_law 1038 = .ok (.ireturn, 1) := by decide +kernel
theorem dL_law_1039 : decode cL_law 1039 = .ok (.iload 5, 2) := by decide +kernel
theorem dL_law_1041 : decode cL_law 1041 = .ok (.ifCond .ne 15, 3) := by decide +kernel
theorem dL_law_1044 : decode cL_law 1044 = .ok (.aload_n 3, 1) := by decide +kernel
theorem dL_law_1045 : decode cL_law 1045 = .ok (.iconst 0, 1) := by decide +kernel
theorem dL_law_1046 : decode cL_law 1046 = .ok (.laload, 1) := by decide +kernel
theorem dL_law_1047 : decode cL_law 1047 = .ok (.iload 6, 2) := by decide +kernel
theorem dL_law_1049 : decode cL_law 1049 = .ok (.i2l, 1) := by decide +kernel
theorem dL_law_1050 : decode cL_law 1050 = .ok (.lcmp, 1) := by decide +kernel
theorem dL_law_1051 : decode cL_law 1051 = .ok (.ifCond .eq 5, 3) := by decide +kernel
theorem dL_law_1054 : decode cL_law 1054 = .ok (.iconst 0, 1) := by decide +kernel
theorem dL_law_1055 : decode cL_law 1055 = .ok (.ireturn, 1) := by decide +kernel
theorem dL_law_1056 : decode cL_law 1056 = .ok (.goto 59, 3) := by decide +kernel
theorem dL_law_1059 : decode cL_law 1059 = .ok (.aload_n 1, 1) := by decide +kernel
theorem dL_law_1060 : decode cL_law 1060 = .ok (.aload_n 0, 1) := by decide +kernel
theorem dL_law_1061 : decode cL_law 1061 = .ok (.iload 4, 2) := by decide +kernel
theorem dL_law_1063 : decode cL_law 1063 = .ok (.iconst 1, 1) := by decide +kernel
theorem dL_law_1064 : decode cL_law 1064 = .ok (.iadd, 1) := by decide +kernel
theorem dL_law_1065 : decode cL_law 1065 = .ok (.iaload, 1) := by decide +kernel
theorem dL_law_1066 : decode cL_law 1066 = .ok (.aload_n 3, 1) := by decide +kernel
theorem dL_law_1067 : decode cL_law 1067 = .ok (.invokestatic 133, 3) := by decide +kernel
theorem dL_law_1070 : decode cL_law 1070 = .ok (.istore 5, 2) := by decide +kernel
theorem dL_law_1072 : decode cL_law 1072 = .ok (.aload_n 2, 1) := by decide +kernel
theorem dL_law_1073 : decode cL_law 1073 = .ok (.aload_n 0, 1) := by decide +kernel
theorem dL_law_1074 : decode cL_law 1074 = .ok (.iload 4, 2) := by decide +kernel
theorem dL_law_1076 : decode cL_law 1076 = .ok (.iconst 1, 1) := by decide +kernel
theorem dL_law_1077 : decode cL_law 1077 = .ok (.iadd, 1) := by decide +kernel
theorem dL_law_1078 : decode cL_law 1078 = .ok (.iaload, 1) := by decide +kernel
theorem dL_law_1079 : decode cL_law 1079 = .ok (.invokevirtual 135, 3) := by decide +kernel
theorem dL_law_1082 : decode cL_law 1082 = .ok (.istore 6, 2) := by decide +kernel
theorem dL_law_1084 : decode cL_law 1084 = .ok (.aload_n 2, 1) := by decide +kernel
theorem dL_law_1085 : decode cL_law 1085 = .ok (.invokevirtual 74, 3) := by decide +kernel
theorem dL_law_1088 : decode cL_law 1088 = .ok (.iload 5, 2) := by decide +kernel
theorem dL_law_1090 : decode cL_law 1090 = .ok (.if_icmp .eq 5, 3) := by decide +kernel
theorem dL_law_1093 : decode cL_law 1093 = .ok (.iconst 0, 1) := by decide +kernel
theorem dL_law_1094 : decode cL_law 1094 = .ok (.ireturn, 1) := by decide +kernel
theorem dL_law_1095 : decode cL_law 1095 = .ok (.iload 5, 2) := by decide +kernel
theorem dL_law_1097 : decode cL_law 1097 = .ok (.ifCond .ne 15, 3) := by decide +kernel
theorem dL_law_1100 : decode cL_law 1100 = .ok (.aload_n 3, 1) := by decide +kernel
theorem dL_law_1101 : decode cL_law 1101 = .ok (.iconst 0, 1) := by decide +kernel
theorem dL_law_1102 : decode cL_law 1102 = .ok (.laload, 1) := by decide +kernel
theorem dL_law_1103 : decode cL_law 1103 = .ok (.iload 6, 2) := by decide +kernel
theorem dL_law_1105 : decode cL_law 1105 = .ok (.i2l, 1) := by decide +kernel
theorem dL_law_1106 : decode cL_law 1106 = .ok (.lcmp, 1) := by decide +kernel
theorem dL_law_1107 : decode cL_law 1107 = .ok (.ifCond .eq 5, 3) := by decide +kernel
theorem dL_law_1110 : decode cL_law 1110 = .ok (.iconst 0, 1) := by decide +kernel
theorem dL_law_1111 : decode cL_law 1111 = .ok (.ireturn, 1) := by decide +kernel
theorem dL_law_1112 : decode cL_law 1112 = .ok (.goto 3, 3) := by decide +kernel
theorem dL_law_1115 : decode cL_law 1115 = .ok (.iinc 4 4, 3) := by decide +kernel
theorem dL_law_1118 : decode cL_law 1118 = .ok (.goto (-1095), 3) := by decide +kernel
theorem dL_law_1121 : decode cL_law 1121 = .ok (.iconst 1, 1) := by decide +kernel
theorem dL_law_1122 : decode cL_law 1122 = .ok (.ireturn, 1) := by decide +kernel
abbrev vwCl : List vw_C := [(RX0, TX0, 7), (RX1, TX1, 2), (RX2, TX2, 3), (RX3, TX3, 16), (RX4, TX4, 5), (RX5, TX5, 4), (RX6, TX6, 16)]
end
section
/-! the judgement Z: from every heap that holds the cells ws, with the locals lv, the machine comes from pc and the stack st to Q -/
abbrev zX : Type := va_G × (ClassId × ClassId × ClassId)
/-- the classes of the arrays of int, boolean, long -/
def zT (X : zX) : List (ClassId × FieldType) := [(X.2.1, .int), (X.2.2.1, .boolean), (X.2.2.2, .long)]
def Z (p : Program) (l : Launch) (e : Env) (R : Room) (s : State) (m : MethodId) (args : Array Value) (below : List Frame) (meth : Method) (c : Code) (X : zX) (A : Nat → Prop) (nL : Nat) (Q : State → Prop) (cells slots : Nat) (ws : va_W) (lv : List (Nat × Value)) (pc : Nat) (st : List Value) : Prop :=
  ∀ (H : Heap) (locs : List Loc) (ls : Array Slot), va_P X.1 vwCl ws H → va_D A ws → va_S A s.heap H locs → lv_has ls nL lv → W p l e R s m args below meth c H locs cells slots Q (F0 m pc ls st)
def ZC (p : Program) (s : State) (m : MethodId) (args : Array Value) (meth : Method) (c : Code) (X : zX) (A : Nat → Prop) (nL : Nat) (cc : ByteArray) (own : String) (Ts : List Cond) (ret : Option FieldType) : Prop :=
  p.tables.exec = Jvm.exec ∧ c.code = cc ∧ c.maxLocals = nL ∧ s.vm.findClass own = some m.cls ∧ (∀ w ∈ Ts, w.before args s = true) ∧ va_K X.1 vwCl (zT X) s ∧ (∀ q : Nat, s.heap.size ≤ q → A q) ∧ meth.locks = false ∧ meth.sig.returnType = ret
theorem zfm {α β : Type} {f : α → Option β} : ∀ {is : List α} {w : List β}, is.map f = w.map some → is.filterMap f = w
  | [], w, h => by
    cases w with
    | nil => rfl
    | cons b w => simp at h
  | i :: is, [], h => by simp at h
  | i :: is, b :: w, h => by
    rw [List.map_cons, List.map_cons, List.cons.injEq] at h
    rw [List.filterMap_cons, h.1, zfm h.2]
section ZF
variable {p : Program} {l : Launch} {e : Env} {R : Room} {s : State} {m : MethodId} {args : Array Value} {below : List Frame} {meth : Method} {c : Code} {cells slots : Nat} {Q : State → Prop} {X : zX} {A : Nat → Prop} {nL pc : Nat} {cc : ByteArray} {own : String} {Ts : List Cond} {ret : Option FieldType} {ws : va_W} {lv : List (Nat × Value)} {st : List Value}
theorem ZC.ex (C : ZC p s m args meth c X A nL cc own Ts ret) : p.tables.exec = Jvm.exec := C.1
theorem ZC.cb (C : ZC p s m args meth c X A nL cc own Ts ret) : c.code = cc := C.2.1
theorem ZC.ml (C : ZC p s m args meth c X A nL cc own Ts ret) : c.maxLocals = nL := C.2.2.1
theorem ZC.ow (C : ZC p s m args meth c X A nL cc own Ts ret) : s.vm.findClass own = some m.cls := C.2.2.2.1
theorem ZC.ts (C : ZC p s m args meth c X A nL cc own Ts ret) : ∀ w ∈ Ts, w.before args s = true := C.2.2.2.2.1
theorem ZC.hK (C : ZC p s m args meth c X A nL cc own Ts ret) : va_K X.1 vwCl (zT X) s := C.2.2.2.2.2.1
theorem ZC.hA (C : ZC p s m args meth c X A nL cc own Ts ret) : ∀ q : Nat, s.heap.size ≤ q → A q := C.2.2.2.2.2.2.1
theorem ZC.lo (C : ZC p s m args meth c X A nL cc own Ts ret) : meth.locks = false := C.2.2.2.2.2.2.2.1
theorem ZC.re (C : ZC p s m args meth c X A nL cc own Ts ret) : meth.sig.returnType = ret := C.2.2.2.2.2.2.2.2
theorem z_ic (C : ZC p s m args meth c X A nL cc own Ts ret) {n : Int} (d : decode cc pc = .ok (.iconst n, 1)) (v : Int32) (hv : Int32.ofInt n = v) (k : Z p l e R s m args below meth c X A nL Q cells slots ws lv (pc + 1) (.int v :: st)) : Z p l e R s m args below meth c X A nL Q cells slots ws lv pc st := fun H locs ls hP hD hS hl => lv_iconst C.ex C.cb d hv (k H locs ls hP hD hS hl)
theorem z_bp (C : ZC p s m args meth c X A nL cc own Ts ret) {n : Int} (d : decode cc pc = .ok (.bipush n, 2)) (v : Int32) (hv : (Int8.ofInt n).toInt32 = v) (k : Z p l e R s m args below meth c X A nL Q cells slots ws lv (pc + 2) (.int v :: st)) : Z p l e R s m args below meth c X A nL Q cells slots ws lv pc st := fun H locs ls hP hD hS hl => lv_bipush C.ex C.cb d hv (k H locs ls hP hD hS hl)
theorem z_sp (C : ZC p s m args meth c X A nL cc own Ts ret) {n : Int} (d : decode cc pc = .ok (.sipush n, 3)) (v : Int32) (hv : (Int16.ofInt n).toInt32 = v) (k : Z p l e R s m args below meth c X A nL Q cells slots ws lv (pc + 3) (.int v :: st)) : Z p l e R s m args below meth c X A nL Q cells slots ws lv pc st := fun H locs ls hP hD hS hl => lv_sipush C.ex C.cb d hv (k H locs ls hP hD hS hl)
theorem z_lc (C : ZC p s m args meth c X A nL cc own Ts ret) {n : Fin 2} (d : decode cc pc = .ok (.lconst n, 1)) (v : Int64) (hv : Int64.ofNat (n : Nat) = v) (k : Z p l e R s m args below meth c X A nL Q cells slots ws lv (pc + 1) (.long v :: st)) : Z p l e R s m args below meth c X A nL Q cells slots ws lv pc st := fun H locs ls hP hD hS hl => lv_lconst C.ex C.cb d hv (k H locs ls hP hD hS hl)
theorem z_ldc (C : ZC p s m args meth c X A nL cc own Ts ret) {index : Nat} {v : Int32} (d : decode cc pc = .ok (.ldc index, 2)) (h : Jvm.Cond.constant own index v ∈ Ts) (k : Z p l e R s m args below meth c X A nL Q cells slots ws lv (pc + 2) (.int v :: st)) : Z p l e R s m args below meth c X A nL Q cells slots ws lv pc st := fun H locs ls hP hD hS hl => lv_ldc C.ex C.cb C.ow (C.ts _ h) d (k H locs ls hP hD hS hl)
theorem z_ldc2 (C : ZC p s m args meth c X A nL cc own Ts ret) {index : Nat} {v : Int64} (d : decode cc pc = .ok (.ldc2_w index, 3)) (h : Jvm.Cond.constantLong own index v ∈ Ts) (k : Z p l e R s m args below meth c X A nL Q cells slots ws lv (pc + 3) (.long v :: st)) : Z p l e R s m args below meth c X A nL Q cells slots ws lv pc st := fun H locs ls hP hD hS hl => lv_ldc2 C.ex C.cb C.ow (C.ts _ h) d (k H locs ls hP hD hS hl)
theorem z_iln (C : ZC p s m args meth c X A nL cc own Ts ret) {k0 : Fin 4} {x : Int32} (d : decode cc pc = .ok (.iload_n k0, 1)) (j : Nat) (hj : lv[j]? = some ((k0 : Nat), .int x)) (k : Z p l e R s m args below meth c X A nL Q cells slots ws lv (pc + 1) (.int x :: st)) : Z p l e R s m args below meth c X A nL Q cells slots ws lv pc st := fun H locs ls hP hD hS hl => lv_iload_n C.ex C.cb d rfl (lv_at hl j hj) (k H locs ls hP hD hS hl)
theorem z_il (C : ZC p s m args meth c X A nL cc own Ts ret) {i : Nat} {x : Int32} (d : decode cc pc = .ok (.iload i, 2)) (j : Nat) (hj : lv[j]? = some (i, .int x)) (k : Z p l e R s m args below meth c X A nL Q cells slots ws lv (pc + 2) (.int x :: st)) : Z p l e R s m args below meth c X A nL Q cells slots ws lv pc st := fun H locs ls hP hD hS hl => lv_iload C.ex C.cb d (lv_at hl j hj) (k H locs ls hP hD hS hl)
theorem z_lln (C : ZC p s m args meth c X A nL cc own Ts ret) {k0 : Fin 4} {x : Int64} (d : decode cc pc = .ok (.lload_n k0, 1)) (j : Nat) (hj : lv[j]? = some ((k0 : Nat), .long x)) (k : Z p l e R s m args below meth c X A nL Q cells slots ws lv (pc + 1) (.long x :: st)) : Z p l e R s m args below meth c X A nL Q cells slots ws lv pc st := fun H locs ls hP hD hS hl => lv_lload_n C.ex C.cb d rfl (lv_at hl j hj) (k H locs ls hP hD hS hl)
theorem z_ll (C : ZC p s m args meth c X A nL cc own Ts ret) {i : Nat} {x : Int64} (d : decode cc pc = .ok (.lload i, 2)) (j : Nat) (hj : lv[j]? = some (i, .long x)) (k : Z p l e R s m args below meth c X A nL Q cells slots ws lv (pc + 2) (.long x :: st)) : Z p l e R s m args below meth c X A nL Q cells slots ws lv pc st := fun H locs ls hP hD hS hl => lv_lload C.ex C.cb d (lv_at hl j hj) (k H locs ls hP hD hS hl)
theorem z_aln (C : ZC p s m args meth c X A nL cc own Ts ret) {k0 : Fin 4} {x : Nat} (d : decode cc pc = .ok (.aload_n k0, 1)) (j : Nat) (hj : lv[j]? = some ((k0 : Nat), .ref x)) (k : Z p l e R s m args below meth c X A nL Q cells slots ws lv (pc + 1) (.ref x :: st)) : Z p l e R s m args below meth c X A nL Q cells slots ws lv pc st := fun H locs ls hP hD hS hl => lv_aload_n C.ex C.cb d rfl (lv_at hl j hj) (k H locs ls hP hD hS hl)
theorem z_al (C : ZC p s m args meth c X A nL cc own Ts ret) {i : Nat} {x : Nat} (d : decode cc pc = .ok (.aload i, 2)) (j : Nat) (hj : lv[j]? = some (i, .ref x)) (k : Z p l e R s m args below meth c X A nL Q cells slots ws lv (pc + 2) (.ref x :: st)) : Z p l e R s m args below meth c X A nL Q cells slots ws lv pc st := fun H locs ls hP hD hS hl => lv_aload C.ex C.cb d (lv_at hl j hj) (k H locs ls hP hD hS hl)
theorem z_is (C : ZC p s m args meth c X A nL cc own Ts ret) {i : Nat} {x : Int32} (lv1 : List (Nat × Value)) (d : decode cc pc = .ok (.istore i, 2)) (hn : i < nL) (hv : (i, Value.int x) :: lv.filter (fun q => !(q.1 == i) && !(q.1 + 1 == i && q.2.category == 2)) = lv1) (k : Z p l e R s m args below meth c X A nL Q cells slots ws lv1 (pc + 2) st) : Z p l e R s m args below meth c X A nL Q cells slots ws lv pc (.int x :: st) := fun H locs ls hP hD hS hl => lv_istore C.ex C.cb d hl hn hv (fun ls1 hl1 => k H locs ls1 hP hD hS hl1)
theorem z_isn (C : ZC p s m args meth c X A nL cc own Ts ret) {k0 : Fin 4} {x : Int32} (i : Nat) (lv1 : List (Nat × Value)) (d : decode cc pc = .ok (.istore_n k0, 1)) (hi : (k0 : Nat) = i) (hn : i < nL) (hv : (i, Value.int x) :: lv.filter (fun q => !(q.1 == i) && !(q.1 + 1 == i && q.2.category == 2)) = lv1) (k : Z p l e R s m args below meth c X A nL Q cells slots ws lv1 (pc + 1) st) : Z p l e R s m args below meth c X A nL Q cells slots ws lv pc (.int x :: st) := fun H locs ls hP hD hS hl => lv_istore_n C.ex C.cb d hi hl hn hv (fun ls1 hl1 => k H locs ls1 hP hD hS hl1)
theorem z_as (C : ZC p s m args meth c X A nL cc own Ts ret) {i : Nat} {x : Nat} (lv1 : List (Nat × Value)) (d : decode cc pc = .ok (.astore i, 2)) (hn : i < nL) (hv : (i, Value.ref x) :: lv.filter (fun q => !(q.1 == i) && !(q.1 + 1 == i && q.2.category == 2)) = lv1) (k : Z p l e R s m args below meth c X A nL Q cells slots ws lv1 (pc + 2) st) : Z p l e R s m args below meth c X A nL Q cells slots ws lv pc (.ref x :: st) := fun H locs ls hP hD hS hl => lv_astore C.ex C.cb d hl hn hv (fun ls1 hl1 => k H locs ls1 hP hD hS hl1)
theorem z_asn (C : ZC p s m args meth c X A nL cc own Ts ret) {k0 : Fin 4} {x : Nat} (i : Nat) (lv1 : List (Nat × Value)) (d : decode cc pc = .ok (.astore_n k0, 1)) (hi : (k0 : Nat) = i) (hn : i < nL) (hv : (i, Value.ref x) :: lv.filter (fun q => !(q.1 == i) && !(q.1 + 1 == i && q.2.category == 2)) = lv1) (k : Z p l e R s m args below meth c X A nL Q cells slots ws lv1 (pc + 1) st) : Z p l e R s m args below meth c X A nL Q cells slots ws lv pc (.ref x :: st) := fun H locs ls hP hD hS hl => lv_astore_n C.ex C.cb d hi hl hn hv (fun ls1 hl1 => k H locs ls1 hP hD hS hl1)
theorem z_ls (C : ZC p s m args meth c X A nL cc own Ts ret) {i : Nat} {x : Int64} (lv1 : List (Nat × Value)) (d : decode cc pc = .ok (.lstore i, 2)) (hn : i + 1 < nL) (hv : (i, Value.long x) :: lv.filter (fun q => !(q.1 == i) && (!(q.1 == i + 1) && !(q.1 + 1 == i && q.2.category == 2))) = lv1) (k : Z p l e R s m args below meth c X A nL Q cells slots ws lv1 (pc + 2) st) : Z p l e R s m args below meth c X A nL Q cells slots ws lv pc (.long x :: st) := fun H locs ls hP hD hS hl => lv_lstore C.ex C.cb d hl hn hv (fun ls1 hl1 => k H locs ls1 hP hD hS hl1)
theorem z_lsn (C : ZC p s m args meth c X A nL cc own Ts ret) {k0 : Fin 4} {x : Int64} (i : Nat) (lv1 : List (Nat × Value)) (d : decode cc pc = .ok (.lstore_n k0, 1)) (hi : (k0 : Nat) = i) (hn : i + 1 < nL) (hv : (i, Value.long x) :: lv.filter (fun q => !(q.1 == i) && (!(q.1 == i + 1) && !(q.1 + 1 == i && q.2.category == 2))) = lv1) (k : Z p l e R s m args below meth c X A nL Q cells slots ws lv1 (pc + 1) st) : Z p l e R s m args below meth c X A nL Q cells slots ws lv pc (.long x :: st) := fun H locs ls hP hD hS hl => lv_lstore_n C.ex C.cb d hi hl hn hv (fun ls1 hl1 => k H locs ls1 hP hD hS hl1)
theorem z_inc (C : ZC p s m args meth c X A nL cc own Ts ret) {i : Nat} {n : Int} {x : Int32} (j : Nat) (v : Int32) (lv1 : List (Nat × Value)) (d : decode cc pc = .ok (.iinc i n, 3)) (hj : lv[j]? = some (i, .int x)) (hv : x + Int32.ofInt n = v) (hn : i < nL) (hw : (i, Value.int v) :: lv.filter (fun q => !(q.1 == i) && !(q.1 + 1 == i && q.2.category == 2)) = lv1) (k : Z p l e R s m args below meth c X A nL Q cells slots ws lv1 (pc + 3) st) : Z p l e R s m args below meth c X A nL Q cells slots ws lv pc st := fun H locs ls hP hD hS hl => lv_iinc C.ex C.cb d hl hj hv hn hw (fun ls1 hl1 => k H locs ls1 hP hD hS hl1)
theorem z_lv (js : List Nat) (lv1 : List (Nat × Value)) (h : lv_pick lv js = lv1) (k : Z p l e R s m args below meth c X A nL Q cells slots ws lv1 pc st) : Z p l e R s m args below meth c X A nL Q cells slots ws lv pc st := fun H locs ls hP hD hS hl => k H locs ls hP hD hS (lv_sub hl js h)
theorem z_iadd (C : ZC p s m args meth c X A nL cc own Ts ret) {x y : Int32} (d : decode cc pc = .ok (.iadd, 1)) (v : Int32) (hv : x + y = v) (k : Z p l e R s m args below meth c X A nL Q cells slots ws lv (pc + 1) (.int v :: st)) : Z p l e R s m args below meth c X A nL Q cells slots ws lv pc (.int y :: .int x :: st) := by subst hv; exact fun H locs ls hP hD hS hl => lv_iadd C.ex C.cb d (k H locs ls hP hD hS hl)
theorem z_isub (C : ZC p s m args meth c X A nL cc own Ts ret) {x y : Int32} (d : decode cc pc = .ok (.isub, 1)) (v : Int32) (hv : x - y = v) (k : Z p l e R s m args below meth c X A nL Q cells slots ws lv (pc + 1) (.int v :: st)) : Z p l e R s m args below meth c X A nL Q cells slots ws lv pc (.int y :: .int x :: st) := by subst hv; exact fun H locs ls hP hD hS hl => lv_isub C.ex C.cb d (k H locs ls hP hD hS hl)
theorem z_imul (C : ZC p s m args meth c X A nL cc own Ts ret) {x y : Int32} (d : decode cc pc = .ok (.imul, 1)) (v : Int32) (hv : x * y = v) (k : Z p l e R s m args below meth c X A nL Q cells slots ws lv (pc + 1) (.int v :: st)) : Z p l e R s m args below meth c X A nL Q cells slots ws lv pc (.int y :: .int x :: st) := by subst hv; exact fun H locs ls hP hD hS hl => lv_imul C.ex C.cb d (k H locs ls hP hD hS hl)
theorem z_iand (C : ZC p s m args meth c X A nL cc own Ts ret) {x y : Int32} (d : decode cc pc = .ok (.iand, 1)) (v : Int32) (hv : x &&& y = v) (k : Z p l e R s m args below meth c X A nL Q cells slots ws lv (pc + 1) (.int v :: st)) : Z p l e R s m args below meth c X A nL Q cells slots ws lv pc (.int y :: .int x :: st) := by subst hv; exact fun H locs ls hP hD hS hl => lv_iand C.ex C.cb d (k H locs ls hP hD hS hl)
theorem z_ixor (C : ZC p s m args meth c X A nL cc own Ts ret) {x y : Int32} (d : decode cc pc = .ok (.ixor, 1)) (v : Int32) (hv : x ^^^ y = v) (k : Z p l e R s m args below meth c X A nL Q cells slots ws lv (pc + 1) (.int v :: st)) : Z p l e R s m args below meth c X A nL Q cells slots ws lv pc (.int y :: .int x :: st) := by subst hv; exact fun H locs ls hP hD hS hl => lv_ixor C.ex C.cb d (k H locs ls hP hD hS hl)
theorem z_lxor (C : ZC p s m args meth c X A nL cc own Ts ret) {x y : Int64} (d : decode cc pc = .ok (.lxor, 1)) (v : Int64) (hv : x ^^^ y = v) (k : Z p l e R s m args below meth c X A nL Q cells slots ws lv (pc + 1) (.long v :: st)) : Z p l e R s m args below meth c X A nL Q cells slots ws lv pc (.long y :: .long x :: st) := by subst hv; exact fun H locs ls hP hD hS hl => lv_lxor C.ex C.cb d (k H locs ls hP hD hS hl)
theorem z_ishr (C : ZC p s m args meth c X A nL cc own Ts ret) {x y : Int32} (d : decode cc pc = .ok (.ishr, 1)) (v : Int32) (hv : x >>> (y &&& 31) = v) (k : Z p l e R s m args below meth c X A nL Q cells slots ws lv (pc + 1) (.int v :: st)) : Z p l e R s m args below meth c X A nL Q cells slots ws lv pc (.int y :: .int x :: st) := by subst hv; exact fun H locs ls hP hD hS hl => lv_ishr C.ex C.cb d (k H locs ls hP hD hS hl)
theorem z_idiv (C : ZC p s m args meth c X A nL cc own Ts ret) {x y : Int32} (d : decode cc pc = .ok (.idiv, 1)) (hne : ¬ y = 0) (v : Int32) (hv : x / y = v) (k : Z p l e R s m args below meth c X A nL Q cells slots ws lv (pc + 1) (.int v :: st)) : Z p l e R s m args below meth c X A nL Q cells slots ws lv pc (.int y :: .int x :: st) := by subst hv; exact fun H locs ls hP hD hS hl => lv_idiv C.ex C.cb d hne (k H locs ls hP hD hS hl)
theorem z_ineg (C : ZC p s m args meth c X A nL cc own Ts ret) {x : Int32} (d : decode cc pc = .ok (.ineg, 1)) (v : Int32) (hv : -x = v) (k : Z p l e R s m args below meth c X A nL Q cells slots ws lv (pc + 1) (.int v :: st)) : Z p l e R s m args below meth c X A nL Q cells slots ws lv pc (.int x :: st) := by subst hv; exact fun H locs ls hP hD hS hl => lv_ineg C.ex C.cb d (k H locs ls hP hD hS hl)
theorem z_lmul (C : ZC p s m args meth c X A nL cc own Ts ret) {x y : Int64} (d : decode cc pc = .ok (.lmul, 1)) (v : Int64) (hv : x * y = v) (k : Z p l e R s m args below meth c X A nL Q cells slots ws lv (pc + 1) (.long v :: st)) : Z p l e R s m args below meth c X A nL Q cells slots ws lv pc (.long y :: .long x :: st) := by subst hv; exact fun H locs ls hP hD hS hl => lv_lmul C.ex C.cb d (k H locs ls hP hD hS hl)
theorem z_lsub (C : ZC p s m args meth c X A nL cc own Ts ret) {x y : Int64} (d : decode cc pc = .ok (.lsub, 1)) (v : Int64) (hv : x - y = v) (k : Z p l e R s m args below meth c X A nL Q cells slots ws lv (pc + 1) (.long v :: st)) : Z p l e R s m args below meth c X A nL Q cells slots ws lv pc (.long y :: .long x :: st) := by subst hv; exact fun H locs ls hP hD hS hl => lv_lsub C.ex C.cb d (k H locs ls hP hD hS hl)
theorem z_ldiv (C : ZC p s m args meth c X A nL cc own Ts ret) {x y : Int64} (d : decode cc pc = .ok (.ldiv, 1)) (hne : ¬ y = 0) (v : Int64) (hv : x / y = v) (k : Z p l e R s m args below meth c X A nL Q cells slots ws lv (pc + 1) (.long v :: st)) : Z p l e R s m args below meth c X A nL Q cells slots ws lv pc (.long y :: .long x :: st) := by subst hv; exact fun H locs ls hP hD hS hl => lv_ldiv C.ex C.cb d hne (k H locs ls hP hD hS hl)
theorem z_lcmp (C : ZC p s m args meth c X A nL cc own Ts ret) {x y : Int64} (d : decode cc pc = .ok (.lcmp, 1)) (k : Z p l e R s m args below meth c X A nL Q cells slots ws lv (pc + 1) (.int (lg_cmp x y) :: st)) : Z p l e R s m args below meth c X A nL Q cells slots ws lv pc (.long y :: .long x :: st) := fun H locs ls hP hD hS hl => W.lcmp C.ex C.cb d (k H locs ls hP hD hS hl)
theorem z_i2l (C : ZC p s m args meth c X A nL cc own Ts ret) {x : Int32} (d : decode cc pc = .ok (.i2l, 1)) (v : Int64) (hv : x.toInt64 = v) (k : Z p l e R s m args below meth c X A nL Q cells slots ws lv (pc + 1) (.long v :: st)) : Z p l e R s m args below meth c X A nL Q cells slots ws lv pc (.int x :: st) := fun H locs ls hP hD hS hl => lv_i2l C.ex C.cb d hv (k H locs ls hP hD hS hl)
theorem z_l2i (C : ZC p s m args meth c X A nL cc own Ts ret) {x : Int64} (d : decode cc pc = .ok (.l2i, 1)) (v : Int32) (hv : x.toInt32 = v) (k : Z p l e R s m args below meth c X A nL Q cells slots ws lv (pc + 1) (.int v :: st)) : Z p l e R s m args below meth c X A nL Q cells slots ws lv pc (.long x :: st) := fun H locs ls hP hD hS hl => lv_l2i C.ex C.cb d hv (k H locs ls hP hD hS hl)
theorem z_dup (C : ZC p s m args meth c X A nL cc own Ts ret) {v : Value} (d : decode cc pc = .ok (.dup, 1)) (hv : v.category = 1) (k : Z p l e R s m args below meth c X A nL Q cells slots ws lv (pc + 1) (v :: v :: st)) : Z p l e R s m args below meth c X A nL Q cells slots ws lv pc (v :: st) := fun H locs ls hP hD hS hl => lv_dup C.ex C.cb d hv (k H locs ls hP hD hS hl)
theorem z_dup2 (C : ZC p s m args meth c X A nL cc own Ts ret) {v w : Value} (d : decode cc pc = .ok (.dup2, 1)) (hv : v.category = 1) (hw : w.category = 1) (k : Z p l e R s m args below meth c X A nL Q cells slots ws lv (pc + 1) (v :: w :: v :: w :: st)) : Z p l e R s m args below meth c X A nL Q cells slots ws lv pc (v :: w :: st) := fun H locs ls hP hD hS hl => lv_dup2_11 C.ex C.cb d hv hw (k H locs ls hP hD hS hl)
theorem z_pop (C : ZC p s m args meth c X A nL cc own Ts ret) {v : Value} (d : decode cc pc = .ok (.pop, 1)) (hv : v.category = 1) (k : Z p l e R s m args below meth c X A nL Q cells slots ws lv (pc + 1) st) : Z p l e R s m args below meth c X A nL Q cells slots ws lv pc (v :: st) := fun H locs ls hP hD hS hl => lv_pop C.ex C.cb d hv (k H locs ls hP hD hS hl)
theorem zn_eq {a : Nat} (ha : a < 2 ^ 31) : nI a = 0 ↔ a = 0 := nI_eq (b := 0) ha (by decide)
theorem zn_le {a : Nat} (ha : a < 2 ^ 31) : nI a ≤ 0 ↔ a = 0 := (nI_leI (b := 0) ha (by decide)).trans Nat.le_zero
theorem zn_gt {a : Nat} (ha : a < 2 ^ 31) : 0 < nI a ↔ 0 < a := nI_ltI (a := 0) (by decide) ha
theorem zn_dn (n : Nat) : nI n + Int32.ofInt (-1) = nI n - 1 := by
  rw [Int32.sub_eq_add_neg]
  rfl
theorem z_if_eq (C : ZC p s m args meth c X A nL cc own Ts ret) {x : Int32} {off : Int} (tgt : Nat) (d : decode cc pc = .ok (.ifCond .eq off, 3)) (ht : (pc : Int) + off = (tgt : Int)) (k1 : x = 0 → Z p l e R s m args below meth c X A nL Q cells slots ws lv tgt st) (k2 : ¬ (x = 0) → Z p l e R s m args below meth c X A nL Q cells slots ws lv (pc + 3) st) : Z p l e R s m args below meth c X A nL Q cells slots ws lv pc (.int x :: st) := fun H locs ls hP hD hS hl => lv_if_eq C.ex C.cb d ht (fun h => k1 h H locs ls hP hD hS hl) (fun h => k2 h H locs ls hP hD hS hl)
theorem z_if_lt (C : ZC p s m args meth c X A nL cc own Ts ret) {x : Int32} {off : Int} (tgt : Nat) (d : decode cc pc = .ok (.ifCond .lt off, 3)) (ht : (pc : Int) + off = (tgt : Int)) (k1 : x < 0 → Z p l e R s m args below meth c X A nL Q cells slots ws lv tgt st) (k2 : ¬ (x < 0) → Z p l e R s m args below meth c X A nL Q cells slots ws lv (pc + 3) st) : Z p l e R s m args below meth c X A nL Q cells slots ws lv pc (.int x :: st) := fun H locs ls hP hD hS hl => lv_if_lt C.ex C.cb d ht (fun h => k1 h H locs ls hP hD hS hl) (fun h => k2 h H locs ls hP hD hS hl)
theorem z_if_ge (C : ZC p s m args meth c X A nL cc own Ts ret) {x : Int32} {off : Int} (tgt : Nat) (d : decode cc pc = .ok (.ifCond .ge off, 3)) (ht : (pc : Int) + off = (tgt : Int)) (k1 : 0 ≤ x → Z p l e R s m args below meth c X A nL Q cells slots ws lv tgt st) (k2 : ¬ (0 ≤ x) → Z p l e R s m args below meth c X A nL Q cells slots ws lv (pc + 3) st) : Z p l e R s m args below meth c X A nL Q cells slots ws lv pc (.int x :: st) := fun H locs ls hP hD hS hl => lv_if_ge C.ex C.cb d ht (fun h => k1 h H locs ls hP hD hS hl) (fun h => k2 h H locs ls hP hD hS hl)
theorem z_if_gt (C : ZC p s m args meth c X A nL cc own Ts ret) {x : Int32} {off : Int} (tgt : Nat) (d : decode cc pc = .ok (.ifCond .gt off, 3)) (ht : (pc : Int) + off = (tgt : Int)) (k1 : 0 < x → Z p l e R s m args below meth c X A nL Q cells slots ws lv tgt st) (k2 : ¬ (0 < x) → Z p l e R s m args below meth c X A nL Q cells slots ws lv (pc + 3) st) : Z p l e R s m args below meth c X A nL Q cells slots ws lv pc (.int x :: st) := fun H locs ls hP hD hS hl => lv_if_gt C.ex C.cb d ht (fun h => k1 h H locs ls hP hD hS hl) (fun h => k2 h H locs ls hP hD hS hl)
theorem z_if_le (C : ZC p s m args meth c X A nL cc own Ts ret) {x : Int32} {off : Int} (tgt : Nat) (d : decode cc pc = .ok (.ifCond .le off, 3)) (ht : (pc : Int) + off = (tgt : Int)) (k1 : x ≤ 0 → Z p l e R s m args below meth c X A nL Q cells slots ws lv tgt st) (k2 : ¬ (x ≤ 0) → Z p l e R s m args below meth c X A nL Q cells slots ws lv (pc + 3) st) : Z p l e R s m args below meth c X A nL Q cells slots ws lv pc (.int x :: st) := fun H locs ls hP hD hS hl => lv_if_le C.ex C.cb d ht (fun h => k1 h H locs ls hP hD hS hl) (fun h => k2 h H locs ls hP hD hS hl)
theorem z_ic_eq (C : ZC p s m args meth c X A nL cc own Ts ret) {x y : Int32} {off : Int} (tgt : Nat) (d : decode cc pc = .ok (.if_icmp .eq off, 3)) (ht : (pc : Int) + off = (tgt : Int)) (k1 : x = y → Z p l e R s m args below meth c X A nL Q cells slots ws lv tgt st) (k2 : ¬ (x = y) → Z p l e R s m args below meth c X A nL Q cells slots ws lv (pc + 3) st) : Z p l e R s m args below meth c X A nL Q cells slots ws lv pc (.int y :: .int x :: st) := fun H locs ls hP hD hS hl => lv_icmp_eq C.ex C.cb d ht (fun h => k1 h H locs ls hP hD hS hl) (fun h => k2 h H locs ls hP hD hS hl)
theorem z_ic_lt (C : ZC p s m args meth c X A nL cc own Ts ret) {x y : Int32} {off : Int} (tgt : Nat) (d : decode cc pc = .ok (.if_icmp .lt off, 3)) (ht : (pc : Int) + off = (tgt : Int)) (k1 : x < y → Z p l e R s m args below meth c X A nL Q cells slots ws lv tgt st) (k2 : ¬ (x < y) → Z p l e R s m args below meth c X A nL Q cells slots ws lv (pc + 3) st) : Z p l e R s m args below meth c X A nL Q cells slots ws lv pc (.int y :: .int x :: st) := fun H locs ls hP hD hS hl => lv_icmp_lt C.ex C.cb d ht (fun h => k1 h H locs ls hP hD hS hl) (fun h => k2 h H locs ls hP hD hS hl)
theorem z_ic_ge (C : ZC p s m args meth c X A nL cc own Ts ret) {x y : Int32} {off : Int} (tgt : Nat) (d : decode cc pc = .ok (.if_icmp .ge off, 3)) (ht : (pc : Int) + off = (tgt : Int)) (k1 : y ≤ x → Z p l e R s m args below meth c X A nL Q cells slots ws lv tgt st) (k2 : ¬ (y ≤ x) → Z p l e R s m args below meth c X A nL Q cells slots ws lv (pc + 3) st) : Z p l e R s m args below meth c X A nL Q cells slots ws lv pc (.int y :: .int x :: st) := fun H locs ls hP hD hS hl => lv_icmp_ge C.ex C.cb d ht (fun h => k1 h H locs ls hP hD hS hl) (fun h => k2 h H locs ls hP hD hS hl)
theorem z_ic_gt (C : ZC p s m args meth c X A nL cc own Ts ret) {x y : Int32} {off : Int} (tgt : Nat) (d : decode cc pc = .ok (.if_icmp .gt off, 3)) (ht : (pc : Int) + off = (tgt : Int)) (k1 : y < x → Z p l e R s m args below meth c X A nL Q cells slots ws lv tgt st) (k2 : ¬ (y < x) → Z p l e R s m args below meth c X A nL Q cells slots ws lv (pc + 3) st) : Z p l e R s m args below meth c X A nL Q cells slots ws lv pc (.int y :: .int x :: st) := fun H locs ls hP hD hS hl => lv_icmp_gt C.ex C.cb d ht (fun h => k1 h H locs ls hP hD hS hl) (fun h => k2 h H locs ls hP hD hS hl)
theorem z_ic_le (C : ZC p s m args meth c X A nL cc own Ts ret) {x y : Int32} {off : Int} (tgt : Nat) (d : decode cc pc = .ok (.if_icmp .le off, 3)) (ht : (pc : Int) + off = (tgt : Int)) (k1 : x ≤ y → Z p l e R s m args below meth c X A nL Q cells slots ws lv tgt st) (k2 : ¬ (x ≤ y) → Z p l e R s m args below meth c X A nL Q cells slots ws lv (pc + 3) st) : Z p l e R s m args below meth c X A nL Q cells slots ws lv pc (.int y :: .int x :: st) := fun H locs ls hP hD hS hl => lv_icmp_le C.ex C.cb d ht (fun h => k1 h H locs ls hP hD hS hl) (fun h => k2 h H locs ls hP hD hS hl)
theorem z_if_ne (C : ZC p s m args meth c X A nL cc own Ts ret) {x : Int32} {off : Int} (tgt : Nat) (d : decode cc pc = .ok (.ifCond .ne off, 3)) (ht : (pc : Int) + off = (tgt : Int)) (k1 : ¬ x = 0 → Z p l e R s m args below meth c X A nL Q cells slots ws lv tgt st) (k2 : x = 0 → Z p l e R s m args below meth c X A nL Q cells slots ws lv (pc + 3) st) : Z p l e R s m args below meth c X A nL Q cells slots ws lv pc (.int x :: st) := fun H locs ls hP hD hS hl => lv_if_ne C.ex C.cb d ht (fun h => k1 h H locs ls hP hD hS hl) (fun h => k2 h H locs ls hP hD hS hl)
theorem z_ic_ne (C : ZC p s m args meth c X A nL cc own Ts ret) {x y : Int32} {off : Int} (tgt : Nat) (d : decode cc pc = .ok (.if_icmp .ne off, 3)) (ht : (pc : Int) + off = (tgt : Int)) (k1 : ¬ x = y → Z p l e R s m args below meth c X A nL Q cells slots ws lv tgt st) (k2 : x = y → Z p l e R s m args below meth c X A nL Q cells slots ws lv (pc + 3) st) : Z p l e R s m args below meth c X A nL Q cells slots ws lv pc (.int y :: .int x :: st) := fun H locs ls hP hD hS hl => lv_icmp_ne C.ex C.cb d ht (fun h => k1 h H locs ls hP hD hS hl) (fun h => k2 h H locs ls hP hD hS hl)
theorem z_ic_eqN (C : ZC p s m args meth c X A nL cc own Ts ret) {x y : Int32} {off : Int} (a b tgt : Nat) (d : decode cc pc = .ok (.if_icmp .eq off, 3)) (ht : (pc : Int) + off = (tgt : Int)) (hx : x = nI a) (hy : y = nI b) (ha : a < 2 ^ 31) (hb : b < 2 ^ 31) (k1 : a = b → Z p l e R s m args below meth c X A nL Q cells slots ws lv tgt st) (k2 : ¬ (a = b) → Z p l e R s m args below meth c X A nL Q cells slots ws lv (pc + 3) st) : Z p l e R s m args below meth c X A nL Q cells slots ws lv pc (.int y :: .int x :: st) := by
  subst hx
  subst hy
  exact z_ic_eq C tgt d ht (fun h => k1 ((nI_eq ha hb).mp h)) (fun h => k2 (fun h2 => h ((nI_eq ha hb).mpr h2)))
theorem z_ic_ltN (C : ZC p s m args meth c X A nL cc own Ts ret) {x y : Int32} {off : Int} (a b tgt : Nat) (d : decode cc pc = .ok (.if_icmp .lt off, 3)) (ht : (pc : Int) + off = (tgt : Int)) (hx : x = nI a) (hy : y = nI b) (ha : a < 2 ^ 31) (hb : b < 2 ^ 31) (k1 : a < b → Z p l e R s m args below meth c X A nL Q cells slots ws lv tgt st) (k2 : ¬ (a < b) → Z p l e R s m args below meth c X A nL Q cells slots ws lv (pc + 3) st) : Z p l e R s m args below meth c X A nL Q cells slots ws lv pc (.int y :: .int x :: st) := by
  subst hx
  subst hy
  exact z_ic_lt C tgt d ht (fun h => k1 ((nI_ltI ha hb).mp h)) (fun h => k2 (fun h2 => h ((nI_ltI ha hb).mpr h2)))
theorem z_ic_geN (C : ZC p s m args meth c X A nL cc own Ts ret) {x y : Int32} {off : Int} (a b tgt : Nat) (d : decode cc pc = .ok (.if_icmp .ge off, 3)) (ht : (pc : Int) + off = (tgt : Int)) (hx : x = nI a) (hy : y = nI b) (ha : a < 2 ^ 31) (hb : b < 2 ^ 31) (k1 : b ≤ a → Z p l e R s m args below meth c X A nL Q cells slots ws lv tgt st) (k2 : ¬ (b ≤ a) → Z p l e R s m args below meth c X A nL Q cells slots ws lv (pc + 3) st) : Z p l e R s m args below meth c X A nL Q cells slots ws lv pc (.int y :: .int x :: st) := by
  subst hx
  subst hy
  exact z_ic_ge C tgt d ht (fun h => k1 ((nI_leI hb ha).mp h)) (fun h => k2 (fun h2 => h ((nI_leI hb ha).mpr h2)))
theorem z_ic_gtN (C : ZC p s m args meth c X A nL cc own Ts ret) {x y : Int32} {off : Int} (a b tgt : Nat) (d : decode cc pc = .ok (.if_icmp .gt off, 3)) (ht : (pc : Int) + off = (tgt : Int)) (hx : x = nI a) (hy : y = nI b) (ha : a < 2 ^ 31) (hb : b < 2 ^ 31) (k1 : b < a → Z p l e R s m args below meth c X A nL Q cells slots ws lv tgt st) (k2 : ¬ (b < a) → Z p l e R s m args below meth c X A nL Q cells slots ws lv (pc + 3) st) : Z p l e R s m args below meth c X A nL Q cells slots ws lv pc (.int y :: .int x :: st) := by
  subst hx
  subst hy
  exact z_ic_gt C tgt d ht (fun h => k1 ((nI_ltI hb ha).mp h)) (fun h => k2 (fun h2 => h ((nI_ltI hb ha).mpr h2)))
theorem z_ic_leN (C : ZC p s m args meth c X A nL cc own Ts ret) {x y : Int32} {off : Int} (a b tgt : Nat) (d : decode cc pc = .ok (.if_icmp .le off, 3)) (ht : (pc : Int) + off = (tgt : Int)) (hx : x = nI a) (hy : y = nI b) (ha : a < 2 ^ 31) (hb : b < 2 ^ 31) (k1 : a ≤ b → Z p l e R s m args below meth c X A nL Q cells slots ws lv tgt st) (k2 : ¬ (a ≤ b) → Z p l e R s m args below meth c X A nL Q cells slots ws lv (pc + 3) st) : Z p l e R s m args below meth c X A nL Q cells slots ws lv pc (.int y :: .int x :: st) := by
  subst hx
  subst hy
  exact z_ic_le C tgt d ht (fun h => k1 ((nI_leI ha hb).mp h)) (fun h => k2 (fun h2 => h ((nI_leI ha hb).mpr h2)))
theorem z_ic_neN (C : ZC p s m args meth c X A nL cc own Ts ret) {x y : Int32} {off : Int} (a b tgt : Nat) (d : decode cc pc = .ok (.if_icmp .ne off, 3)) (ht : (pc : Int) + off = (tgt : Int)) (hx : x = nI a) (hy : y = nI b) (ha : a < 2 ^ 31) (hb : b < 2 ^ 31) (k1 : ¬ a = b → Z p l e R s m args below meth c X A nL Q cells slots ws lv tgt st) (k2 : a = b → Z p l e R s m args below meth c X A nL Q cells slots ws lv (pc + 3) st) : Z p l e R s m args below meth c X A nL Q cells slots ws lv pc (.int y :: .int x :: st) := by
  subst hx
  subst hy
  exact z_ic_ne C tgt d ht (fun h => k1 (fun h2 => h ((nI_eq ha hb).mpr h2))) (fun h => k2 ((nI_eq ha hb).mp h))
theorem z_if_eqN (C : ZC p s m args meth c X A nL cc own Ts ret) {x : Int32} {off : Int} (a tgt : Nat) (d : decode cc pc = .ok (.ifCond .eq off, 3)) (ht : (pc : Int) + off = (tgt : Int)) (hx : x = nI a) (ha : a < 2 ^ 31) (k1 : a = 0 → Z p l e R s m args below meth c X A nL Q cells slots ws lv tgt st) (k2 : ¬ (a = 0) → Z p l e R s m args below meth c X A nL Q cells slots ws lv (pc + 3) st) : Z p l e R s m args below meth c X A nL Q cells slots ws lv pc (.int x :: st) := by
  subst hx
  exact z_if_eq C tgt d ht (fun h => k1 ((zn_eq ha).mp h)) (fun h => k2 (fun h2 => h ((zn_eq ha).mpr h2)))
theorem z_if_leN (C : ZC p s m args meth c X A nL cc own Ts ret) {x : Int32} {off : Int} (a tgt : Nat) (d : decode cc pc = .ok (.ifCond .le off, 3)) (ht : (pc : Int) + off = (tgt : Int)) (hx : x = nI a) (ha : a < 2 ^ 31) (k1 : a = 0 → Z p l e R s m args below meth c X A nL Q cells slots ws lv tgt st) (k2 : ¬ (a = 0) → Z p l e R s m args below meth c X A nL Q cells slots ws lv (pc + 3) st) : Z p l e R s m args below meth c X A nL Q cells slots ws lv pc (.int x :: st) := by
  subst hx
  exact z_if_le C tgt d ht (fun h => k1 ((zn_le ha).mp h)) (fun h => k2 (fun h2 => h ((zn_le ha).mpr h2)))
theorem z_if_gtN (C : ZC p s m args meth c X A nL cc own Ts ret) {x : Int32} {off : Int} (a tgt : Nat) (d : decode cc pc = .ok (.ifCond .gt off, 3)) (ht : (pc : Int) + off = (tgt : Int)) (hx : x = nI a) (ha : a < 2 ^ 31) (k1 : 0 < a → Z p l e R s m args below meth c X A nL Q cells slots ws lv tgt st) (k2 : ¬ (0 < a) → Z p l e R s m args below meth c X A nL Q cells slots ws lv (pc + 3) st) : Z p l e R s m args below meth c X A nL Q cells slots ws lv pc (.int x :: st) := by
  subst hx
  exact z_if_gt C tgt d ht (fun h => k1 ((zn_gt ha).mp h)) (fun h => k2 (fun h2 => h ((zn_gt ha).mpr h2)))
theorem z_if_neN (C : ZC p s m args meth c X A nL cc own Ts ret) {x : Int32} {off : Int} (a tgt : Nat) (d : decode cc pc = .ok (.ifCond .ne off, 3)) (ht : (pc : Int) + off = (tgt : Int)) (hx : x = nI a) (ha : a < 2 ^ 31) (k1 : ¬ a = 0 → Z p l e R s m args below meth c X A nL Q cells slots ws lv tgt st) (k2 : a = 0 → Z p l e R s m args below meth c X A nL Q cells slots ws lv (pc + 3) st) : Z p l e R s m args below meth c X A nL Q cells slots ws lv pc (.int x :: st) := by
  subst hx
  exact z_if_ne C tgt d ht (fun h => k1 (fun h2 => h ((zn_eq ha).mpr h2))) (fun h => k2 ((zn_eq ha).mp h))
theorem z_go (C : ZC p s m args meth c X A nL cc own Ts ret) {off : Int} (tgt : Nat) (d : decode cc pc = .ok (.goto off, 3)) (ht : (pc : Int) + off = (tgt : Int)) (k : Z p l e R s m args below meth c X A nL Q cells slots ws lv tgt st) : Z p l e R s m args below meth c X A nL Q cells slots ws lv pc st := fun H locs ls hP hD hS hl => lv_goto C.ex C.cb d ht (k H locs ls hP hD hS hl)
theorem z_tin (C : ZC p s m args meth c X A nL cc own Ts ret) {dflt lo hi : Int} {offs : Array Int} {len : Nat} {x : Int32} {off : Int} (tgt : Nat) (d : decode cc pc = .ok (.tableswitch dflt lo hi offs, len)) (h1 : ¬ x.toInt < lo) (h2 : ¬ hi < x.toInt) (ho : offs[(x.toInt - lo).toNat]? = some off) (ht : (pc : Int) + off = (tgt : Int)) (k : Z p l e R s m args below meth c X A nL Q cells slots ws lv tgt st) : Z p l e R s m args below meth c X A nL Q cells slots ws lv pc (.int x :: st) := fun H locs ls hP hD hS hl => lv_tableIn C.ex C.cb d h1 h2 ho ht (k H locs ls hP hD hS hl)
theorem z_tout (C : ZC p s m args meth c X A nL cc own Ts ret) {dflt lo hi : Int} {offs : Array Int} {len : Nat} {x : Int32} (tgt : Nat) (d : decode cc pc = .ok (.tableswitch dflt lo hi offs, len)) (h : x.toInt < lo ∨ hi < x.toInt) (ht : (pc : Int) + dflt = (tgt : Int)) (k : Z p l e R s m args below meth c X A nL Q cells slots ws lv tgt st) : Z p l e R s m args below meth c X A nL Q cells slots ws lv pc (.int x :: st) := fun H locs ls hP hD hS hl => lv_tableOut C.ex C.cb d h ht (k H locs ls hP hD hS hl)
theorem z_look (C : ZC p s m args meth c X A nL cc own Ts ret) {dflt : Int} {ps : Array (Int × Int)} {len : Nat} {x : Int32} {off : Int} (tgt : Nat) (d : decode cc pc = .ok (.lookupswitch dflt ps, len)) (hp : (ps.toList.zip (ps.toList.drop 1)).all (fun (a, next) => a.1 < next.1) = true) (ho : Op.lookupswitch.offset ps.toList dflt x.toInt = off) (ht : (pc : Int) + off = (tgt : Int)) (k : Z p l e R s m args below meth c X A nL Q cells slots ws lv tgt st) : Z p l e R s m args below meth c X A nL Q cells slots ws lv pc (.int x :: st) := fun H locs ls hP hD hS hl => lv_lookup C.ex C.cb d hp ho ht (k H locs ls hP hD hS hl)
theorem z_get (C : ZC p s m args meth c X A nL cc own Ts ret) {ref Cn : String} {T : u_T} {N ci index a : Nat} {fs : List Value} {v : Value} (q0 k0 : Nat) (d : decode cc pc = .ok (.getfield index, 3)) (he : ws[q0]? = some (a, .inr (ci, fs))) (hc : vwCl[ci]? = some (Cn, T, N)) (hv : fs[k0]? = some v) (hin : ∀ w ∈ u_ws Cn T N, w ∈ Ts) (hk : k0 < N) (hlink : Cond.fieldLink own index ref (T k0).2.1 (T k0).2.2.1 ∈ Ts) (href : (T k0).1 = ref) (k : Z p l e R s m args below meth c X A nL Q cells slots ws lv (pc + 3) (v :: st)) : Z p l e R s m args below meth c X A nL Q cells slots ws lv pc (.ref a :: st) :=
  fun H locs ls hP hD hS hl => va_get (D := X.1) C.ex C.cb C.ts hin C.ow C.hK hP q0 he hc k0 hk (C.ts _ hlink) (fun _ h9 => by rw [← href]; exact h9) hv d (k H locs ls hP hD hS hl)
theorem z_put (C : ZC p s m args meth c X A nL cc own Ts ret) {ref Cn : String} {T : u_T} {N ci index a : Nat} {fs : List Value} {v : Value} {ty0 : Nat → FieldType} {ty : FieldType} (q0 k0 : Nat) (ws1 : va_W) (d : decode cc pc = .ok (.putfield index, 3)) (he : ws[q0]? = some (a, .inr (ci, fs))) (hc : vwCl[ci]? = some (Cn, T, N)) (hin : ∀ w ∈ u_ws Cn T N, w ∈ Ts) (hty : ∀ k, k < N → parseFieldDescriptor (T k).2.2.1 = some (ty0 k)) (hnm : ∀ a, a < N → ∀ b, b < N → a ≠ b → (T a).2.1 ≠ (T b).2.1) (hk : k0 < N) (hlink : Cond.fieldLink own index ref (T k0).2.1 (T k0).2.2.1 ∈ Ts) (href : (T k0).1 = ref) (hfin : (T k0).2.2.2 = false) (hd : parseFieldDescriptor (T k0).2.2.1 = some ty) (hn : narrow ty v = v) (hfit : fits ty v = true) (hl0 : k0 < fs.length) (hw : ws.set q0 (a, .inr (ci, fs.set k0 v)) = ws1) (k : Z p l e R s m args below meth c X A nL Q cells slots ws1 lv (pc + 3) st) : Z p l e R s m args below meth c X A nL Q cells slots ws lv pc (v :: .ref a :: st) :=
  fun H locs ls hP hD hS hl => va_put (D := X.1) C.ex C.cb C.ts hin ty0 hty hnm C.ow C.hK hP hD hS q0 he hc k0 hk (C.ts _ hlink) (fun _ h9 => by rw [← href]; exact h9) hfin hd hn hfit hl0 d (fun H1 locs1 hP1 hD1 hS1 => k H1 locs1 ls (by rw [← hw]; exact hP1) (by rw [← hw]; exact hD1) hS1 hl)
theorem z_putF (C : ZC p s m args meth c X A nL cc own Ts ret) {ref Cn : String} {T : u_T} {N ci index a : Nat} {fs : List Value} {v : Value} {ty0 : Nat → FieldType} {ty : FieldType} (q0 k0 : Nat) (ws1 : va_W) (d : decode cc pc = .ok (.putfield index, 3)) (he : ws[q0]? = some (a, .inr (ci, fs))) (hc : vwCl[ci]? = some (Cn, T, N)) (hin : ∀ w ∈ u_ws Cn T N, w ∈ Ts) (hty : ∀ k, k < N → parseFieldDescriptor (T k).2.2.1 = some (ty0 k)) (hnm : ∀ a, a < N → ∀ b, b < N → a ≠ b → (T a).2.1 ≠ (T b).2.1) (hk : k0 < N) (hlink : Cond.fieldLink own index ref (T k0).2.1 (T k0).2.2.1 ∈ Ts) (href : (T k0).1 = ref) (hfin : (T k0).2.2.2 = true) (hini : meth.name = "<init>") (hdecl : (T k0).1 = own) (hd : parseFieldDescriptor (T k0).2.2.1 = some ty) (hn : narrow ty v = v) (hfit : fits ty v = true) (hl0 : k0 < fs.length) (hw : ws.set q0 (a, .inr (ci, fs.set k0 v)) = ws1) (k : Z p l e R s m args below meth c X A nL Q cells slots ws1 lv (pc + 3) st) : Z p l e R s m args below meth c X A nL Q cells slots ws lv pc (v :: .ref a :: st) :=
  fun H locs ls hP hD hS hl => va_putF (D := X.1) C.ex C.cb C.ts hin ty0 hty hnm C.ow C.hK hP hD hS q0 he hc k0 hk (C.ts _ hlink) (fun _ h9 => by rw [← href]; exact h9) hfin hini hdecl hd hn hfit hl0 d (fun H1 locs1 hP1 hD1 hS1 => k H1 locs1 ls (by rw [← hw]; exact hP1) (by rw [← hw]; exact hD1) hS1 hl)
theorem z_iald (C : ZC p s m args meth c X A nL cc own Ts ret) {a n : Nat} {f : Nat → Int32} {i : Int32} (q0 j : Nat) (d : decode cc pc = .ok (.iaload, 1)) (ha : ws[q0]? = some (a, .inl (X.2.1, n, .inl f))) (hn : n < 2 ^ 31) (hi : i = nI j) (hj : j < n) (k : Z p l e R s m args below meth c X A nL Q cells slots ws lv (pc + 1) (.int (f j) :: st)) : Z p l e R s m args below meth c X A nL Q cells slots ws lv pc (.int i :: .ref a :: st) := by
  subst hi
  intro H locs ls hP hD hS hl
  refine va_iald (D := X.1) C.ex C.cb C.hK hP q0 0 ha rfl (vp_in_nI hj hn) d ?_
  rw [nI_clamp (Nat.lt_trans hj hn)]
  exact k H locs ls hP hD hS hl
theorem z_zald (C : ZC p s m args meth c X A nL cc own Ts ret) {a n : Nat} {f : Nat → Int32} {i : Int32} (q0 j : Nat) (d : decode cc pc = .ok (.baload, 1)) (ha : ws[q0]? = some (a, .inl (X.2.2.1, n, .inl f))) (hn : n < 2 ^ 31) (hi : i = nI j) (hj : j < n) (k : Z p l e R s m args below meth c X A nL Q cells slots ws lv (pc + 1) (.int (f j) :: st)) : Z p l e R s m args below meth c X A nL Q cells slots ws lv pc (.int i :: .ref a :: st) := by
  subst hi
  intro H locs ls hP hD hS hl
  refine va_zald (D := X.1) C.ex C.cb C.hK hP q0 1 ha rfl (vp_in_nI hj hn) d ?_
  rw [nI_clamp (Nat.lt_trans hj hn)]
  exact k H locs ls hP hD hS hl
theorem z_lald (C : ZC p s m args meth c X A nL cc own Ts ret) {a n : Nat} {f : Nat → Int64} {i : Int32} (q0 j : Nat) (d : decode cc pc = .ok (.laload, 1)) (ha : ws[q0]? = some (a, .inl (X.2.2.2, n, .inr (.inl f)))) (hn : n < 2 ^ 31) (hi : i = nI j) (hj : j < n) (k : Z p l e R s m args below meth c X A nL Q cells slots ws lv (pc + 1) (.long (f j) :: st)) : Z p l e R s m args below meth c X A nL Q cells slots ws lv pc (.int i :: .ref a :: st) := by
  subst hi
  intro H locs ls hP hD hS hl
  refine va_lald (D := X.1) C.ex C.cb C.hK hP q0 2 ha rfl (vp_in_nI hj hn) d ?_
  rw [nI_clamp (Nat.lt_trans hj hn)]
  exact k H locs ls hP hD hS hl
theorem z_iast (C : ZC p s m args meth c X A nL cc own Ts ret) {a n : Nat} {f : Nat → Int32} {i : Int32} {x : Int32} (q0 j : Nat) (ws1 : va_W) (d : decode cc pc = .ok (.iastore, 1)) (ha : ws[q0]? = some (a, .inl (X.2.1, n, .inl f))) (hn : n < 2 ^ 31) (hi : i = nI j) (hj : j < n) (hw : ws.set q0 (a, .inl (X.2.1, n, .inl (upd f j x))) = ws1) (k : Z p l e R s m args below meth c X A nL Q cells slots ws1 lv (pc + 1) st) : Z p l e R s m args below meth c X A nL Q cells slots ws lv pc (.int x :: .int i :: .ref a :: st) := by
  subst hi
  intro H locs ls hP hD hS hl
  refine va_iast (D := X.1) C.ex C.cb C.hK hP hD hS q0 0 ha rfl (vp_in_nI hj hn) d ?_
  rw [nI_clamp (Nat.lt_trans hj hn), hw]
  exact fun H1 locs1 hP1 hD1 hS1 => k H1 locs1 ls hP1 hD1 hS1 hl
theorem z_zast (C : ZC p s m args meth c X A nL cc own Ts ret) {a n : Nat} {f : Nat → Int32} {i : Int32} {x : Int32} (q0 j : Nat) (ws1 : va_W) (d : decode cc pc = .ok (.bastore, 1)) (ha : ws[q0]? = some (a, .inl (X.2.2.1, n, .inl f))) (hn : n < 2 ^ 31) (hi : i = nI j) (hj : j < n) (hw : ws.set q0 (a, .inl (X.2.2.1, n, .inl (upd f j (vp_nar .boolean x)))) = ws1) (k : Z p l e R s m args below meth c X A nL Q cells slots ws1 lv (pc + 1) st) : Z p l e R s m args below meth c X A nL Q cells slots ws lv pc (.int x :: .int i :: .ref a :: st) := by
  subst hi
  intro H locs ls hP hD hS hl
  refine va_zast (D := X.1) C.ex C.cb C.hK hP hD hS q0 1 ha rfl (vp_in_nI hj hn) d ?_
  rw [nI_clamp (Nat.lt_trans hj hn), hw]
  exact fun H1 locs1 hP1 hD1 hS1 => k H1 locs1 ls hP1 hD1 hS1 hl
theorem z_last (C : ZC p s m args meth c X A nL cc own Ts ret) {a n : Nat} {f : Nat → Int64} {i : Int32} {x : Int64} (q0 j : Nat) (ws1 : va_W) (d : decode cc pc = .ok (.lastore, 1)) (ha : ws[q0]? = some (a, .inl (X.2.2.2, n, .inr (.inl f)))) (hn : n < 2 ^ 31) (hi : i = nI j) (hj : j < n) (hw : ws.set q0 (a, .inl (X.2.2.2, n, .inr (.inl (vp_updL f j x)))) = ws1) (k : Z p l e R s m args below meth c X A nL Q cells slots ws1 lv (pc + 1) st) : Z p l e R s m args below meth c X A nL Q cells slots ws lv pc (.long x :: .int i :: .ref a :: st) := by
  subst hi
  intro H locs ls hP hD hS hl
  refine va_last (D := X.1) C.ex C.cb C.hK hP hD hS q0 2 ha rfl (vp_in_nI hj hn) d ?_
  rw [nI_clamp (Nat.lt_trans hj hn), hw]
  exact fun H1 locs1 hP1 hD1 hS1 => k H1 locs1 ls hP1 hD1 hS1 hl
theorem z_new (C : ZC p s m args meth c X A nL cc own Ts ret) {Cn : String} {T : u_T} {N ci index : Nat} {ty : Nat → FieldType} (fs : List Value) (d : decode cc pc = .ok (.new index, 3)) (hin : ∀ w ∈ u_ws Cn T N, w ∈ Ts) (hty : ∀ k, k < N → parseFieldDescriptor (T k).2.2.1 = some (ty k)) (hcl : Cond.classLink own index Cn ∈ Ts) (hinst : Cond.instantiable Cn N ∈ Ts) (hini : Cond.initialized Cn ∈ Ts) (hc : vwCl[ci]? = some (Cn, T, N)) (hfs : ∀ j, j < N → defaultValue (ty j) = vp_V fs j) (hcells : cells + 1 ≤ R.cells) (hslots : slots + N ≤ R.slots) (k : ∀ q : Nat, Z p l e R s m args below meth c X A nL Q (cells + 1) (slots + N) (ws ++ [(q, .inr (ci, fs))]) lv (pc + 3) (.ref q :: st)) : Z p l e R s m args below meth c X A nL Q cells slots ws lv pc st :=
  fun H locs ls hP hD hS hl => va_new (D := X.1) C.ex C.cb C.ts hin ty hty C.ow (C.ts _ hcl) (C.ts _ hinst) (C.ts _ hini) C.hK hP hD hS C.hA hc hfs hcells hslots d (fun q H1 hP1 hD1 hS1 => k q H1 locs ls hP1 hD1 hS1 hl)
theorem z_newa (C : ZC p s m args meth c X A nL cc own Ts ret) {atype : ArrayType} {n : Int32} (t0 : Nat) (cA : ClassId) (N0 : Nat) (a0 : vp_A) (ty : FieldType) (d : decode cc pc = .ok (.newarray atype, 2)) (hty : newarray.typeOf atype = ty) (ht : (zT X)[t0]? = some (cA, ty)) (hpr : ty = .int ∨ ty = .boolean ∨ ty = .long) (harr : Cond.arrayClass ty ∈ Ts) (ha : ∀ cA : ClassId, vp_cell cA a0 = arrV cA N0 (fun _ => defaultValue ty)) (hn : ¬ n < 0) (hN : n.toNatClampNeg = N0) (hbytes : N0 * componentBytes ty ≤ 536870912) (hcells : cells + 1 ≤ R.cells) (hslots : slots + N0 ≤ R.slots) (k : ∀ q : Nat, Z p l e R s m args below meth c X A nL Q (cells + 1) (slots + N0) (ws ++ [(q, .inl (cA, a0))]) lv (pc + 2) (.ref q :: st)) : Z p l e R s m args below meth c X A nL Q cells slots ws lv pc (.int n :: st) := by
  intro H locs ls hP hD hS hl
  refine va_newa (D := X.1) (atype := atype) (ty := ty) C.ex C.cb (by rw [hty]; exact C.ts _ harr) hty C.hK hP hD hS C.hA ha hn hN hbytes hcells hslots d (fun q cB H1 hK1 hP1 hD1 hS1 => ?_)
  have e1 : va_RA s cB ty := (hK1.2 3 (cB, ty) rfl).2
  have e2 : va_RA s cA ty := (C.hK.2 t0 (cA, ty) ht).2
  have e3 : cB = cA := by
    rcases hpr with h | h | h <;> subst h <;> exact Option.some.inj (e1.symm.trans e2)
  subst e3
  exact k q H1 locs ls hP1 hD1 hS1 hl
theorem z_oinit (C : ZC p s m args meth c X A nL cc own Ts ret) {idx a : Nat} (d : decode cc pc = .ok (.invokespecial idx, 3)) (hlink : Cond.methodLink own idx Lib.objectInit ∈ Ts) (hinst : Cond.instanceMethod Lib.objectInit ∈ Ts) (hcode : Cond.code Lib.objectInit ⟨#[0xb1]⟩ 1 none ∈ Ts) (hfr : 1 ≤ R.frames) (hst : (st.map fun v => v.category).sum + 12 ≤ R.locals) (k : Z p l e R s m args below meth c X A nL Q cells slots ws lv (pc + 3) st) : Z p l e R s m args below meth c X A nL Q cells slots ws lv pc (.ref a :: st) := by
  intro H locs ls hP hD hS hl
  refine W.objInit C.ex C.cb C.ow (C.ts _ hlink) (C.ts _ hinst) (C.ts _ hcode) rfl (by rw [C.ml]; exact hl.1) rfl d hfr (by show 2 * 0 + _ + 12 ≤ _; omega) ?_
  exact k H locs ls hP hD hS hl
theorem z_mmin (C : ZC p s m args meth c X A nL cc own Ts ret) {index : Nat} {x y : Int32} (d : decode cc pc = .ok (.invokestatic index, 3)) (h1 : Cond.methodLink own index Lib.Math.min.name ∈ Ts) (h2 : Cond.static Lib.Math.min.name ∈ Ts) (h3 : Cond.initialized "java/lang/Math" ∈ Ts) (h4 : Cond.code Lib.Math.min.name Lib.Math.min.code 2 (some .int) ∈ Ts) (hfr : 1 ≤ R.frames) (hlo : (st.map fun v => v.category).sum + 13 ≤ R.locals) (hc : cells ≤ R.cells) (hs : slots ≤ R.slots) (k : Z p l e R s m args below meth c X A nL Q cells slots ws lv (pc + 3) (.int (if y < x then y else x) :: st)) : Z p l e R s m args below meth c X A nL Q cells slots ws lv pc (.int y :: .int x :: st) :=
  fun H locs ls hP hD hS hl => va_mmin C.ex C.cb (by rw [C.ml]; exact hl.1.symm) C.ow (C.ts _ h1) (C.ts _ h2) (C.ts _ h3) (C.ts _ h4) hfr hlo hc hs d (k H locs ls hP hD hS hl)
theorem z_mabs (C : ZC p s m args meth c X A nL cc own Ts ret) {index : Nat} {x : Int32} (d : decode cc pc = .ok (.invokestatic index, 3)) (h1 : Cond.methodLink own index Lib.Math.abs.name ∈ Ts) (h2 : Cond.static Lib.Math.abs.name ∈ Ts) (h3 : Cond.initialized "java/lang/Math" ∈ Ts) (h4 : Cond.code Lib.Math.abs.name Lib.Math.abs.code 1 (some .int) ∈ Ts) (hfr : 1 ≤ R.frames) (hlo : (st.map fun v => v.category).sum + 13 ≤ R.locals) (hc : cells ≤ R.cells) (hs : slots ≤ R.slots) (k : Z p l e R s m args below meth c X A nL Q cells slots ws lv (pc + 3) (.int (if 0 ≤ x then x else 0 - x) :: st)) : Z p l e R s m args below meth c X A nL Q cells slots ws lv pc (.int x :: st) :=
  fun H locs ls hP hD hS hl => va_mabs C.ex C.cb (by rw [C.ml]; exact hl.1.symm) C.ow (C.ts _ h1) (C.ts _ h2) (C.ts _ h3) (C.ts _ h4) hfr hlo hc hs d (k H locs ls hP hD hS hl)
theorem z_mminl (C : ZC p s m args meth c X A nL cc own Ts ret) {index : Nat} {x y : Int64} (d : decode cc pc = .ok (.invokestatic index, 3)) (h1 : Cond.methodLink own index Lib.MathLoose.min_long.x ∈ Ts) (h2 : Cond.static Lib.MathLoose.min_long.x ∈ Ts) (h3 : Cond.initialized "java/lang/Math" ∈ Ts) (h4 : Cond.code Lib.MathLoose.min_long.x Lib.MathLoose.min_long.code 4 (some .long) ∈ Ts) (hfr : 1 ≤ R.frames) (hlo : (st.map fun v => v.category).sum + 15 ≤ R.locals) (hc : cells ≤ R.cells) (hs : slots ≤ R.slots) (k : Z p l e R s m args below meth c X A nL Q cells slots ws lv (pc + 3) (.long (if y < x then y else x) :: st)) : Z p l e R s m args below meth c X A nL Q cells slots ws lv pc (.long y :: .long x :: st) :=
  fun H locs ls hP hD hS hl => va_mmin_long C.ex C.cb (by rw [C.ml]; exact hl.1.symm) C.ow (C.ts _ h1) (C.ts _ h2) (C.ts _ h3) (C.ts _ h4) hfr hlo hc hs d (k H locs ls hP hD hS hl)
theorem z_copy (C : ZC p s m args meth c X A nL cc own Ts ret) {index a0 a n0 n1 : Nat} {f g : Nat → Int32} {sp dp n : Int32} (q0 q1 : Nat) (ws1 : va_W) (d : decode cc pc = .ok (.invokestatic index, 3)) (h1 : Cond.methodLink own index arraycopyName ∈ Ts) (h2 : Cond.native arraycopyName ∈ Ts) (h3 : Cond.static arraycopyName ∈ Ts) (h4 : Cond.initialized "java/lang/System" ∈ Ts) (ha0 : ws[q0]? = some (a0, .inl (X.2.1, n0, .inl f))) (ha1 : ws[q1]? = some (a, .inl (X.2.1, n1, .inl g))) (i1 : ¬ sp < 0) (i2 : ¬ dp < 0) (i3 : ¬ n < 0) (i4 : sp.toNatClampNeg + n.toNatClampNeg ≤ n0) (i5 : dp.toNatClampNeg + n.toNatClampNeg ≤ n1) (hfr : 1 ≤ R.frames) (hlo : (st.map fun v => v.category).sum + (nativeFrameWords "java/lang/System" "arraycopy" 5 + 11) ≤ R.locals) (hw : ws.set q1 (a, .inl (X.2.1, n1, .inl (va_cpy f g sp.toNatClampNeg dp.toNatClampNeg n.toNatClampNeg))) = ws1) (k : Z p l e R s m args below meth c X A nL Q cells slots ws1 lv (pc + 3) st) : Z p l e R s m args below meth c X A nL Q cells slots ws lv pc (.int n :: .int dp :: .ref a :: .int sp :: .ref a0 :: st) :=
  fun H locs ls hP hD hS hl => va_copyi (D := X.1) C.ex C.cb (by rw [C.ml]; exact hl.1.symm) C.ow (C.ts _ h1) (C.ts _ h2) (C.ts _ h3) (C.ts _ h4) C.hK hP hD hS q0 q1 0 0 ha0 ha1 rfl rfl rfl i1 i2 i3 i4 i5 (fun _ _ => rfl) hfr hlo d (fun H1 locs1 hP1 hD1 hS1 => k H1 locs1 ls (by rw [← hw]; exact hP1) (by rw [← hw]; exact hD1) hS1 hl)
theorem z_wide (k0 n0 : Nat) (h1 : cells ≤ k0) (h2 : slots ≤ n0) (k : Z p l e R s m args below meth c X A nL Q k0 n0 ws lv pc st) : Z p l e R s m args below meth c X A nL Q cells slots ws lv pc st := fun H locs ls hP hD hS hl => W.widen h1 h2 (k H locs ls hP hD hS hl)
theorem z_world (perm : List Nat) (ws1 : va_W) (hp : perm.map (fun i => ws[i]?) = ws1.map some) (hn : va_nd perm = true) (k : Z p l e R s m args below meth c X A nL Q cells slots ws1 lv pc st) : Z p l e R s m args below meth c X A nL Q cells slots ws lv pc st := fun H locs ls hP hD hS hl => k H locs ls (hP.sub perm (zfm hp)) (hD.sub perm hn hp) hS hl
theorem z_nm {x v : Int32} (h : v = x) (k : Z p l e R s m args below meth c X A nL Q cells slots ws lv pc (.int v :: st)) : Z p l e R s m args below meth c X A nL Q cells slots ws lv pc (.int x :: st) := by
  subst h
  exact k
theorem z_nml {x v : Int64} (h : v = x) (k : Z p l e R s m args below meth c X A nL Q cells slots ws lv pc (.long v :: st)) : Z p l e R s m args below meth c X A nL Q cells slots ws lv pc (.long x :: st) := by
  subst h
  exact k
end ZF
theorem zn_cl {x : Int32} (h : ¬ x < 0) : nI x.toNatClampNeg = x := by
  obtain ⟨j, hj, rfl⟩ := nI_of h
  rw [nI_clamp hj]
theorem zn_in {x : Int32} {n : Nat} (h : vp_in x n) : nI x.toNatClampNeg = x := zn_cl (fun q => h (Or.inl q))
theorem zn_lt {x : Int32} {n : Nat} (h : vp_in x n) : x.toNatClampNeg < n := Nat.not_le.mp (fun q => h (Or.inr q))
theorem zn_b {x : Int32} {n : Nat} (h1 : ¬ x < 0) (h2 : x.toInt < n) (hn : n < 2 ^ 31) : x.toNatClampNeg < n := by
  obtain ⟨j, hj, rfl⟩ := nI_of h1
  rw [nI_clamp hj]
  rw [nI_toInt hj] at h2
  omega
theorem met_ofF {l : Launch} {y : MethodName} {ws ws' : List Cond} {rm : Room} {Pc : Array Value → State → Prop} {Qc : Array Value → State → Outcome → State → Prop} {mc ms : Nat} {free : Addr → Prop} {cc : ByteArray} {maxL : Nat} {ret : Option FieldType}
    (hy : plainFor y = true) (hw : ws = Cond.code y cc maxL ret :: ws')
    (body : ∀ p e s m args below meth c s₁, BodyLoose p l y (headSpec ws rm) cc maxL ret e s m args below meth c s₁ → c.maxLocals = maxL → Pc args s →
      W p l e (headSpec ws rm).room s m args below meth c s.heap [] 0 0 (MQ below Qc args s mc ms free) (entryFrame m args maxL)) : Met l y ws rm Pc Qc mc ms free := by
  refine MetFree.of_bodySF (code := cc) (maxLocals := maxL) (ret := ret) hy ?_ ?_
  · intro args s m h hn
    obtain ⟨meth, c, h1, h2, h3, h4, h5, h6, -, -⟩ := Cond.code_spec hn (atoms_spec (ws := ws) h _ (by rw [hw]; exact List.mem_cons_self))
    exact ⟨meth, c, h1, h2, h3, h4, h5, h6⟩
  · intro p e s m args below meth c s₁ B hml hP _
    have hh0 : s₁.heap = s.heap := by rw [B.state]; rfl
    obtain ⟨t, a1, o, b1, b2, b3⟩ := body p e s m args below meth c s₁ B hml hP s₁ hh0 (Stand.of_body B)
    exact ⟨t, o, a1, b1, b2, ⟨b3.1, b3.2⟩⟩
/-- what a contract asks of the heap, and what it says of it -/
def zPre (X : zX) (w : va_W) (sz : Nat) : State → Prop := fun U => U.heap.size = sz ∧ va_P X.1 vwCl w U.heap ∧ va_K X.1 vwCl (zT X) U ∧ va_D (fun _ => True) w
def zB {S : Type} (X : zX) (A : Nat → Prop) (w1 : S → va_W) : S → State → Prop := fun u t => va_P X.1 vwCl (w1 u) t.heap ∧ va_K X.1 vwCl (zT X) t ∧ va_D A (w1 u)
theorem zPre_blind (X : zX) (w : va_W) (sz : Nat) (av : List Value) : FrameBlind (va_Pc av (zPre X w sz)) := fun a U g mk q => by
  obtain ⟨q0, q1, qP, qK, qD⟩ := q
  exact ⟨q0, q1, qP, va_K.moved (u := U) (U := U.calling g mk a) (Vm.Alike.refl U.vm) qK, qD⟩
/-- from the cells w0 and the arguments av the method y returns r, and the cells are w1 -/
def CI (l : Launch) (y : MethodName) (wsY : List Cond) (fr lo mc ms : Nat) (X : zX) (w0 : va_W) (av : List Value) (r : Int32) (w1 : va_W) : Prop := ∀ sz : Nat, Met l y wsY { frames := fr, cells := mc, slots := ms, locals := lo } (va_Pc av (zPre X w0 sz)) (va_Qi (fun x (_ : Unit) => x = r) (zB X (va_A w0 sz) (fun _ => w1)) (va_A w0 sz)) mc ms (va_A w0 sz)
def CL (l : Launch) (y : MethodName) (wsY : List Cond) (fr lo mc ms : Nat) (X : zX) (w0 : va_W) (av : List Value) (r : Int64) (w1 : va_W) : Prop := ∀ sz : Nat, Met l y wsY { frames := fr, cells := mc, slots := ms, locals := lo } (va_Pc av (zPre X w0 sz)) (va_Ql (fun x (_ : Unit) => x = r) (zB X (va_A w0 sz) (fun _ => w1)) (va_A w0 sz)) mc ms (va_A w0 sz)
/-- returns nothing; the cells are w1 u for one u -/
def CU {S : Type} (l : Launch) (y : MethodName) (wsY : List Cond) (fr lo mc ms : Nat) (X : zX) (w0 : va_W) (av : List Value) (w1 : S → va_W) : Prop := ∀ sz : Nat, Met l y wsY { frames := fr, cells := mc, slots := ms, locals := lo } (va_Pc av (zPre X w0 sz)) (va_Qv (fun _ : S => True) (zB X (va_A w0 sz) w1) (va_A w0 sz)) mc ms (va_A w0 sz)
abbrev CV (l : Launch) (y : MethodName) (wsY : List Cond) (fr lo mc ms : Nat) (X : zX) (w0 : va_W) (av : List Value) (w1 : va_W) : Prop := CU (S := Unit) l y wsY fr lo mc ms X w0 av (fun _ => w1)
section ZM
variable {p : Program} {l : Launch} {e : Env} {R : Room} {s : State} {m : MethodId} {args : Array Value} {below : List Frame} {meth : Method} {c : Code} {cells slots : Nat} {Q : State → Prop} {X : zX} {A : Nat → Prop} {nL pc : Nat} {cc : ByteArray} {own : String} {Ts : List Cond} {ret : Option FieldType} {ws : va_W} {lv : List (Nat × Value)} {st : List Value}
theorem ci_intro {y : MethodName} {wsY ws9 : List Cond} {fr lo mc ms maxL : Nat} {w0 : va_W} {av : List Value} {r : Int32} {w1 : va_W} (hy : plainFor y = true) (hw : wsY = Cond.code y cc maxL ret :: ws9) (hnl : (lg_sl av).length ≤ maxL)
    (body : ∀ (p : Program) (e : Env) (s : State) (m : MethodId) (args : Array Value) (below : List Frame) (meth : Method) (c : Code) (A : Nat → Prop) (Q : State → Prop), ZC p s m args meth c X A maxL cc y.cls wsY ret → Q = MQ below (va_Qi (fun x (_ : Unit) => x = r) (zB X A (fun _ => w1)) A) args s mc ms A → Z p l e { frames := fr, cells := mc, slots := ms, locals := lo } s m args below meth c X A maxL Q 0 0 w0 (lv_args 0 av) 0 []) : CI l y wsY fr lo mc ms X w0 av r w1 := by
  intro sz
  refine met_ofF (cc := cc) (maxL := maxL) (ret := ret) hy hw ?_
  intro p e s m args below meth c s₁ B hml hv
  obtain ⟨rfl, hsz, hP, hK, hD0⟩ := hv
  subst hsz
  have C : ZC p s m av.toArray meth c X (va_A w0 s.heap.size) maxL cc y.cls wsY ret := ⟨B.exec, B.bytes, hml, findClass_of_methodNamed B.named, atoms_spec (ws := wsY) B.pre, hK, fun q h => Or.inr h, B.notSynchronized, B.returns⟩
  have hl := lv_entry av (n := maxL) hnl
  rw [lg_entry_eq]
  exact body p e s m av.toArray below meth c _ _ C rfl s.heap [] _ hP hD0.self va_S.rf hl
theorem cl_intro {y : MethodName} {wsY ws9 : List Cond} {fr lo mc ms maxL : Nat} {w0 : va_W} {av : List Value} {r : Int64} {w1 : va_W} (hy : plainFor y = true) (hw : wsY = Cond.code y cc maxL ret :: ws9) (hnl : (lg_sl av).length ≤ maxL)
    (body : ∀ (p : Program) (e : Env) (s : State) (m : MethodId) (args : Array Value) (below : List Frame) (meth : Method) (c : Code) (A : Nat → Prop) (Q : State → Prop), ZC p s m args meth c X A maxL cc y.cls wsY ret → Q = MQ below (va_Ql (fun x (_ : Unit) => x = r) (zB X A (fun _ => w1)) A) args s mc ms A → Z p l e { frames := fr, cells := mc, slots := ms, locals := lo } s m args below meth c X A maxL Q 0 0 w0 (lv_args 0 av) 0 []) : CL l y wsY fr lo mc ms X w0 av r w1 := by
  intro sz
  refine met_ofF (cc := cc) (maxL := maxL) (ret := ret) hy hw ?_
  intro p e s m args below meth c s₁ B hml hv
  obtain ⟨rfl, hsz, hP, hK, hD0⟩ := hv
  subst hsz
  have C : ZC p s m av.toArray meth c X (va_A w0 s.heap.size) maxL cc y.cls wsY ret := ⟨B.exec, B.bytes, hml, findClass_of_methodNamed B.named, atoms_spec (ws := wsY) B.pre, hK, fun q h => Or.inr h, B.notSynchronized, B.returns⟩
  have hl := lv_entry av (n := maxL) hnl
  rw [lg_entry_eq]
  exact body p e s m av.toArray below meth c _ _ C rfl s.heap [] _ hP hD0.self va_S.rf hl
theorem cu_intro {y : MethodName} {wsY ws9 : List Cond} {fr lo mc ms maxL : Nat} {w0 : va_W} {av : List Value} {S : Type} {w1 : S → va_W} (hy : plainFor y = true) (hw : wsY = Cond.code y cc maxL ret :: ws9) (hnl : (lg_sl av).length ≤ maxL)
    (body : ∀ (p : Program) (e : Env) (s : State) (m : MethodId) (args : Array Value) (below : List Frame) (meth : Method) (c : Code) (A : Nat → Prop) (Q : State → Prop), ZC p s m args meth c X A maxL cc y.cls wsY ret → Q = MQ below (va_Qv (fun _ : S => True) (zB X A w1) A) args s mc ms A → Z p l e { frames := fr, cells := mc, slots := ms, locals := lo } s m args below meth c X A maxL Q 0 0 w0 (lv_args 0 av) 0 []) : CU l y wsY fr lo mc ms X w0 av w1 := by
  intro sz
  refine met_ofF (cc := cc) (maxL := maxL) (ret := ret) hy hw ?_
  intro p e s m args below meth c s₁ B hml hv
  obtain ⟨rfl, hsz, hP, hK, hD0⟩ := hv
  subst hsz
  have C : ZC p s m av.toArray meth c X (va_A w0 s.heap.size) maxL cc y.cls wsY ret := ⟨B.exec, B.bytes, hml, findClass_of_methodNamed B.named, atoms_spec (ws := wsY) B.pre, hK, fun q h => Or.inr h, B.notSynchronized, B.returns⟩
  have hl := lv_entry av (n := maxL) hnl
  rw [lg_entry_eq]
  exact body p e s m av.toArray below meth c _ _ C rfl s.heap [] _ hP hD0.self va_S.rf hl
theorem cn_intro {y : MethodName} {wsY ws9 : List Cond} {fr lo mc ms maxL : Nat} {w0 : va_W} {av : List Value} {S : Type} {w1 : S → va_W} (hy : plainFor y = true) (hw : wsY = Cond.code y cc maxL ret :: ws9) (hnl : (lg_sl av).length ≤ maxL)
    (body : ∀ (p : Program) (e : Env) (s : State) (m : MethodId) (args : Array Value) (below : List Frame) (meth : Method) (c : Code) (A : Nat → Prop) (Q : State → Prop), ZC p s m args meth c X A maxL cc y.cls wsY ret → Q = MQ below (va_Qv (fun _ : S => True) (zB X A w1) A) args s mc ms A → meth.name = y.name → Z p l e { frames := fr, cells := mc, slots := ms, locals := lo } s m args below meth c X A maxL Q 0 0 w0 (lv_args 0 av) 0 []) : CU l y wsY fr lo mc ms X w0 av w1 := by
  intro sz
  refine met_ofF (cc := cc) (maxL := maxL) (ret := ret) hy hw ?_
  intro p e s m args below meth c s₁ B hml hv
  obtain ⟨rfl, hsz, hP, hK, hD0⟩ := hv
  subst hsz
  have C : ZC p s m av.toArray meth c X (va_A w0 s.heap.size) maxL cc y.cls wsY ret := ⟨B.exec, B.bytes, hml, findClass_of_methodNamed B.named, atoms_spec (ws := wsY) B.pre, hK, fun q h => Or.inr h, B.notSynchronized, B.returns⟩
  have hl := lv_entry av (n := maxL) hnl
  rw [lg_entry_eq]
  exact body p e s m av.toArray below meth c _ _ C rfl (name_of_methodNamed B.named B.method).1 s.heap [] _ hP hD0.self va_S.rf hl
theorem z_iret (C : ZC p s m args meth c X A nL cc own Ts (some .int)) {mc ms : Nat} {v r : Int32} {w1 : va_W} (hQ : Q = MQ below (va_Qi (fun x (_ : Unit) => x = r) (zB X A (fun _ => w1)) A) args s mc ms A) (d : decode cc pc = .ok (.ireturn, 1)) (hv : v = r) (hw : ws = w1) (hc : cells ≤ mc) (hs : slots ≤ ms) : Z p l e R s m args below meth c X A nL Q cells slots ws lv pc [.int v] := by
  subst hQ
  subst hv
  subst hw
  intro H locs ls hP hD hS hl
  refine W.widen hc hs ?_
  exact W.iret (v := v) C.ex C.cb C.re (fun t ht hW => ⟨⟨v, (), rfl, rfl, by rw [ht]; exact hP, va_K.moved hW.alike C.hK, hD⟩, hS.F ht⟩) hS.2.2 d C.lo
theorem z_zret (C : ZC p s m args meth c X A nL cc own Ts (some .boolean)) {mc ms : Nat} {v r : Int32} {w1 : va_W} (hQ : Q = MQ below (va_Qi (fun x (_ : Unit) => x = r) (zB X A (fun _ => w1)) A) args s mc ms A) (d : decode cc pc = .ok (.ireturn, 1)) (hb : v = 0 ∨ v = 1) (hv : v = r) (hw : ws = w1) (hc : cells ≤ mc) (hs : slots ≤ ms) : Z p l e R s m args below meth c X A nL Q cells slots ws lv pc [.int v] := by
  subst hQ
  subst hv
  subst hw
  intro H locs ls hP hD hS hl
  refine W.widen hc hs ?_
  exact W.zret (v := v) C.ex C.cb C.re (by rcases hb with h | h <;> subst h <;> rfl) (fun t ht hW => ⟨⟨v, (), rfl, rfl, by rw [ht]; exact hP, va_K.moved hW.alike C.hK, hD⟩, hS.F ht⟩) hS.2.2 d C.lo
theorem z_lret (C : ZC p s m args meth c X A nL cc own Ts (some .long)) {mc ms : Nat} {v r : Int64} {w1 : va_W} (hQ : Q = MQ below (va_Ql (fun x (_ : Unit) => x = r) (zB X A (fun _ => w1)) A) args s mc ms A) (d : decode cc pc = .ok (.lreturn, 1)) (hv : v = r) (hw : ws = w1) (hc : cells ≤ mc) (hs : slots ≤ ms) : Z p l e R s m args below meth c X A nL Q cells slots ws lv pc [.long v] := by
  subst hQ
  subst hv
  subst hw
  intro H locs ls hP hD hS hl
  refine W.widen hc hs ?_
  exact W.lret (v := v) C.ex C.cb C.re (fun t ht hW => ⟨⟨v, (), rfl, rfl, by rw [ht]; exact hP, va_K.moved hW.alike C.hK, hD⟩, hS.F ht⟩) hS.2.2 d C.lo
theorem z_vret (C : ZC p s m args meth c X A nL cc own Ts none) {mc ms : Nat} {S : Type} {w1 : S → va_W} (hQ : Q = MQ below (va_Qv (fun _ : S => True) (zB X A w1) A) args s mc ms A) (u : S) (d : decode cc pc = .ok (.return_, 1)) (hw : ws = w1 u) (hc : cells ≤ mc) (hs : slots ≤ ms) : Z p l e R s m args below meth c X A nL Q cells slots ws lv pc [] := by
  subst hQ
  subst hw
  intro H locs ls hP hD hS hl
  refine W.widen hc hs ?_
  exact W.vret C.ex C.cb C.re (fun t ht hW => ⟨⟨u, rfl, trivial, by rw [ht]; exact hP, va_K.moved hW.alike C.hK, hD⟩, hS.F ht⟩) hS.2.2 d C.lo
theorem z_cVi (C : ZC p s m args meth c X A nL cc own Ts ret) {y : MethodName} {Cn : String} {b : Nat} {bytes : ByteArray} {ry : Option FieldType} {wsY ws9 : List Cond} {fr lo mc ms maxL index : Nat} {As rest : List Value} {wc : va_W} {r : Int32} {w1 : va_W} (hM : CI l y wsY fr lo mc ms X wc (.ref b :: As) r w1) (g : GoodIn Ts (wsV own index Cn y wsY)) (hw : wsY = Cond.code y bytes maxL ry :: ws9) (hd : y.cls = Cn ∧ y.cls ≠ "java/lang/invoke/MethodHandle" ∧ y.cls ≠ "java/lang/invoke/VarHandle" ∧ (parseMethodDescriptor y.desc).map (fun d => d.parameters.length) = some As.length) (hR : fr + 1 ≤ R.frames ∧ 8 + (maxL + 11) + lo ≤ R.locals) (hf : cells + mc ≤ R.cells ∧ slots + ms ≤ R.slots) {fs : List Value} {qc : u_T × Nat} (q0 ci : Nat) (hr : wc[q0]? = some (b, .inr (ci, fs))) (hrc : vwCl[ci]? = some (Cn, qc)) (isC isR perm : List Nat) (hC : isC.map (fun i => ws[i]?) = wc.map some) (hRr : isR.map (fun i => ws[i]?) = (isR.filterMap (fun i => ws[i]?)).map some) (hnC : va_nd isC = true) (hnR : va_nd isR = true) (hdis : ∀ i ∈ isR, i ∉ isC) (hnp : va_nd perm = true) (w2 : va_W) (hp : perm.map (fun i => (isR.filterMap (fun i => ws[i]?) ++ w1)[i]?) = w2.map some) (hst : (rest.map fun v => v.category).sum ≤ 8) (d : decode cc pc = .ok (.invokevirtual index, 3)) (hs : st = As.reverse ++ .ref b :: rest) (k : Z p l e R s m args below meth c X A nL Q (cells + mc) (slots + ms) w2 lv (pc + 3) (.int r :: rest)) : Z p l e R s m args below meth c X A nL Q cells slots ws lv pc st := by
  intro H locs ls hP hD hS hl
  subst hs
  have hPc := hP.sub (ws' := wc) isC (zfm hC)
  have hDc := hD.sub (ws' := wc) isC hnC hC
  have hFc := va_free (wc := wc) hD hS C.hA isC hC
  refine va_calli (va_runV (As := As) (rest := rest) ⟨C.ex, C.cb, C.ml, C.ow, C.ts⟩ (hM H.size) (cwV As.length C.ts g hw rfl rfl hd hR) ⟨zPre_blind X wc H.size (.ref b :: As), va_recv C.hK hPc hrc hr, fun U hU hW => ⟨rfl, by rw [hU], by rw [hU]; exact hPc, va_K.moved hW.alike C.hK, hDc.weaken (fun _ _ _ _ => trivial)⟩⟩ rfl rfl hl.1 rfl (lv_room hst) d hf) hS (fun q _ h => hFc q h) hFc (fun r9 u t H1 locs1 ht hvm hw1 hB hz1 hk1 hS1 => ?_)
  obtain ⟨hP1, hK1, hD1⟩ := hB
  rw [ht] at hP1
  obtain ⟨hP2, hD2⟩ := va_join hP hD isC isR hC hRr hnR hdis hk1 hFc hP1 hD1
  subst hw1
  exact k H1 locs1 ls (hP2.sub perm (zfm hp)) (hD2.sub perm hnp hp) hS1 hl
theorem z_cVu (C : ZC p s m args meth c X A nL cc own Ts ret) {y : MethodName} {Cn : String} {b : Nat} {bytes : ByteArray} {ry : Option FieldType} {wsY ws9 : List Cond} {fr lo mc ms maxL index : Nat} {As rest : List Value} {wc : va_W} {S : Type} {w1 : S → va_W} (hM : CU l y wsY fr lo mc ms X wc (.ref b :: As) w1) (g : GoodIn Ts (wsV own index Cn y wsY)) (hw : wsY = Cond.code y bytes maxL ry :: ws9) (hd : y.cls = Cn ∧ y.cls ≠ "java/lang/invoke/MethodHandle" ∧ y.cls ≠ "java/lang/invoke/VarHandle" ∧ (parseMethodDescriptor y.desc).map (fun d => d.parameters.length) = some As.length) (hR : fr + 1 ≤ R.frames ∧ 8 + (maxL + 11) + lo ≤ R.locals) (hf : cells + mc ≤ R.cells ∧ slots + ms ≤ R.slots) {fs : List Value} {qc : u_T × Nat} (q0 ci : Nat) (hr : wc[q0]? = some (b, .inr (ci, fs))) (hrc : vwCl[ci]? = some (Cn, qc)) (isC isR perm : List Nat) (hC : isC.map (fun i => ws[i]?) = wc.map some) (hRr : isR.map (fun i => ws[i]?) = (isR.filterMap (fun i => ws[i]?)).map some) (hnC : va_nd isC = true) (hnR : va_nd isR = true) (hdis : ∀ i ∈ isR, i ∉ isC) (hnp : va_nd perm = true) (w2 : S → va_W) (hp : ∀ u : S, perm.map (fun i => (isR.filterMap (fun i => ws[i]?) ++ w1 u)[i]?) = (w2 u).map some) (hst : (rest.map fun v => v.category).sum ≤ 8) (d : decode cc pc = .ok (.invokevirtual index, 3)) (hs : st = As.reverse ++ .ref b :: rest) (k : ∀ u : S, Z p l e R s m args below meth c X A nL Q (cells + mc) (slots + ms) (w2 u) lv (pc + 3) rest) : Z p l e R s m args below meth c X A nL Q cells slots ws lv pc st := by
  intro H locs ls hP hD hS hl
  subst hs
  have hPc := hP.sub (ws' := wc) isC (zfm hC)
  have hDc := hD.sub (ws' := wc) isC hnC hC
  have hFc := va_free (wc := wc) hD hS C.hA isC hC
  refine va_callv (va_runV (As := As) (rest := rest) ⟨C.ex, C.cb, C.ml, C.ow, C.ts⟩ (hM H.size) (cwV As.length C.ts g hw rfl rfl hd hR) ⟨zPre_blind X wc H.size (.ref b :: As), va_recv C.hK hPc hrc hr, fun U hU hW => ⟨rfl, by rw [hU], by rw [hU]; exact hPc, va_K.moved hW.alike C.hK, hDc.weaken (fun _ _ _ _ => trivial)⟩⟩ rfl rfl hl.1 rfl (lv_room hst) d hf) hS (fun q _ h => hFc q h) hFc (fun u t H1 locs1 ht hvm hw1 hB hz1 hk1 hS1 => ?_)
  obtain ⟨hP1, hK1, hD1⟩ := hB
  rw [ht] at hP1
  obtain ⟨hP2, hD2⟩ := va_join hP hD isC isR hC hRr hnR hdis hk1 hFc hP1 hD1
  exact k u H1 locs1 ls (hP2.sub perm (zfm (hp u))) (hD2.sub perm hnp (hp u)) hS1 hl
theorem z_cSi (C : ZC p s m args meth c X A nL cc own Ts ret) {y : MethodName}  {bytes : ByteArray} {ry : Option FieldType} {wsY ws9 : List Cond} {fr lo mc ms maxL index : Nat} {As rest : List Value} {wc : va_W} {r : Int32} {w1 : va_W} (hM : CI l y wsY fr lo mc ms X wc As r w1) (g : GoodIn Ts (va_wsS own index y wsY)) (hw : wsY = Cond.code y bytes maxL ry :: ws9) (hd : y.cls ≠ "java/lang/invoke/MethodHandle" ∧ y.cls ≠ "java/lang/invoke/VarHandle" ∧ (parseMethodDescriptor y.desc).map (fun d => d.parameters.length) = some As.length) (hR : fr + 1 ≤ R.frames ∧ 8 + (maxL + 11) + lo ≤ R.locals) (hf : cells + mc ≤ R.cells ∧ slots + ms ≤ R.slots)  (isC isR perm : List Nat) (hC : isC.map (fun i => ws[i]?) = wc.map some) (hRr : isR.map (fun i => ws[i]?) = (isR.filterMap (fun i => ws[i]?)).map some) (hnC : va_nd isC = true) (hnR : va_nd isR = true) (hdis : ∀ i ∈ isR, i ∉ isC) (hnp : va_nd perm = true) (w2 : va_W) (hp : perm.map (fun i => (isR.filterMap (fun i => ws[i]?) ++ w1)[i]?) = w2.map some) (hst : (rest.map fun v => v.category).sum ≤ 8) (d : decode cc pc = .ok (.invokestatic index, 3)) (hs : st = As.reverse ++ rest) (k : Z p l e R s m args below meth c X A nL Q (cells + mc) (slots + ms) w2 lv (pc + 3) (.int r :: rest)) : Z p l e R s m args below meth c X A nL Q cells slots ws lv pc st := by
  intro H locs ls hP hD hS hl
  subst hs
  have hPc := hP.sub (ws' := wc) isC (zfm hC)
  have hDc := hD.sub (ws' := wc) isC hnC hC
  have hFc := va_free (wc := wc) hD hS C.hA isC hC
  refine va_calli (va_runS (As := As) (rest := rest) ⟨C.ex, C.cb, C.ml, C.ow, C.ts⟩ (hM H.size) (va_cwS As.length C.ts g hw rfl rfl hd hR) ⟨zPre_blind X wc H.size As, fun U hU hW => ⟨rfl, by rw [hU], by rw [hU]; exact hPc, va_K.moved hW.alike C.hK, hDc.weaken (fun _ _ _ _ => trivial)⟩⟩ rfl rfl hl.1 rfl (lv_room hst) d hf) hS (fun q _ h => hFc q h) hFc (fun r9 u t H1 locs1 ht hvm hw1 hB hz1 hk1 hS1 => ?_)
  obtain ⟨hP1, hK1, hD1⟩ := hB
  rw [ht] at hP1
  obtain ⟨hP2, hD2⟩ := va_join hP hD isC isR hC hRr hnR hdis hk1 hFc hP1 hD1
  subst hw1
  exact k H1 locs1 ls (hP2.sub perm (zfm hp)) (hD2.sub perm hnp hp) hS1 hl
theorem z_cSl (C : ZC p s m args meth c X A nL cc own Ts ret) {y : MethodName}  {bytes : ByteArray} {ry : Option FieldType} {wsY ws9 : List Cond} {fr lo mc ms maxL index : Nat} {As rest : List Value} {wc : va_W} {r : Int64} {w1 : va_W} (hM : CL l y wsY fr lo mc ms X wc As r w1) (g : GoodIn Ts (va_wsS own index y wsY)) (hw : wsY = Cond.code y bytes maxL ry :: ws9) (hd : y.cls ≠ "java/lang/invoke/MethodHandle" ∧ y.cls ≠ "java/lang/invoke/VarHandle" ∧ (parseMethodDescriptor y.desc).map (fun d => d.parameters.length) = some As.length) (hR : fr + 1 ≤ R.frames ∧ 8 + (maxL + 11) + lo ≤ R.locals) (hf : cells + mc ≤ R.cells ∧ slots + ms ≤ R.slots)  (isC isR perm : List Nat) (hC : isC.map (fun i => ws[i]?) = wc.map some) (hRr : isR.map (fun i => ws[i]?) = (isR.filterMap (fun i => ws[i]?)).map some) (hnC : va_nd isC = true) (hnR : va_nd isR = true) (hdis : ∀ i ∈ isR, i ∉ isC) (hnp : va_nd perm = true) (w2 : va_W) (hp : perm.map (fun i => (isR.filterMap (fun i => ws[i]?) ++ w1)[i]?) = w2.map some) (hst : (rest.map fun v => v.category).sum ≤ 8) (d : decode cc pc = .ok (.invokestatic index, 3)) (hs : st = As.reverse ++ rest) (k : Z p l e R s m args below meth c X A nL Q (cells + mc) (slots + ms) w2 lv (pc + 3) (.long r :: rest)) : Z p l e R s m args below meth c X A nL Q cells slots ws lv pc st := by
  intro H locs ls hP hD hS hl
  subst hs
  have hPc := hP.sub (ws' := wc) isC (zfm hC)
  have hDc := hD.sub (ws' := wc) isC hnC hC
  have hFc := va_free (wc := wc) hD hS C.hA isC hC
  refine va_calll (va_runS (As := As) (rest := rest) ⟨C.ex, C.cb, C.ml, C.ow, C.ts⟩ (hM H.size) (va_cwS As.length C.ts g hw rfl rfl hd hR) ⟨zPre_blind X wc H.size As, fun U hU hW => ⟨rfl, by rw [hU], by rw [hU]; exact hPc, va_K.moved hW.alike C.hK, hDc.weaken (fun _ _ _ _ => trivial)⟩⟩ rfl rfl hl.1 rfl (lv_room hst) d hf) hS (fun q _ h => hFc q h) hFc (fun r9 u t H1 locs1 ht hvm hw1 hB hz1 hk1 hS1 => ?_)
  obtain ⟨hP1, hK1, hD1⟩ := hB
  rw [ht] at hP1
  obtain ⟨hP2, hD2⟩ := va_join hP hD isC isR hC hRr hnR hdis hk1 hFc hP1 hD1
  subst hw1
  exact k H1 locs1 ls (hP2.sub perm (zfm hp)) (hD2.sub perm hnp hp) hS1 hl
theorem z_cSu (C : ZC p s m args meth c X A nL cc own Ts ret) {y : MethodName}  {bytes : ByteArray} {ry : Option FieldType} {wsY ws9 : List Cond} {fr lo mc ms maxL index : Nat} {As rest : List Value} {wc : va_W} {S : Type} {w1 : S → va_W} (hM : CU l y wsY fr lo mc ms X wc As w1) (g : GoodIn Ts (va_wsS own index y wsY)) (hw : wsY = Cond.code y bytes maxL ry :: ws9) (hd : y.cls ≠ "java/lang/invoke/MethodHandle" ∧ y.cls ≠ "java/lang/invoke/VarHandle" ∧ (parseMethodDescriptor y.desc).map (fun d => d.parameters.length) = some As.length) (hR : fr + 1 ≤ R.frames ∧ 8 + (maxL + 11) + lo ≤ R.locals) (hf : cells + mc ≤ R.cells ∧ slots + ms ≤ R.slots)  (isC isR perm : List Nat) (hC : isC.map (fun i => ws[i]?) = wc.map some) (hRr : isR.map (fun i => ws[i]?) = (isR.filterMap (fun i => ws[i]?)).map some) (hnC : va_nd isC = true) (hnR : va_nd isR = true) (hdis : ∀ i ∈ isR, i ∉ isC) (hnp : va_nd perm = true) (w2 : S → va_W) (hp : ∀ u : S, perm.map (fun i => (isR.filterMap (fun i => ws[i]?) ++ w1 u)[i]?) = (w2 u).map some) (hst : (rest.map fun v => v.category).sum ≤ 8) (d : decode cc pc = .ok (.invokestatic index, 3)) (hs : st = As.reverse ++ rest) (k : ∀ u : S, Z p l e R s m args below meth c X A nL Q (cells + mc) (slots + ms) (w2 u) lv (pc + 3) rest) : Z p l e R s m args below meth c X A nL Q cells slots ws lv pc st := by
  intro H locs ls hP hD hS hl
  subst hs
  have hPc := hP.sub (ws' := wc) isC (zfm hC)
  have hDc := hD.sub (ws' := wc) isC hnC hC
  have hFc := va_free (wc := wc) hD hS C.hA isC hC
  refine va_callv (va_runS (As := As) (rest := rest) ⟨C.ex, C.cb, C.ml, C.ow, C.ts⟩ (hM H.size) (va_cwS As.length C.ts g hw rfl rfl hd hR) ⟨zPre_blind X wc H.size As, fun U hU hW => ⟨rfl, by rw [hU], by rw [hU]; exact hPc, va_K.moved hW.alike C.hK, hDc.weaken (fun _ _ _ _ => trivial)⟩⟩ rfl rfl hl.1 rfl (lv_room hst) d hf) hS (fun q _ h => hFc q h) hFc (fun u t H1 locs1 ht hvm hw1 hB hz1 hk1 hS1 => ?_)
  obtain ⟨hP1, hK1, hD1⟩ := hB
  rw [ht] at hP1
  obtain ⟨hP2, hD2⟩ := va_join hP hD isC isR hC hRr hnR hdis hk1 hFc hP1 hD1
  exact k u H1 locs1 ls (hP2.sub perm (zfm (hp u))) (hD2.sub perm hnp (hp u)) hS1 hl
theorem z_cIu (C : ZC p s m args meth c X A nL cc own Ts ret) {y : MethodName} {bytes : ByteArray} {wsY ws9 : List Cond} {fr lo mc ms maxL index b : Nat} {As rest : List Value} {wc : va_W} {S : Type} {w1 : S → va_W} (hM : CU l y wsY fr lo mc ms X wc (.ref b :: As) w1) (g : GoodIn Ts wsY) (hw : wsY = Cond.code y bytes maxL none :: ws9) (hini : Cond.initialized y.cls ∈ Ts) (hlk : Cond.methodLink own index y ∈ Ts) (hinm : Cond.instanceMethod y ∈ Ts) (hy1 : y.name = "<init>") (hd : y.cls ≠ "java/lang/invoke/MethodHandle" ∧ y.cls ≠ "java/lang/invoke/VarHandle" ∧ (parseMethodDescriptor y.desc).map (fun d => d.parameters.length) = some As.length) (hR : fr + 1 ≤ R.frames ∧ 8 + (maxL + 11) + lo ≤ R.locals) (hf : cells + mc ≤ R.cells ∧ slots + ms ≤ R.slots) (isC isR perm : List Nat) (hC : isC.map (fun i => ws[i]?) = wc.map some) (hRr : isR.map (fun i => ws[i]?) = (isR.filterMap (fun i => ws[i]?)).map some) (hnC : va_nd isC = true) (hnR : va_nd isR = true) (hdis : ∀ i ∈ isR, i ∉ isC) (hnp : va_nd perm = true) (w2 : S → va_W) (hp : ∀ u : S, perm.map (fun i => (isR.filterMap (fun i => ws[i]?) ++ w1 u)[i]?) = (w2 u).map some) (hst : (rest.map fun v => v.category).sum ≤ 8) (d : decode cc pc = .ok (.invokespecial index, 3)) (hs : st = As.reverse ++ .ref b :: rest) (k : ∀ u : S, Z p l e R s m args below meth c X A nL Q (cells + mc) (slots + ms) (w2 u) lv (pc + 3) rest) : Z p l e R s m args below meth c X A nL Q cells slots ws lv pc st := by
  intro H locs ls hP hD hS hl
  subst hs
  have hPc := hP.sub (ws' := wc) isC (zfm hC)
  have hDc := hD.sub (ws' := wc) isC hnC hC
  have hFc := va_free (wc := wc) hD hS C.hA isC hC
  refine va_callv (va_runI (As := As) (rest := rest) ⟨C.ex, C.cb, C.ml, C.ow, C.ts⟩ (hM H.size) (cwI As.length C.ts g hw rfl rfl (C.ts _ hini) (C.ts _ hlk) (C.ts _ hinm) hy1 hd hR) ⟨zPre_blind X wc H.size (.ref b :: As), fun U hU hW => ⟨rfl, by rw [hU], by rw [hU]; exact hPc, va_K.moved hW.alike C.hK, hDc.weaken (fun _ _ _ _ => trivial)⟩⟩ rfl rfl hl.1 rfl (lv_room hst) d hf) hS (fun q _ h => hFc q h) hFc (fun u t H1 locs1 ht hvm hw1 hB hz1 hk1 hS1 => ?_)
  obtain ⟨hP1, hK1, hD1⟩ := hB
  rw [ht] at hP1
  obtain ⟨hP2, hD2⟩ := va_join hP hD isC isR hC hRr hnR hdis hk1 hFc hP1 hD1
  exact k u H1 locs1 ls (hP2.sub perm (zfm (hp u))) (hD2.sub perm hnp (hp u)) hS1 hl
theorem z_cVi0 (C : ZC p s m args meth c X A nL cc own Ts ret) {y : MethodName} {Cn : String} {b : Nat} {bytes : ByteArray} {ry : Option FieldType} {wsY ws9 : List Cond} {fr lo mc ms maxL index : Nat} {As rest : List Value} {r : Int32} {w1 : va_W} (hM : CI l y wsY fr lo mc ms X ws (.ref b :: As) r w1) (g : GoodIn Ts (wsV own index Cn y wsY)) (hw : wsY = Cond.code y bytes maxL ry :: ws9) (hd : y.cls = Cn ∧ y.cls ≠ "java/lang/invoke/MethodHandle" ∧ y.cls ≠ "java/lang/invoke/VarHandle" ∧ (parseMethodDescriptor y.desc).map (fun d => d.parameters.length) = some As.length) (hR : fr + 1 ≤ R.frames ∧ 8 + (maxL + 11) + lo ≤ R.locals) (hf : cells + mc ≤ R.cells ∧ slots + ms ≤ R.slots) {fs : List Value} {qc : u_T × Nat} (q0 ci : Nat) (hr : ws[q0]? = some (b, .inr (ci, fs))) (hrc : vwCl[ci]? = some (Cn, qc)) (hst : (rest.map fun v => v.category).sum ≤ 8) (d : decode cc pc = .ok (.invokevirtual index, 3)) (hs : st = As.reverse ++ .ref b :: rest) (k : Z p l e R s m args below meth c X A nL Q (cells + mc) (slots + ms) w1 lv (pc + 3) (.int r :: rest)) : Z p l e R s m args below meth c X A nL Q cells slots ws lv pc st := by
  intro H locs ls hP hD hS hl
  subst hs
  have hFc : ∀ q, va_A ws H.size q → A q := fun q h => by
    rcases h with ⟨k9, e9, h⟩ | h
    · exact hD.2 k9 (q, e9) h
    · exact C.hA q (Nat.le_trans hS.1 h)
  refine va_calli (va_runV (As := As) (rest := rest) ⟨C.ex, C.cb, C.ml, C.ow, C.ts⟩ (hM H.size) (cwV As.length C.ts g hw rfl rfl hd hR) ⟨zPre_blind X ws H.size (.ref b :: As), va_recv C.hK hP hrc hr, fun U hU hW => ⟨rfl, by rw [hU], by rw [hU]; exact hP, va_K.moved hW.alike C.hK, hD.weaken (fun _ _ _ _ => trivial)⟩⟩ rfl rfl hl.1 rfl (lv_room hst) d hf) hS (fun q _ h => hFc q h) hFc (fun r9 u t H1 locs1 ht hvm hw1 hB hz1 hk1 hS1 => ?_)
  obtain ⟨hP1, hK1, hD1⟩ := hB
  rw [ht] at hP1
  subst hw1
  exact k H1 locs1 ls hP1 (hD1.weaken (fun _ q _ h => hFc q.1 h)) hS1 hl
theorem z_cVv0 (C : ZC p s m args meth c X A nL cc own Ts ret) {y : MethodName} {Cn : String} {b : Nat} {bytes : ByteArray} {ry : Option FieldType} {wsY ws9 : List Cond} {fr lo mc ms maxL index : Nat} {As rest : List Value} {w1 : va_W} (hM : CV l y wsY fr lo mc ms X ws (.ref b :: As) w1) (g : GoodIn Ts (wsV own index Cn y wsY)) (hw : wsY = Cond.code y bytes maxL ry :: ws9) (hd : y.cls = Cn ∧ y.cls ≠ "java/lang/invoke/MethodHandle" ∧ y.cls ≠ "java/lang/invoke/VarHandle" ∧ (parseMethodDescriptor y.desc).map (fun d => d.parameters.length) = some As.length) (hR : fr + 1 ≤ R.frames ∧ 8 + (maxL + 11) + lo ≤ R.locals) (hf : cells + mc ≤ R.cells ∧ slots + ms ≤ R.slots) {fs : List Value} {qc : u_T × Nat} (q0 ci : Nat) (hr : ws[q0]? = some (b, .inr (ci, fs))) (hrc : vwCl[ci]? = some (Cn, qc)) (hst : (rest.map fun v => v.category).sum ≤ 8) (d : decode cc pc = .ok (.invokevirtual index, 3)) (hs : st = As.reverse ++ .ref b :: rest) (k : Z p l e R s m args below meth c X A nL Q (cells + mc) (slots + ms) w1 lv (pc + 3) rest) : Z p l e R s m args below meth c X A nL Q cells slots ws lv pc st := by
  intro H locs ls hP hD hS hl
  subst hs
  have hFc : ∀ q, va_A ws H.size q → A q := fun q h => by
    rcases h with ⟨k9, e9, h⟩ | h
    · exact hD.2 k9 (q, e9) h
    · exact C.hA q (Nat.le_trans hS.1 h)
  refine va_callv (va_runV (As := As) (rest := rest) ⟨C.ex, C.cb, C.ml, C.ow, C.ts⟩ (hM H.size) (cwV As.length C.ts g hw rfl rfl hd hR) ⟨zPre_blind X ws H.size (.ref b :: As), va_recv C.hK hP hrc hr, fun U hU hW => ⟨rfl, by rw [hU], by rw [hU]; exact hP, va_K.moved hW.alike C.hK, hD.weaken (fun _ _ _ _ => trivial)⟩⟩ rfl rfl hl.1 rfl (lv_room hst) d hf) hS (fun q _ h => hFc q h) hFc (fun u t H1 locs1 ht hvm hw1 hB hz1 hk1 hS1 => ?_)
  obtain ⟨hP1, hK1, hD1⟩ := hB
  rw [ht] at hP1
  exact k H1 locs1 ls hP1 (hD1.weaken (fun _ q _ h => hFc q.1 h)) hS1 hl
theorem z_cSi0 (C : ZC p s m args meth c X A nL cc own Ts ret) {y : MethodName}  {bytes : ByteArray} {ry : Option FieldType} {wsY ws9 : List Cond} {fr lo mc ms maxL index : Nat} {As rest : List Value} {r : Int32} (hM : CI l y wsY fr lo mc ms X [] As r []) (g : GoodIn Ts (va_wsS own index y wsY)) (hw : wsY = Cond.code y bytes maxL ry :: ws9) (hd : y.cls ≠ "java/lang/invoke/MethodHandle" ∧ y.cls ≠ "java/lang/invoke/VarHandle" ∧ (parseMethodDescriptor y.desc).map (fun d => d.parameters.length) = some As.length) (hR : fr + 1 ≤ R.frames ∧ 8 + (maxL + 11) + lo ≤ R.locals) (hf : cells + mc ≤ R.cells ∧ slots + ms ≤ R.slots)  (hst : (rest.map fun v => v.category).sum ≤ 8) (d : decode cc pc = .ok (.invokestatic index, 3)) (hs : st = As.reverse ++ rest) (k : Z p l e R s m args below meth c X A nL Q (cells + mc) (slots + ms) ws lv (pc + 3) (.int r :: rest)) : Z p l e R s m args below meth c X A nL Q cells slots ws lv pc st := by
  intro H locs ls hP hD hS hl
  subst hs
  have hPc : va_P X.1 vwCl [] H := fun k q h => by simp at h
  have hDc : va_D (fun _ => True) [] := ⟨fun i j p q h => by simp at h, fun k q h => by simp at h⟩
  have hA9 : ∀ q, va_A [] H.size q → H.size ≤ q := fun q h => by
    rcases h with ⟨k9, e9, h⟩ | h
    · simp at h
    · exact h
  have hFc : ∀ q, va_A [] H.size q → A q := fun q h => C.hA q (Nat.le_trans hS.1 (hA9 q h))
  refine va_calli (va_runS (As := As) (rest := rest) ⟨C.ex, C.cb, C.ml, C.ow, C.ts⟩ (hM H.size) (va_cwS As.length C.ts g hw rfl rfl hd hR) ⟨zPre_blind X [] H.size As, fun U hU hW => ⟨rfl, by rw [hU], by rw [hU]; exact hPc, va_K.moved hW.alike C.hK, hDc⟩⟩ rfl rfl hl.1 rfl (lv_room hst) d hf) hS (fun q _ h => hFc q h) hFc (fun r9 u t H1 locs1 ht hvm hw1 hB hz1 hk1 hS1 => ?_)
  have hP1 : va_P X.1 vwCl ws H1 := hP.kept (fun k9 q9 h9 => hk1 q9.1 ((hP k9 q9 h9).lt) (fun z => absurd (hA9 _ z) (Nat.not_le.mpr ((hP k9 q9 h9).lt))))
  subst hw1
  exact k H1 locs1 ls hP1 hD hS1 hl
theorem z_cSl0 (C : ZC p s m args meth c X A nL cc own Ts ret) {y : MethodName}  {bytes : ByteArray} {ry : Option FieldType} {wsY ws9 : List Cond} {fr lo mc ms maxL index : Nat} {As rest : List Value} {r : Int64} (hM : CL l y wsY fr lo mc ms X [] As r []) (g : GoodIn Ts (va_wsS own index y wsY)) (hw : wsY = Cond.code y bytes maxL ry :: ws9) (hd : y.cls ≠ "java/lang/invoke/MethodHandle" ∧ y.cls ≠ "java/lang/invoke/VarHandle" ∧ (parseMethodDescriptor y.desc).map (fun d => d.parameters.length) = some As.length) (hR : fr + 1 ≤ R.frames ∧ 8 + (maxL + 11) + lo ≤ R.locals) (hf : cells + mc ≤ R.cells ∧ slots + ms ≤ R.slots)  (hst : (rest.map fun v => v.category).sum ≤ 8) (d : decode cc pc = .ok (.invokestatic index, 3)) (hs : st = As.reverse ++ rest) (k : Z p l e R s m args below meth c X A nL Q (cells + mc) (slots + ms) ws lv (pc + 3) (.long r :: rest)) : Z p l e R s m args below meth c X A nL Q cells slots ws lv pc st := by
  intro H locs ls hP hD hS hl
  subst hs
  have hPc : va_P X.1 vwCl [] H := fun k q h => by simp at h
  have hDc : va_D (fun _ => True) [] := ⟨fun i j p q h => by simp at h, fun k q h => by simp at h⟩
  have hA9 : ∀ q, va_A [] H.size q → H.size ≤ q := fun q h => by
    rcases h with ⟨k9, e9, h⟩ | h
    · simp at h
    · exact h
  have hFc : ∀ q, va_A [] H.size q → A q := fun q h => C.hA q (Nat.le_trans hS.1 (hA9 q h))
  refine va_calll (va_runS (As := As) (rest := rest) ⟨C.ex, C.cb, C.ml, C.ow, C.ts⟩ (hM H.size) (va_cwS As.length C.ts g hw rfl rfl hd hR) ⟨zPre_blind X [] H.size As, fun U hU hW => ⟨rfl, by rw [hU], by rw [hU]; exact hPc, va_K.moved hW.alike C.hK, hDc⟩⟩ rfl rfl hl.1 rfl (lv_room hst) d hf) hS (fun q _ h => hFc q h) hFc (fun r9 u t H1 locs1 ht hvm hw1 hB hz1 hk1 hS1 => ?_)
  have hP1 : va_P X.1 vwCl ws H1 := hP.kept (fun k9 q9 h9 => hk1 q9.1 ((hP k9 q9 h9).lt) (fun z => absurd (hA9 _ z) (Nat.not_le.mpr ((hP k9 q9 h9).lt))))
  subst hw1
  exact k H1 locs1 ls hP1 hD hS1 hl
theorem z_cSv0 (C : ZC p s m args meth c X A nL cc own Ts ret) {y : MethodName}  {bytes : ByteArray} {ry : Option FieldType} {wsY ws9 : List Cond} {fr lo mc ms maxL index : Nat} {As rest : List Value}  (hM : CV l y wsY fr lo mc ms X [] As []) (g : GoodIn Ts (va_wsS own index y wsY)) (hw : wsY = Cond.code y bytes maxL ry :: ws9) (hd : y.cls ≠ "java/lang/invoke/MethodHandle" ∧ y.cls ≠ "java/lang/invoke/VarHandle" ∧ (parseMethodDescriptor y.desc).map (fun d => d.parameters.length) = some As.length) (hR : fr + 1 ≤ R.frames ∧ 8 + (maxL + 11) + lo ≤ R.locals) (hf : cells + mc ≤ R.cells ∧ slots + ms ≤ R.slots)  (hst : (rest.map fun v => v.category).sum ≤ 8) (d : decode cc pc = .ok (.invokestatic index, 3)) (hs : st = As.reverse ++ rest) (k : Z p l e R s m args below meth c X A nL Q (cells + mc) (slots + ms) ws lv (pc + 3) rest) : Z p l e R s m args below meth c X A nL Q cells slots ws lv pc st := by
  intro H locs ls hP hD hS hl
  subst hs
  have hPc : va_P X.1 vwCl [] H := fun k q h => by simp at h
  have hDc : va_D (fun _ => True) [] := ⟨fun i j p q h => by simp at h, fun k q h => by simp at h⟩
  have hA9 : ∀ q, va_A [] H.size q → H.size ≤ q := fun q h => by
    rcases h with ⟨k9, e9, h⟩ | h
    · simp at h
    · exact h
  have hFc : ∀ q, va_A [] H.size q → A q := fun q h => C.hA q (Nat.le_trans hS.1 (hA9 q h))
  refine va_callv (va_runS (As := As) (rest := rest) ⟨C.ex, C.cb, C.ml, C.ow, C.ts⟩ (hM H.size) (va_cwS As.length C.ts g hw rfl rfl hd hR) ⟨zPre_blind X [] H.size As, fun U hU hW => ⟨rfl, by rw [hU], by rw [hU]; exact hPc, va_K.moved hW.alike C.hK, hDc⟩⟩ rfl rfl hl.1 rfl (lv_room hst) d hf) hS (fun q _ h => hFc q h) hFc (fun u t H1 locs1 ht hvm hw1 hB hz1 hk1 hS1 => ?_)
  have hP1 : va_P X.1 vwCl ws H1 := hP.kept (fun k9 q9 h9 => hk1 q9.1 ((hP k9 q9 h9).lt) (fun z => absurd (hA9 _ z) (Nat.not_le.mpr ((hP k9 q9 h9).lt))))
  exact k H1 locs1 ls hP1 hD hS1 hl
end ZM
def jn {α β : Type} (x : α) (f : α → β) : β := f x
theorem jn_at {α β : Type} {x v : α} {f : α → β} (h : v = x) : jn x f = f v := by
  subst h
  rfl
end
section
/-! the worlds: the cells of each object, by what they hold: a part g is rows by number; row 10 (6, 2) holds the numbers of the object -/
abbrev zG : Type := Nat → Nat → Int32
def CW (a : Nat → Nat) (X : zX) (fI : Nat → Int32) (fU : Nat → Int32) : va_W := [(a 1, .inr (1, [.ref (a 11), .ref (a 12)])), (a 11, .inl (X.2.1, 12, .inl fI)), (a 12, .inl (X.2.1, 732, .inl fU))]
def LW (a : Nat → Nat) (X : zX) (g : zG) : va_W := [(a 0, .inr (3, [.int (g 10 0), .int (g 10 1), .int (g 10 2), .int (g 10 3), .int (g 10 4), .ref (a 1), .ref (a 2), .ref (a 3), .ref (a 4), .ref (a 5), .ref (a 6), .ref (a 7), .ref (a 8), .ref (a 9), .ref (a 10), .int (g 10 5)])), (a 1, .inr (1, [.ref (a 11), .ref (a 12)])), (a 2, .inr (4, [.int (g 11 0), .int (g 11 1), .int (g 11 2), .int (g 11 3), .int (g 11 4)])), (a 3, .inl (X.2.1, 12, .inl (g 0))), (a 4, .inl (X.2.1, 12, .inl (g 1))), (a 5, .inl (X.2.1, 12, .inl (g 2))), (a 6, .inl (X.2.1, 12, .inl (g 3))), (a 7, .inl (X.2.1, 12, .inl (g 4))), (a 8, .inl (X.2.1, 12, .inl (g 5))), (a 9, .inl (X.2.1, 11, .inl (g 6))), (a 10, .inl (X.2.1, 12, .inl (g 7))), (a 11, .inl (X.2.1, 12, .inl (g 8))), (a 12, .inl (X.2.1, 732, .inl (g 9)))]
def AW (a : Nat → Nat) (X : zX) (g : zG) : va_W := [(a 0, .inr (0, [.ref (a 1), .ref (a 2), .ref (a 3), .ref (a 4), .ref (a 5), .ref (a 6), .int (g 6 0)])), (a 1, .inl (X.2.2.1, 61, .inl (g 0))), (a 2, .inl (X.2.1, 61, .inl (g 1))), (a 3, .inl (X.2.1, 61, .inl (g 2))), (a 4, .inl (X.2.1, 720, .inl (g 3))), (a 5, .inl (X.2.1, 720, .inl (g 4))), (a 6, .inl (X.2.1, 720, .inl (g 5)))]
def FW (a : Nat → Nat) (X : zX) (g : zG) : va_W := [(a 0, .inr (2, [.ref (a 1), .ref (a 2), .int (g 2 0)])), (a 1, .inl (X.2.1, 10, .inl (g 0))), (a 2, .inl (X.2.1, 10, .inl (g 1)))]
def IW (h : Nat → Nat) (a : Nat → Nat) (b : Nat → Nat) (c : Nat → Nat) (d : Nat → Nat) (X : zX) (gP : zG) (gT : zG) (gA : zG) (gF : zG) : va_W := [(h 0, .inr (5, [.ref (a 0), .ref (b 0), .ref (c 0), .ref (d 0)])), (a 0, .inr (3, [.int (gP 10 0), .int (gP 10 1), .int (gP 10 2), .int (gP 10 3), .int (gP 10 4), .ref (a 1), .ref (a 2), .ref (a 3), .ref (a 4), .ref (a 5), .ref (a 6), .ref (a 7), .ref (a 8), .ref (a 9), .ref (a 10), .int (gP 10 5)])), (a 1, .inr (1, [.ref (a 11), .ref (a 12)])), (a 2, .inr (4, [.int (gP 11 0), .int (gP 11 1), .int (gP 11 2), .int (gP 11 3), .int (gP 11 4)])), (a 3, .inl (X.2.1, 12, .inl (gP 0))), (a 4, .inl (X.2.1, 12, .inl (gP 1))), (a 5, .inl (X.2.1, 12, .inl (gP 2))), (a 6, .inl (X.2.1, 12, .inl (gP 3))), (a 7, .inl (X.2.1, 12, .inl (gP 4))), (a 8, .inl (X.2.1, 12, .inl (gP 5))), (a 9, .inl (X.2.1, 11, .inl (gP 6))), (a 10, .inl (X.2.1, 12, .inl (gP 7))), (a 11, .inl (X.2.1, 12, .inl (gP 8))), (a 12, .inl (X.2.1, 732, .inl (gP 9))), (b 0, .inr (3, [.int (gT 10 0), .int (gT 10 1), .int (gT 10 2), .int (gT 10 3), .int (gT 10 4), .ref (b 1), .ref (b 2), .ref (b 3), .ref (b 4), .ref (b 5), .ref (b 6), .ref (b 7), .ref (b 8), .ref (b 9), .ref (b 10), .int (gT 10 5)])), (b 1, .inr (1, [.ref (b 11), .ref (b 12)])), (b 2, .inr (4, [.int (gT 11 0), .int (gT 11 1), .int (gT 11 2), .int (gT 11 3), .int (gT 11 4)])), (b 3, .inl (X.2.1, 12, .inl (gT 0))), (b 4, .inl (X.2.1, 12, .inl (gT 1))), (b 5, .inl (X.2.1, 12, .inl (gT 2))), (b 6, .inl (X.2.1, 12, .inl (gT 3))), (b 7, .inl (X.2.1, 12, .inl (gT 4))), (b 8, .inl (X.2.1, 12, .inl (gT 5))), (b 9, .inl (X.2.1, 11, .inl (gT 6))), (b 10, .inl (X.2.1, 12, .inl (gT 7))), (b 11, .inl (X.2.1, 12, .inl (gT 8))), (b 12, .inl (X.2.1, 732, .inl (gT 9))), (c 0, .inr (0, [.ref (c 1), .ref (c 2), .ref (c 3), .ref (c 4), .ref (c 5), .ref (c 6), .int (gA 6 0)])), (c 1, .inl (X.2.2.1, 61, .inl (gA 0))), (c 2, .inl (X.2.1, 61, .inl (gA 1))), (c 3, .inl (X.2.1, 61, .inl (gA 2))), (c 4, .inl (X.2.1, 720, .inl (gA 3))), (c 5, .inl (X.2.1, 720, .inl (gA 4))), (c 6, .inl (X.2.1, 720, .inl (gA 5))), (d 0, .inr (2, [.ref (d 1), .ref (d 2), .int (gF 2 0)])), (d 1, .inl (X.2.1, 10, .inl (gF 0))), (d 2, .inl (X.2.1, 10, .inl (gF 1)))]
def MW (a : Nat → Nat) (X : zX) (g : zG) : va_W := [(a 0, .inr (6, [.int (g 10 0), .int (g 10 1), .int (g 10 2), .int (g 10 3), .int (g 10 4), .ref (a 1), .ref (a 2), .ref (a 3), .ref (a 4), .ref (a 5), .ref (a 6), .int (g 10 5), .ref (a 7), .ref (a 8), .ref (a 9), .ref (a 10)])), (a 1, .inl (X.2.1, 1024, .inl (g 0))), (a 2, .inl (X.2.1, 1024, .inl (g 1))), (a 3, .inl (X.2.2.1, 61, .inl (g 2))), (a 4, .inl (X.2.1, 720, .inl (g 3))), (a 5, .inl (X.2.1, 720, .inl (g 4))), (a 6, .inl (X.2.1, 720, .inl (g 5))), (a 7, .inl (X.2.1, 10, .inl (g 6))), (a 8, .inl (X.2.1, 10, .inl (g 7))), (a 9, .inl (X.2.1, 10, .inl (g 8))), (a 10, .inl (X.2.1, 11, .inl (g 9)))]
def NW (b : Nat → Nat) (a : Nat → Nat) (X : zX) (gA : zG) (g : zG) : va_W := [(b 0, .inr (0, [.ref (b 1), .ref (b 2), .ref (b 3), .ref (b 4), .ref (b 5), .ref (b 6), .int (gA 6 0)])), (b 1, .inl (X.2.2.1, 61, .inl (gA 0))), (b 2, .inl (X.2.1, 61, .inl (gA 1))), (b 3, .inl (X.2.1, 61, .inl (gA 2))), (b 4, .inl (X.2.1, 720, .inl (gA 3))), (b 5, .inl (X.2.1, 720, .inl (gA 4))), (b 6, .inl (X.2.1, 720, .inl (gA 5))), (a 0, .inr (3, [.int (g 10 0), .int (g 10 1), .int (g 10 2), .int (g 10 3), .int (g 10 4), .ref (a 1), .ref (a 2), .ref (a 3), .ref (a 4), .ref (a 5), .ref (a 6), .ref (a 7), .ref (a 8), .ref (a 9), .ref (a 10), .int (g 10 5)])), (a 1, .inr (1, [.ref (a 11), .ref (a 12)])), (a 2, .inr (4, [.int (g 11 0), .int (g 11 1), .int (g 11 2), .int (g 11 3), .int (g 11 4)])), (a 3, .inl (X.2.1, 12, .inl (g 0))), (a 4, .inl (X.2.1, 12, .inl (g 1))), (a 5, .inl (X.2.1, 12, .inl (g 2))), (a 6, .inl (X.2.1, 12, .inl (g 3))), (a 7, .inl (X.2.1, 12, .inl (g 4))), (a 8, .inl (X.2.1, 12, .inl (g 5))), (a 9, .inl (X.2.1, 11, .inl (g 6))), (a 10, .inl (X.2.1, 12, .inl (g 7))), (a 11, .inl (X.2.1, 12, .inl (g 8))), (a 12, .inl (X.2.1, 732, .inl (g 9)))]
def L2 (a : Nat → Nat) (b : Nat → Nat) (X : zX) (g : zG) (gO : zG) : va_W := [(a 0, .inr (3, [.int (g 10 0), .int (g 10 1), .int (g 10 2), .int (g 10 3), .int (g 10 4), .ref (a 1), .ref (a 2), .ref (a 3), .ref (a 4), .ref (a 5), .ref (a 6), .ref (a 7), .ref (a 8), .ref (a 9), .ref (a 10), .int (g 10 5)])), (a 1, .inr (1, [.ref (a 11), .ref (a 12)])), (a 2, .inr (4, [.int (g 11 0), .int (g 11 1), .int (g 11 2), .int (g 11 3), .int (g 11 4)])), (a 3, .inl (X.2.1, 12, .inl (g 0))), (a 4, .inl (X.2.1, 12, .inl (g 1))), (a 5, .inl (X.2.1, 12, .inl (g 2))), (a 6, .inl (X.2.1, 12, .inl (g 3))), (a 7, .inl (X.2.1, 12, .inl (g 4))), (a 8, .inl (X.2.1, 12, .inl (g 5))), (a 9, .inl (X.2.1, 11, .inl (g 6))), (a 10, .inl (X.2.1, 12, .inl (g 7))), (a 11, .inl (X.2.1, 12, .inl (g 8))), (a 12, .inl (X.2.1, 732, .inl (g 9))), (b 0, .inr (3, [.int (gO 10 0), .int (gO 10 1), .int (gO 10 2), .int (gO 10 3), .int (gO 10 4), .ref (b 1), .ref (b 2), .ref (b 3), .ref (b 4), .ref (b 5), .ref (b 6), .ref (b 7), .ref (b 8), .ref (b 9), .ref (b 10), .int (gO 10 5)])), (b 1, .inr (1, [.ref (b 11), .ref (b 12)])), (b 2, .inr (4, [.int (gO 11 0), .int (gO 11 1), .int (gO 11 2), .int (gO 11 3), .int (gO 11 4)])), (b 3, .inl (X.2.1, 12, .inl (gO 0))), (b 4, .inl (X.2.1, 12, .inl (gO 1))), (b 5, .inl (X.2.1, 12, .inl (gO 2))), (b 6, .inl (X.2.1, 12, .inl (gO 3))), (b 7, .inl (X.2.1, 12, .inl (gO 4))), (b 8, .inl (X.2.1, 12, .inl (gO 5))), (b 9, .inl (X.2.1, 11, .inl (gO 6))), (b 10, .inl (X.2.1, 12, .inl (gO 7))), (b 11, .inl (X.2.1, 12, .inl (gO 8))), (b 12, .inl (X.2.1, 732, .inl (gO 9)))]
def C2 (a : Nat → Nat) (b : Nat → Nat) (X : zX) (fI : Nat → Int32) (fU : Nat → Int32) (hI : Nat → Int32) (hU : Nat → Int32) : va_W := [(a 1, .inr (1, [.ref (a 11), .ref (a 12)])), (a 11, .inl (X.2.1, 12, .inl fI)), (a 12, .inl (X.2.1, 732, .inl fU)), (b 1, .inr (1, [.ref (b 11), .ref (b 12)])), (b 11, .inl (X.2.1, 12, .inl hI)), (b 12, .inl (X.2.1, 732, .inl hU))]
end
section
/-! plain facts on numbers and arrays, to paste: each family by itself; over the kit's rows on nI and upd -/
/-! ===== order of ints, in all its forms, and through longs ===== -/
theorem fa_lt (a b : Int32) : a < b ↔ a.toInt < b.toInt := Int32.lt_iff_toInt_lt
theorem fa_le (a b : Int32) : a ≤ b ↔ a.toInt ≤ b.toInt := Int32.le_iff_toInt_le
theorem fa_eq (a b : Int32) : a = b ↔ a.toInt = b.toInt := Int32.toInt_inj.symm
theorem fa_lt64 (a b : Int64) : a < b ↔ a.toInt < b.toInt := Int64.lt_iff_toInt_lt
theorem fa_le64 (a b : Int64) : a ≤ b ↔ a.toInt ≤ b.toInt := Int64.le_iff_toInt_le
theorem fa_eq64 (a b : Int64) : a = b ↔ a.toInt = b.toInt := Int64.toInt_inj.symm
/-- a comparison of two ints taken as longs -/
theorem fa_wide_lt (a b : Int32) : a.toInt64 < b.toInt64 ↔ a < b := by rw [fa_lt64, fa_lt, Int32.toInt_toInt64, Int32.toInt_toInt64]
theorem fa_wide_le (a b : Int32) : a.toInt64 ≤ b.toInt64 ↔ a ≤ b := by rw [fa_le64, fa_le, Int32.toInt_toInt64, Int32.toInt_toInt64]
theorem fa_wide_eq (a b : Int32) : a.toInt64 = b.toInt64 ↔ a = b := by rw [fa_eq64, fa_eq, Int32.toInt_toInt64, Int32.toInt_toInt64]
/-- one strict comparison gives all the others -/
theorem fa_of_lt {a b : Int32} (h : a < b) : a ≤ b ∧ ¬ b ≤ a ∧ ¬ b < a ∧ a ≠ b ∧ b ≠ a := by
  rw [fa_lt] at h
  refine ⟨?_, ?_, ?_, ?_, ?_⟩
  · rw [fa_le]; omega
  · rw [fa_le]; omega
  · rw [fa_lt]; omega
  · intro e; rw [fa_eq] at e; omega
  · intro e; rw [fa_eq] at e; omega
theorem fa_of_nlt {a b : Int32} (h : ¬ a < b) : b ≤ a := by
  rw [fa_lt] at h
  rw [fa_le]
  omega
theorem fa_of_nle {a b : Int32} (h : ¬ a ≤ b) : b < a := by
  rw [fa_le] at h
  rw [fa_lt]
  omega
theorem fa_le_ne {a b : Int32} (h : a ≤ b) (h2 : a ≠ b) : a < b := by
  rw [fa_le] at h
  rw [fa_lt]
  have h3 : a.toInt ≠ b.toInt := fun e => h2 ((fa_eq a b).mpr e)
  omega
theorem fa_three (a b : Int32) : a < b ∨ a = b ∨ b < a := by
  rw [fa_lt, fa_lt, fa_eq]
  omega
theorem fa_trans {a b c : Int32} (h : a < b) (h2 : b ≤ c) : a < c := by
  rw [fa_lt] at *
  rw [fa_le] at h2
  omega
/-! ===== small literals as numbers ===== -/
theorem fa_lit (n : Nat) : (OfNat.ofNat n : Int32) = nI n := rfl
theorem fa_litL (n : Nat) : (OfNat.ofNat n : Int64) = lN n := rfl
/-! ===== bits of a number: 'or', masks, one bit ===== -/
theorem fa_and (a b : Nat) : nI a &&& nI b = nI (a &&& b) := by
  apply Int32.toBitVec_inj.1
  show BitVec.ofNat 32 a &&& BitVec.ofNat 32 b = BitVec.ofNat 32 (a &&& b)
  apply BitVec.eq_of_getLsbD_eq
  intro i hi
  simp [hi]
theorem fa_or (a b : Nat) : nI a ||| nI b = nI (a ||| b) := by
  apply Int32.toBitVec_inj.1
  show BitVec.ofNat 32 a ||| BitVec.ofNat 32 b = BitVec.ofNat 32 (a ||| b)
  apply BitVec.eq_of_getLsbD_eq
  intro i hi
  simp [hi]
/-- a remainder by a power of two, as a mask -/
theorem fa_mask (n k : Nat) : nI n &&& nI (2 ^ k - 1) = nI (n % 2 ^ k) := by rw [fa_and, Nat.and_two_pow_sub_one_eq_mod]
/-- 'or' of a high part and a low one that don't meet is their sum -/
theorem fa_or_sum {a k : Nat} (b : Nat) (h : a < 2 ^ k) : nI (2 ^ k * b) ||| nI a = nI (2 ^ k * b + a) := by rw [fa_or, Nat.two_pow_add_eq_or_of_lt h]
/-- one bit, by 'and' with a power of two -/
theorem fa_bit {n j : Nat} (hj : j < 31) : nI n &&& nI (2 ^ j) = 0 ↔ n.testBit j = false := by
  have h2 : (2 : Nat) ^ j < 2 ^ 31 := Nat.pow_lt_pow_right (by decide) hj
  have hle : n &&& 2 ^ j ≤ 2 ^ j := Nat.and_le_right
  have e : n &&& 2 ^ j = 0 ↔ n.testBit j = false := by
    constructor
    · intro h
      have h1 : (n &&& 2 ^ j).testBit j = false := by rw [h]; simp
      rw [Nat.testBit_and] at h1
      first | simpa using h1 | simpa [Nat.testBit_two_pow_self] using h1 | simpa [Nat.testBit_two_pow] using h1
    · intro h
      apply Nat.eq_of_testBit_eq
      intro i
      rw [Nat.testBit_and]
      by_cases hi : j = i
      · subst hi; simp [h]
      · first | (simp [Nat.testBit_two_pow, hi]; done) | (simp [Nat.testBit_two_pow_of_ne hi]; done)
  rw [fa_and]
  constructor
  · intro h
    apply e.mp
    rcases Nat.eq_zero_or_pos (n &&& 2 ^ j) with z | z
    · exact z
    · exact absurd h (nI_ne0 z (Nat.lt_of_le_of_lt hle h2))
  · intro h
    rw [e.mpr h]; exact nI_0
/-- a remainder by a power of two of a number that isn't negative, as Java divides -/
theorem fa_rem {a k : Nat} (ha : a < 2 ^ 31) (hk : k < 31) : nI a - nI a / nI (2 ^ k) * nI (2 ^ k) = nI (a % 2 ^ k) := pk_rem ha (Nat.two_pow_pos k) (Nat.pow_lt_pow_right (by decide) hk)
/-! ===== cuts to a byte, a short ===== -/
theorem fa_byte_xor (x y : Int32) : (x ^^^ y).toInt8 = x.toInt8 ^^^ y.toInt8 := by
  apply Int8.toBitVec_inj.1
  apply BitVec.eq_of_getLsbD_eq
  intro i hi
  first | (simp [hi]; done) | (simp [hi, BitVec.getLsbD_setWidth, BitVec.getLsbD_signExtend]; done)
theorem fa_short_xor (x y : Int32) : (x ^^^ y).toInt16 = x.toInt16 ^^^ y.toInt16 := by
  apply Int16.toBitVec_inj.1
  apply BitVec.eq_of_getLsbD_eq
  intro i hi
  first | (simp [hi]; done) | (simp [hi, BitVec.getLsbD_setWidth, BitVec.getLsbD_signExtend]; done)
/-- the cut to a byte sees the low byte alone -/
theorem fa_byte_low (x : Int32) : (x &&& 255).toInt8 = x.toInt8 := by
  apply Int8.toBitVec_inj.1
  apply BitVec.eq_of_getLsbD_eq
  intro i hi
  have h2 : (255 : Int32).toBitVec.getLsbD i = true := by
    have : ∀ j : Fin 8, (255 : Int32).toBitVec.getLsbD j.val = true := by decide +kernel
    exact this ⟨i, hi⟩
  have h4 : (x &&& 255).toBitVec.getLsbD i = x.toBitVec.getLsbD i := by
    show (x.toBitVec &&& (255 : Int32).toBitVec).getLsbD i = _
    rw [BitVec.getLsbD_and, h2, Bool.and_true]
  have h3 : i < 32 := by omega
  first
    | (show (((x &&& 255).toBitVec).signExtend 8).getLsbD i = (x.toBitVec.signExtend 8).getLsbD i; rw [BitVec.getLsbD_signExtend, BitVec.getLsbD_signExtend, if_pos h3, if_pos h3, h4])
    | (show (((x &&& 255).toBitVec).setWidth 8).getLsbD i = (x.toBitVec.setWidth 8).getLsbD i; rw [BitVec.getLsbD_setWidth, BitVec.getLsbD_setWidth, h4])
    | (simp [hi, h3, h4]; done)
theorem fa_short_low (x : Int32) : (x &&& 65535).toInt16 = x.toInt16 := by
  apply Int16.toBitVec_inj.1
  apply BitVec.eq_of_getLsbD_eq
  intro i hi
  have h2 : (65535 : Int32).toBitVec.getLsbD i = true := by
    have : ∀ j : Fin 16, (65535 : Int32).toBitVec.getLsbD j.val = true := by decide +kernel
    exact this ⟨i, hi⟩
  have h4 : (x &&& 65535).toBitVec.getLsbD i = x.toBitVec.getLsbD i := by
    show (x.toBitVec &&& (65535 : Int32).toBitVec).getLsbD i = _
    rw [BitVec.getLsbD_and, h2, Bool.and_true]
  have h3 : i < 32 := by omega
  first
    | (show (((x &&& 65535).toBitVec).signExtend 16).getLsbD i = (x.toBitVec.signExtend 16).getLsbD i; rw [BitVec.getLsbD_signExtend, BitVec.getLsbD_signExtend, if_pos h3, if_pos h3, h4])
    | (show (((x &&& 65535).toBitVec).setWidth 16).getLsbD i = (x.toBitVec.setWidth 16).getLsbD i; rw [BitVec.getLsbD_setWidth, BitVec.getLsbD_setWidth, h4])
    | (simp [hi, h3, h4]; done)
/-- a small number is its own byte, its own short -/
theorem fa_byte_small {n : Nat} (h : n < 128) : (nI n).toInt8.toInt32 = nI n := by
  have : ∀ j : Fin 128, (nI j.val).toInt8.toInt32 = nI j.val := by decide +kernel
  exact this ⟨n, h⟩
/-! ===== absolute difference ===== -/
theorem fa_absdiff {a b : Nat} (ha : a < 2 ^ 31) (hb : b < 2 ^ 31) : (if nI a < nI b then nI b - nI a else nI a - nI b) = nI (if a < b then b - a else a - b) := by
  by_cases h : a < b
  · rw [if_pos (nI_lt h hb), if_pos h]
    exact pk_sub (Nat.le_of_lt h)
  · rw [if_neg (nI_nlt (Nat.le_of_not_lt h) ha), if_neg h]
    exact pk_sub (Nat.le_of_not_lt h)
/-! ===== an array behind i stores, a conditional store, a row copied ===== -/
/-- f where k < i, what stood there else -/
def fa_fill {α : Type} (f g : Nat → α) (i : Nat) : Nat → α := fun k => if k < i then f k else g k
theorem fa_fill_0 {α : Type} (f g : Nat → α) : fa_fill f g 0 = g := funext fun k => if_neg (Nat.not_lt_zero k)
theorem fa_fill_in {α : Type} {f g : Nat → α} {i k : Nat} (h : k < i) : fa_fill f g i k = f k := if_pos h
theorem fa_fill_out {α : Type} {f g : Nat → α} {i k : Nat} (h : i ≤ k) : fa_fill f g i k = g k := if_neg (Nat.not_lt.mpr h)
theorem fa_fill_succ (f g : Nat → Int32) (i : Nat) : upd (fa_fill f g i) i (f i) = fa_fill f g (i + 1) := by
  funext k
  by_cases e : k = i
  · subst e
    rw [pk_us]
    exact (if_pos (Nat.lt_succ_self k)).symm
  · rw [pk_un e]
    by_cases h : k < i
    · rw [fa_fill_in h, fa_fill_in (Nat.lt_succ_of_lt h)]
    · rw [fa_fill_out (Nat.le_of_not_lt h), fa_fill_out (by omega)]
/-- a store that changes nothing -/
theorem fa_upd_same {f : Nat → Int32} {i : Nat} {x : Int32} (h : f i = x) : upd f i x = f := by
  funext k
  by_cases e : k = i
  · subst e
    rw [pk_us, h]
  · rw [pk_un e]
/-- a store under a condition, told as one -/
theorem fa_upd_if (c : Prop) [Decidable c] (f : Nat → Int32) (i : Nat) (x : Int32) : (if c then upd f i x else f) = upd f i (if c then x else f i) := by
  by_cases h : c
  · rw [if_pos h, if_pos h]
  · rw [if_neg h, if_neg h, fa_upd_same rfl]
/-- two stores at one place, at two -/
theorem fa_upd_twice (f : Nat → Int32) (i : Nat) (x y : Int32) : upd (upd f i x) i y = upd f i y := by
  funext k
  by_cases e : k = i
  · subst e
    rw [pk_us, pk_us]
  · rw [pk_un e, pk_un e, pk_un e]
theorem fa_upd_swap (f : Nat → Int32) {i j : Nat} (h : i ≠ j) (x y : Int32) : upd (upd f i x) j y = upd (upd f j y) i x := by
  funext k
  by_cases e : k = i
  · subst e
    rw [pk_un h, pk_us, pk_us]
  · by_cases e2 : k = j
    · subst e2
      rw [pk_us, pk_un e, pk_us]
    · rw [pk_un e2, pk_un e, pk_un e, pk_un e2]
/-! ===== the first index with a property; a count ===== -/
/-- the first k < n with p k, n if there is none -/
def fa_first (p : Nat → Bool) : Nat → Nat
  | 0 => 0
  | n + 1 => if fa_first p n < n then fa_first p n else if p n then n else n + 1
theorem fa_first_le (p : Nat → Bool) : ∀ n, fa_first p n ≤ n
  | 0 => Nat.le_refl 0
  | n + 1 => by
    have ih := fa_first_le p n
    unfold fa_first
    split
    · omega
    · split
      · omega
      · omega
theorem fa_first_no (p : Nat → Bool) : ∀ n k, k < fa_first p n → p k = false
  | 0, k, h => absurd h (Nat.not_lt_zero k)
  | n + 1, k, h => by
    have ih := fa_first_no p n
    have hl := fa_first_le p n
    unfold fa_first at h
    split at h
    · exact ih k h
    · rename_i h1
      split at h
      · exact ih k (by omega)
      · rename_i h2
        by_cases e : k = n
        · subst e
          exact Bool.eq_false_iff.mpr h2
        · exact ih k (by omega)
theorem fa_first_yes (p : Nat → Bool) : ∀ n, fa_first p n < n → p (fa_first p n) = true
  | 0, h => absurd h (Nat.not_lt_zero _)
  | n + 1, h => by
    have ih := fa_first_yes p n
    have hl := fa_first_le p n
    unfold fa_first at h ⊢
    split at h
    · rename_i h1
      rw [if_pos h1]
      exact ih h1
    · rename_i h1
      rw [if_neg h1]
      split at h
      · rename_i h2
        rw [if_pos h2]
        exact h2
      · omega
/-- how many k < n have p k -/
def fa_cnt (p : Nat → Bool) : Nat → Nat
  | 0 => 0
  | n + 1 => fa_cnt p n + if p n then 1 else 0
theorem fa_cnt_le (p : Nat → Bool) : ∀ n, fa_cnt p n ≤ n
  | 0 => Nat.le_refl 0
  | n + 1 => by
    have ih := fa_cnt_le p n
    unfold fa_cnt
    split
    · omega
    · omega
theorem fa_cnt_yes {p : Nat → Bool} {n : Nat} (h : p n = true) : fa_cnt p (n + 1) = fa_cnt p n + 1 := by rw [fa_cnt, if_pos h]
theorem fa_cnt_no {p : Nat → Bool} {n : Nat} (h : p n = false) : fa_cnt p (n + 1) = fa_cnt p n := by rw [fa_cnt, if_neg (by rw [h]; decide)]; rfl
theorem fa_cnt_cong {p q : Nat → Bool} : ∀ {n : Nat}, (∀ k, k < n → p k = q k) → fa_cnt p n = fa_cnt q n
  | 0, _ => rfl
  | n + 1, h => by rw [fa_cnt, fa_cnt, fa_cnt_cong (fun k hk => h k (Nat.lt_succ_of_lt hk)), h n (Nat.lt_succ_self n)]
/-! ===== an answer carried into a post; a branch on a boolean answer ===== -/
theorem fa_post {α : Type} {P : α → Prop} {x y : α} (h : x = y) (hp : P y) : P x := h ▸ hp
theorem fa_post2 {α β : Type} {P : α → β → Prop} {x y : α} {u v : β} (h : x = y) (h2 : u = v) (hp : P y v) : P x u := h ▸ h2 ▸ hp
theorem fa_bool {r : Int32} {b : Bool} (h : r = if b then 1 else 0) : (r = 0 ↔ b = false) ∧ (¬ r = 0 ↔ b = true) := by
  subst h
  cases b
  · exact ⟨⟨fun _ => rfl, fun _ => rfl⟩, ⟨fun h => absurd rfl h, fun h => absurd h (by decide)⟩⟩
  · exact ⟨⟨fun h => absurd h (by decide), fun h => absurd h (by decide)⟩, ⟨fun _ => rfl, fun _ => by decide⟩⟩
/-- a boolean's narrowing changes nothing -/
theorem fa_bool_and {r : Int32} (h : r = 0 ∨ r = 1) : r &&& 1 = r := by
  rcases h with rfl | rfl
  · decide
  · decide
theorem fa_bool_prop {c : Prop} [Decidable c] {r : Int32} (h : r = if c then 1 else 0) : (r = 0 ↔ ¬ c) ∧ (¬ r = 0 ↔ c) := by
  subst h
  by_cases hc : c
  · rw [if_pos hc]
    exact ⟨⟨fun h => absurd h (by decide), fun h => absurd hc h⟩, ⟨fun _ => hc, fun _ => by decide⟩⟩
  · rw [if_neg hc]
    exact ⟨⟨fun _ => hc, fun _ => rfl⟩, ⟨fun h => absurd rfl h, fun h => absurd h hc⟩⟩
end
section
/-! plain facts to paste, each family by itself; over the kit's nI, lN and upd -/
/-! ===== drawers: more things than places ===== -/
theorem fb_holes : ∀ (m n : Nat) (f : Nat → Nat), (∀ i, i < n → f i < m) → (∀ i j, i < j → j < n → f i ≠ f j) → n ≤ m := by
  intro m
  induction m with
  | zero =>
    intro n f h1 _
    rcases Nat.eq_zero_or_pos n with h | h
    · omega
    · exact absurd (h1 0 h) (Nat.not_lt_zero _)
  | succ m ih =>
    intro n f h1 h2
    by_cases hx : ∃ i, i < n ∧ f i = m
    · obtain ⟨a, ha, hfa⟩ := hx
      have hg := ih (n - 1) (fun i => if i < a then f i else f (i + 1)) (by
        intro i hi
        by_cases q : i < a
        · simp only [if_pos q]
          have b1 := h1 i (by omega)
          have b2 := h2 i a q ha
          omega
        · simp only [if_neg q]
          have b1 := h1 (i + 1) (by omega)
          have b2 := h2 a (i + 1) (by omega) (by omega)
          omega) (by
        intro i j hij hj
        by_cases q : i < a
        · by_cases r : j < a
          · simp only [if_pos q, if_pos r]
            exact h2 i j hij (by omega)
          · simp only [if_pos q, if_neg r]
            exact h2 i (j + 1) (by omega) (by omega)
        · have r : ¬ j < a := by omega
          simp only [if_neg q, if_neg r]
          exact h2 (i + 1) (j + 1) (by omega) (by omega))
      omega
    · have hg := ih n f (fun i hi => by
        have b1 := h1 i hi
        have b2 : f i ≠ m := fun e => hx ⟨i, hi, e⟩
        omega) h2
      omega
/-- two of them in one place -/
theorem fb_twice {m n : Nat} {f : Nat → Nat} (h : ∀ i, i < n → f i < m) (hm : m < n) : ∃ i j, i < j ∧ j < n ∧ f i = f j := by
  refine Classical.byContradiction fun hx => ?_
  have := fb_holes m n f h (fun i j hij hj e => hx ⟨i, j, hij, hj, e⟩)
  omega
/-- as many as places, none twice: each place is taken -/
theorem fb_onto {n : Nat} {f : Nat → Nat} (h : ∀ i, i < n → f i < n) (h2 : ∀ i j, i < j → j < n → f i ≠ f j) {y : Nat} (hy : y < n) : ∃ i, i < n ∧ f i = y := by
  refine Classical.byContradiction fun hx => ?_
  have hne : ∀ i, i < n → f i ≠ y := fun i hi e => hx ⟨i, hi, e⟩
  have := fb_holes (n - 1) n (fun i => if f i < y then f i else f i - 1) (by
    intro i hi
    have b1 := h i hi
    have b2 := hne i hi
    by_cases q : f i < y
    · simp only [if_pos q]; omega
    · simp only [if_neg q]; omega) (by
    intro i j hij hj
    have b1 := hne i (by omega)
    have b2 := hne j hj
    have b3 := h2 i j hij hj
    by_cases q : f i < y
    · by_cases r : f j < y
      · simp only [if_pos q, if_pos r]; exact b3
      · simp only [if_pos q, if_neg r]; omega
    · by_cases r : f j < y
      · simp only [if_neg q, if_pos r]; omega
      · simp only [if_neg q, if_neg r]; omega)
  omega
/-! ===== how many places have a property ===== -/
def fb_ct (p : Nat → Bool) : Nat → Nat
  | 0 => 0
  | n + 1 => fb_ct p n + (if p n then 1 else 0)
theorem fb_ct_succ (p : Nat → Bool) (n : Nat) : fb_ct p (n + 1) = fb_ct p n + (if p n then 1 else 0) := rfl
theorem fb_ct_le (p : Nat → Bool) : ∀ n, fb_ct p n ≤ n
  | 0 => Nat.le_refl _
  | n + 1 => by
    have h := fb_ct_le p n
    rw [fb_ct_succ]
    split <;> omega
theorem fb_ct_step (p : Nat → Bool) (m : Nat) : ∀ n, fb_ct p m ≤ fb_ct p (m + n)
  | 0 => Nat.le_refl _
  | n + 1 => by
    have h := fb_ct_step p m n
    show fb_ct p m ≤ fb_ct p (m + n + 1)
    rw [fb_ct_succ]
    omega
theorem fb_ct_mono (p : Nat → Bool) {m n : Nat} (h : m ≤ n) : fb_ct p m ≤ fb_ct p n := by
  have := fb_ct_step p m (n - m)
  rwa [Nat.add_sub_cancel' h] at this
theorem fb_ct_cong {p q : Nat → Bool} : ∀ {n : Nat}, (∀ k, k < n → p k = q k) → fb_ct p n = fb_ct q n
  | 0, _ => rfl
  | n + 1, h => by
    rw [fb_ct_succ, fb_ct_succ, fb_ct_cong (fun k hk => h k (by omega)), h n (by omega)]
/-- one place changed -/
theorem fb_ct_out (p : Nat → Bool) (b : Bool) {i n : Nat} (h : n ≤ i) : fb_ct (fun k => if k = i then b else p k) n = fb_ct p n :=
  fb_ct_cong fun k hk => if_neg (by omega)
theorem fb_ct_upd (p : Nat → Bool) (b : Bool) {i : Nat} : ∀ {n : Nat}, i < n → fb_ct (fun k => if k = i then b else p k) n + (if p i then 1 else 0) = fb_ct p n + (if b then 1 else 0)
  | 0, h => absurd h (Nat.not_lt_zero i)
  | n + 1, h => by
    rw [fb_ct_succ, fb_ct_succ]
    rcases Nat.lt_or_ge i n with q | q
    · have := fb_ct_upd p b q
      have e : (if n = i then b else p n) = p n := if_neg (by omega)
      rw [e]
      omega
    · have e : i = n := by omega
      subst e
      rw [fb_ct_out p b (Nat.le_refl _)]
      simp only [if_true]
      omega
theorem fb_ct_sub {p q : Nat → Bool} : ∀ {n : Nat}, (∀ k, k < n → p k = true → q k = true) → fb_ct p n ≤ fb_ct q n
  | 0, _ => Nat.le_refl _
  | n + 1, h => by
    have h1 := fb_ct_sub (n := n) (p := p) (q := q) (fun k hk => h k (by omega))
    have h2 := h n (by omega)
    rw [fb_ct_succ, fb_ct_succ]
    cases hp : p n <;> cases hq : q n <;> simp_all <;> omega
theorem fb_ct_or {p q : Nat → Bool} : ∀ {n : Nat}, (∀ k, k < n → ¬ (p k = true ∧ q k = true)) → fb_ct (fun k => p k || q k) n = fb_ct p n + fb_ct q n
  | 0, _ => rfl
  | n + 1, h => by
    have h1 := fb_ct_or (n := n) (p := p) (q := q) (fun k hk => h k (by omega))
    have h2 := h n (by omega)
    rw [fb_ct_succ, fb_ct_succ, fb_ct_succ, h1]
    cases hp : p n <;> cases hq : q n <;> simp_all <;> omega
theorem fb_ct_not (p : Nat → Bool) : ∀ n, fb_ct p n + fb_ct (fun k => !p k) n = n
  | 0 => rfl
  | n + 1 => by
    have h := fb_ct_not p n
    rw [fb_ct_succ, fb_ct_succ]
    cases p n <;> simp <;> omega
theorem fb_ct_split (p : Nat → Bool) (m : Nat) : ∀ n, fb_ct p (m + n) = fb_ct p m + fb_ct (fun k => p (m + k)) n
  | 0 => rfl
  | n + 1 => by
    have h := fb_ct_split p m n
    show fb_ct p (m + n + 1) = _
    rw [fb_ct_succ, fb_ct_succ, h, Nat.add_assoc]
theorem fb_ct_zero {p : Nat → Bool} : ∀ {n : Nat}, fb_ct p n = 0 ↔ ∀ k, k < n → p k = false
  | 0 => ⟨fun _ k hk => absurd hk (Nat.not_lt_zero k), fun _ => rfl⟩
  | n + 1 => by
    have h := fb_ct_zero (p := p) (n := n)
    rw [fb_ct_succ]
    constructor
    · intro e k hk
      have e1 : fb_ct p n = 0 := by omega
      rcases Nat.lt_or_ge k n with q | q
      · exact h.mp e1 k q
      · have ek : k = n := by omega
        subst ek
        cases hp : p k
        · rfl
        · simp [hp] at e
    · intro a
      rw [h.mpr (fun k hk => a k (by omega)), a n (by omega)]
      rfl
theorem fb_ct_pos {p : Nat → Bool} {n : Nat} : 0 < fb_ct p n ↔ ∃ k, k < n ∧ p k = true := by
  constructor
  · intro h
    refine Classical.byContradiction fun hx => ?_
    have := fb_ct_zero.mpr (fun k hk => by
      cases hp : p k
      · rfl
      · exact absurd ⟨k, hk, hp⟩ hx : ∀ k, k < n → p k = false)
    omega
  · rintro ⟨k, hk, hp⟩
    rcases Nat.eq_zero_or_pos (fb_ct p n) with e | e
    · have := fb_ct_zero.mp e k hk
      rw [this] at hp
      cases hp
    · exact e
theorem fb_ct_all {p : Nat → Bool} {n : Nat} : fb_ct p n = n ↔ ∀ k, k < n → p k = true := by
  have h := fb_ct_not p n
  constructor
  · intro e k hk
    have z : fb_ct (fun k => !p k) n = 0 := by omega
    have := fb_ct_zero.mp z k hk
    cases hp : p k
    · simp [hp] at this
    · rfl
  · intro a
    have z : fb_ct (fun k => !p k) n = 0 := fb_ct_zero.mpr (fun k hk => by simp [a k hk])
    omega
/-- the k-th place with the property -/
theorem fb_ct_kth {p : Nat → Bool} {k : Nat} : ∀ {n : Nat}, k < fb_ct p n → ∃ i, i < n ∧ p i = true ∧ fb_ct p i = k
  | 0, h => absurd h (Nat.not_lt_zero k)
  | n + 1, h => by
    rcases Nat.lt_or_ge k (fb_ct p n) with q | q
    · obtain ⟨i, h1, h2⟩ := fb_ct_kth q
      exact ⟨i, by omega, h2⟩
    · rw [fb_ct_succ] at h
      cases hp : p n
      · simp [hp] at h; omega
      · simp [hp] at h
        exact ⟨n, by omega, hp, by omega⟩
theorem fb_ct_kth_one {p : Nat → Bool} {i j : Nat} (hi : p i = true) (hj : p j = true) (e : fb_ct p i = fb_ct p j) : i = j := by
  have key : ∀ a b : Nat, a < b → p a = true → fb_ct p a < fb_ct p b := by
    intro a b hab ha
    have h := fb_ct_mono p (show a + 1 ≤ b from hab)
    rw [fb_ct_succ, ha] at h
    simp at h
    omega
  rcases Nat.lt_trichotomy i j with q | q | q
  · have := key i j q hi; omega
  · exact q
  · have := key j i q hj; omega
/-! ===== sums over a range: one place changed, parts, bounds ===== -/
def fb_sm (f : Nat → Nat) : Nat → Nat
  | 0 => 0
  | n + 1 => fb_sm f n + f n
theorem fb_sm_succ (f : Nat → Nat) (n : Nat) : fb_sm f (n + 1) = fb_sm f n + f n := rfl
theorem fb_sm_cong {f g : Nat → Nat} : ∀ {n : Nat}, (∀ k, k < n → f k = g k) → fb_sm f n = fb_sm g n
  | 0, _ => rfl
  | n + 1, h => by rw [fb_sm_succ, fb_sm_succ, fb_sm_cong (fun k hk => h k (by omega)), h n (by omega)]
theorem fb_sm_out (f : Nat → Nat) (v : Nat) {i n : Nat} (h : n ≤ i) : fb_sm (fun k => if k = i then v else f k) n = fb_sm f n :=
  fb_sm_cong fun k hk => if_neg (by omega)
theorem fb_sm_upd (f : Nat → Nat) (v : Nat) {i : Nat} : ∀ {n : Nat}, i < n → fb_sm (fun k => if k = i then v else f k) n + f i = fb_sm f n + v
  | 0, h => absurd h (Nat.not_lt_zero i)
  | n + 1, h => by
    rw [fb_sm_succ, fb_sm_succ]
    rcases Nat.lt_or_ge i n with q | q
    · have := fb_sm_upd f v q
      have e : (if n = i then v else f n) = f n := if_neg (by omega)
      rw [e]
      omega
    · have e : i = n := by omega
      subst e
      rw [fb_sm_out f v (Nat.le_refl _)]
      simp only [if_true]
      omega
theorem fb_sm_add (f g : Nat → Nat) : ∀ n, fb_sm (fun k => f k + g k) n = fb_sm f n + fb_sm g n
  | 0 => rfl
  | n + 1 => by
    have h := fb_sm_add f g n
    rw [fb_sm_succ, fb_sm_succ, fb_sm_succ, h]
    omega
theorem fb_sm_le {f g : Nat → Nat} : ∀ {n : Nat}, (∀ k, k < n → f k ≤ g k) → fb_sm f n ≤ fb_sm g n
  | 0, _ => Nat.le_refl _
  | n + 1, h => by
    have h1 := fb_sm_le (n := n) (f := f) (g := g) (fun k hk => h k (by omega))
    have h2 := h n (by omega)
    rw [fb_sm_succ, fb_sm_succ]
    omega
theorem fb_sm_const (c : Nat) : ∀ n, fb_sm (fun _ => c) n = n * c
  | 0 => by rw [Nat.zero_mul]; rfl
  | n + 1 => by rw [fb_sm_succ, fb_sm_const c n, Nat.succ_mul]
theorem fb_sm_bound {f : Nat → Nat} {c n : Nat} (h : ∀ k, k < n → f k ≤ c) : fb_sm f n ≤ n * c := by
  rw [← fb_sm_const c n]
  exact fb_sm_le h
theorem fb_sm_mono (f : Nat → Nat) (m : Nat) : ∀ n, fb_sm f m ≤ fb_sm f (m + n)
  | 0 => Nat.le_refl _
  | n + 1 => by
    have h := fb_sm_mono f m n
    show fb_sm f m ≤ fb_sm f (m + n + 1)
    rw [fb_sm_succ]
    omega
theorem fb_sm_part (f : Nat → Nat) {i n : Nat} (h : i < n) : fb_sm f i + f i ≤ fb_sm f n := by
  have := fb_sm_mono f (i + 1) (n - (i + 1))
  rw [fb_sm_succ, show i + 1 + (n - (i + 1)) = n by omega] at this
  exact this
theorem fb_sm_split (f : Nat → Nat) (m : Nat) : ∀ n, fb_sm f (m + n) = fb_sm f m + fb_sm (fun k => f (m + k)) n
  | 0 => rfl
  | n + 1 => by
    have h := fb_sm_split f m n
    show fb_sm f (m + n + 1) = _
    rw [fb_sm_succ, fb_sm_succ, h, Nat.add_assoc]
theorem fb_sm_zero {f : Nat → Nat} {n : Nat} (h : fb_sm f n = 0) : ∀ k, k < n → f k = 0 := fun k hk => by
  have := fb_sm_part f hk
  omega
/-- the same over whole numbers -/
def fb_si (f : Nat → Int) : Nat → Int
  | 0 => 0
  | n + 1 => fb_si f n + f n
theorem fb_si_succ (f : Nat → Int) (n : Nat) : fb_si f (n + 1) = fb_si f n + f n := rfl
theorem fb_si_cong {f g : Nat → Int} : ∀ {n : Nat}, (∀ k, k < n → f k = g k) → fb_si f n = fb_si g n
  | 0, _ => rfl
  | n + 1, h => by rw [fb_si_succ, fb_si_succ, fb_si_cong (fun k hk => h k (by omega)), h n (by omega)]
theorem fb_si_out (f : Nat → Int) (v : Int) {i n : Nat} (h : n ≤ i) : fb_si (fun k => if k = i then v else f k) n = fb_si f n :=
  fb_si_cong fun k hk => if_neg (by omega)
theorem fb_si_upd (f : Nat → Int) (v : Int) {i : Nat} : ∀ {n : Nat}, i < n → fb_si (fun k => if k = i then v else f k) n = fb_si f n - f i + v
  | 0, h => absurd h (Nat.not_lt_zero i)
  | n + 1, h => by
    rw [fb_si_succ, fb_si_succ]
    rcases Nat.lt_or_ge i n with q | q
    · have := fb_si_upd f v q
      have e : (if n = i then v else f n) = f n := if_neg (by omega)
      rw [e]
      omega
    · have e : i = n := by omega
      subst e
      rw [fb_si_out f v (Nat.le_refl _)]
      simp only [if_true]
      omega
theorem fb_si_add (f g : Nat → Int) : ∀ n, fb_si (fun k => f k + g k) n = fb_si f n + fb_si g n
  | 0 => rfl
  | n + 1 => by
    have h := fb_si_add f g n
    rw [fb_si_succ, fb_si_succ, fb_si_succ, h]
    omega
theorem fb_si_sub (f g : Nat → Int) : ∀ n, fb_si (fun k => f k - g k) n = fb_si f n - fb_si g n
  | 0 => rfl
  | n + 1 => by
    have h := fb_si_sub f g n
    rw [fb_si_succ, fb_si_succ, fb_si_succ, h]
    omega
theorem fb_si_mul (c : Int) (f : Nat → Int) : ∀ n, fb_si (fun k => c * f k) n = c * fb_si f n
  | 0 => (Int.mul_zero c).symm
  | n + 1 => by
    have h := fb_si_mul c f n
    rw [fb_si_succ, fb_si_succ, h, Int.mul_add]
theorem fb_si_split (f : Nat → Int) (m : Nat) : ∀ n, fb_si f (m + n) = fb_si f m + fb_si (fun k => f (m + k)) n
  | 0 => (Int.add_zero _).symm
  | n + 1 => by
    have h := fb_si_split f m n
    show fb_si f (m + n + 1) = _
    rw [fb_si_succ, fb_si_succ, h, Int.add_assoc]
theorem fb_si_nat (f : Nat → Nat) : ∀ n, fb_si (fun k => (f k : Int)) n = (fb_sm f n : Int)
  | 0 => rfl
  | n + 1 => by
    have h := fb_si_nat f n
    rw [fb_si_succ, fb_sm_succ, h]
    omega
theorem fb_si_bound {f : Nat → Int} {c : Int} (hc : 0 ≤ c) : ∀ {n : Nat}, (∀ k, k < n → -c ≤ f k ∧ f k ≤ c) → -(n * c) ≤ fb_si f n ∧ fb_si f n ≤ n * c
  | 0, _ => by simp [fb_si]
  | n + 1, h => by
    have h1 := fb_si_bound (n := n) (f := f) hc (fun k hk => h k (by omega))
    have h2 := h n (by omega)
    have e : ((n + 1 : Nat) : Int) * c = n * c + c := by rw [Int.natCast_add, Int.add_mul]; simp
    rw [fb_si_succ, e]
    omega
/-! ===== bits of a long that isn't negative ===== -/
theorem fb_andL (a b : Nat) : lN a &&& lN b = lN (a &&& b) := by
  apply Int64.toBitVec_inj.1
  show BitVec.ofNat 64 a &&& BitVec.ofNat 64 b = BitVec.ofNat 64 (a &&& b)
  apply BitVec.eq_of_getLsbD_eq
  intro i hi
  simp [hi]
theorem fb_orL (a b : Nat) : lN a ||| lN b = lN (a ||| b) := by
  apply Int64.toBitVec_inj.1
  show BitVec.ofNat 64 a ||| BitVec.ofNat 64 b = BitVec.ofNat 64 (a ||| b)
  apply BitVec.eq_of_getLsbD_eq
  intro i hi
  simp [hi]
theorem fb_xorL (a b : Nat) : lN a ^^^ lN b = lN (a ^^^ b) := by
  apply Int64.toBitVec_inj.1
  show BitVec.ofNat 64 a ^^^ BitVec.ofNat 64 b = BitVec.ofNat 64 (a ^^^ b)
  apply BitVec.eq_of_getLsbD_eq
  intro i hi
  simp [hi]
theorem fb_xorI (a b : Nat) : nI a ^^^ nI b = nI (a ^^^ b) := by
  apply Int32.toBitVec_inj.1
  show BitVec.ofNat 32 a ^^^ BitVec.ofNat 32 b = BitVec.ofNat 32 (a ^^^ b)
  apply BitVec.eq_of_getLsbD_eq
  intro i hi
  simp [hi]
theorem fb_maskL (n k : Nat) : lN n &&& lN (2 ^ k - 1) = lN (n % 2 ^ k) := by rw [fb_andL, Nat.and_two_pow_sub_one_eq_mod]
theorem fb_or_sumL {a k : Nat} (b : Nat) (h : a < 2 ^ k) : lN (2 ^ k * b) ||| lN a = lN (2 ^ k * b + a) := by rw [fb_orL, Nat.two_pow_add_eq_or_of_lt h]
theorem fb_lN_inj {a b : Nat} (ha : a < 2 ^ 63) (hb : b < 2 ^ 63) : lN a = lN b ↔ a = b := by
  constructor
  · intro h
    have h1 : (BitVec.ofNat 64 a).toNat = (BitVec.ofNat 64 b).toNat := congrArg (fun x : Int64 => x.toBitVec.toNat) h
    rw [BitVec.toNat_ofNat, BitVec.toNat_ofNat, Nat.mod_eq_of_lt (by omega), Nat.mod_eq_of_lt (by omega)] at h1
    exact h1
  · rintro rfl; rfl
theorem fb_bit_nat (n j : Nat) : n &&& 2 ^ j = 0 ↔ n.testBit j = false := by
  constructor
  · intro h
    have h1 : (n &&& 2 ^ j).testBit j = false := by rw [h]; simp
    rw [Nat.testBit_and] at h1
    simpa using h1
  · intro h
    apply Nat.eq_of_testBit_eq
    intro i
    rw [Nat.testBit_and]
    by_cases hi : j = i
    · subst hi; simp [h]
    · first | (simp [Nat.testBit_two_pow, hi]; done) | (simp [Nat.testBit_two_pow_of_ne hi]; done)
/-- one bit of a long -/
theorem fb_bitL {n j : Nat} (hj : j < 63) : lN n &&& lN (2 ^ j) = 0 ↔ n.testBit j = false := by
  have h2 : (2 : Nat) ^ j < 2 ^ 63 := Nat.pow_lt_pow_right (by decide) hj
  have hle : n &&& 2 ^ j ≤ 2 ^ j := Nat.and_le_right
  rw [fb_andL, ← fb_bit_nat, show (0 : Int64) = lN 0 from rfl]
  exact fb_lN_inj (by omega) (by decide)
/-- a bit set, a bit taken off -/
theorem fb_bit_set (n j i : Nat) : (n ||| 2 ^ j).testBit i = (n.testBit i || decide (i = j)) := by
  rw [Nat.testBit_or]
  by_cases h : j = i
  · subst h; simp
  · have h2 : ¬ i = j := fun e => h e.symm
    first | (simp [Nat.testBit_two_pow, h, h2]; done) | (simp [Nat.testBit_two_pow_of_ne h, h2]; done)
theorem fb_bit_flip (n j i : Nat) : (n ^^^ 2 ^ j).testBit i = (n.testBit i ^^ decide (i = j)) := by
  rw [Nat.testBit_xor]
  by_cases h : j = i
  · subst h; simp
  · have h2 : ¬ i = j := fun e => h e.symm
    first | (simp [Nat.testBit_two_pow, h, h2]; done) | (simp [Nat.testBit_two_pow_of_ne h, h2]; done)
/-! ===== a stretch of an array written over by a function ===== -/
def fb_put {α : Type} (f g : Nat → α) (a n : Nat) : Nat → α := fun k => if a ≤ k ∧ k < a + n then g (k - a) else f k
theorem fb_put_0 {α : Type} (f g : Nat → α) (a : Nat) : fb_put f g a 0 = f := funext fun k => if_neg (by omega)
theorem fb_put_in {α : Type} {f g : Nat → α} {a n k : Nat} (h1 : a ≤ k) (h2 : k < a + n) : fb_put f g a n k = g (k - a) := if_pos ⟨h1, h2⟩
theorem fb_put_out {α : Type} {f g : Nat → α} {a n k : Nat} (h : k < a ∨ a + n ≤ k) : fb_put f g a n k = f k := if_neg (by omega)
theorem fb_put_succ (f g : Nat → Int32) (a n : Nat) : upd (fb_put f g a n) (a + n) (g n) = fb_put f g a (n + 1) := by
  funext k
  by_cases h : k = a + n
  · subst h
    simp [upd, fb_put]
  · by_cases h1 : a ≤ k ∧ k < a + n
    · have h2 : a ≤ k ∧ k < a + (n + 1) := by omega
      simp only [upd, fb_put, if_neg h, if_pos h1, if_pos h2]
    · have h2 : ¬ (a ≤ k ∧ k < a + (n + 1)) := by omega
      simp only [upd, fb_put, if_neg h, if_neg h1, if_neg h2]
/-- .. from the far end down -/
theorem fb_put_down (f g : Nat → Int32) {a n m : Nat} (h : m < n) : upd (fb_put f (fun k => g (k + (m + 1))) (a + (m + 1)) (n - (m + 1))) (a + m) (g m) = fb_put f (fun k => g (k + m)) (a + m) (n - m) := by
  funext k
  by_cases h0 : k = a + m
  · subst h0
    simp only [upd, if_true]
    rw [fb_put_in (by omega) (by omega)]
    exact congrArg g (by omega)
  · simp only [upd, if_neg h0]
    by_cases h1 : a + (m + 1) ≤ k ∧ k < a + (m + 1) + (n - (m + 1))
    · rw [fb_put_in h1.1 h1.2, fb_put_in (by omega) (by omega)]
      exact congrArg g (by omega)
    · rw [fb_put_out (by omega), fb_put_out (by omega)]
theorem fb_put_cong {α : Type} {f f2 g g2 : Nat → α} {a n : Nat} (hf : ∀ k, (k < a ∨ a + n ≤ k) → f k = f2 k) (hg : ∀ k, k < n → g k = g2 k) : fb_put f g a n = fb_put f2 g2 a n := by
  funext k
  by_cases h : a ≤ k ∧ k < a + n
  · rw [fb_put_in h.1 h.2, fb_put_in h.1 h.2, hg _ (by omega)]
  · rw [fb_put_out (by omega), fb_put_out (by omega), hf _ (by omega)]
/-! ===== the least, the first, the best so far; that there is one alone ===== -/
theorem fb_first {p : Nat → Prop} [DecidablePred p] : ∀ {n : Nat}, (∃ i, i < n ∧ p i) → ∃ i, i < n ∧ p i ∧ ∀ j, j < i → ¬ p j
  | 0, h => by obtain ⟨i, hi, -⟩ := h; exact absurd hi (Nat.not_lt_zero i)
  | n + 1, h => by
    by_cases q : ∃ i, i < n ∧ p i
    · obtain ⟨i, h1, h2⟩ := fb_first q
      exact ⟨i, by omega, h2⟩
    · obtain ⟨i, h1, h2⟩ := h
      have e : i = n := by
        rcases Nat.lt_or_ge i n with r | r
        · exact absurd ⟨i, r, h2⟩ q
        · omega
      subst e
      exact ⟨i, by omega, h2, fun j hj hp => q ⟨j, hj, hp⟩⟩
theorem fb_first_one {p : Nat → Prop} {i j : Nat} (hi : p i) (hi2 : ∀ k, k < i → ¬ p k) (hj : p j) (hj2 : ∀ k, k < j → ¬ p k) : i = j := by
  rcases Nat.lt_trichotomy i j with q | q | q
  · exact absurd hi (hj2 i q)
  · exact q
  · exact absurd hj (hi2 j q)
theorem fb_last {p : Nat → Prop} [DecidablePred p] : ∀ {n : Nat}, (∃ i, i < n ∧ p i) → ∃ i, i < n ∧ p i ∧ ∀ j, i < j → j < n → ¬ p j
  | 0, h => by obtain ⟨i, hi, -⟩ := h; exact absurd hi (Nat.not_lt_zero i)
  | n + 1, h => by
    by_cases q : p n
    · exact ⟨n, by omega, q, fun j h1 h2 => by omega⟩
    · obtain ⟨i, h1, h2⟩ := h
      have hi : i < n := by
        rcases Nat.lt_or_ge i n with r | r
        · exact r
        · have e : i = n := by omega
          subst e
          exact absurd h2 q
      obtain ⟨i2, a1, a2, a3⟩ := fb_last (n := n) ⟨i, hi, h2⟩
      refine ⟨i2, by omega, a2, fun j b1 b2 => ?_⟩
      rcases Nat.lt_or_ge j n with r | r
      · exact a3 j b1 r
      · have e : j = n := by omega
        subst e
        exact q
/-- the first greatest -/
theorem fb_best (f : Nat → Int) : ∀ {n : Nat}, 0 < n → ∃ i, i < n ∧ (∀ j, j < n → f j ≤ f i) ∧ ∀ j, j < i → f j < f i
  | 0, h => absurd h (Nat.lt_irrefl 0)
  | 1, _ => ⟨0, by omega, fun j hj => by have e : j = 0 := by omega
                                         subst e; exact Int.le_refl _, fun j hj => absurd hj (Nat.not_lt_zero j)⟩
  | n + 2, _ => by
    obtain ⟨i, h1, h2, h3⟩ := fb_best f (n := n + 1) (by omega)
    by_cases q : f i < f (n + 1)
    · refine ⟨n + 1, by omega, fun j hj => ?_, fun j hj => ?_⟩
      · rcases Nat.lt_or_ge j (n + 1) with r | r
        · have := h2 j r; omega
        · have e : j = n + 1 := by omega
          subst e; exact Int.le_refl _
      · have := h2 j hj; omega
    · refine ⟨i, by omega, fun j hj => ?_, h3⟩
      rcases Nat.lt_or_ge j (n + 1) with r | r
      · exact h2 j r
      · have e : j = n + 1 := by omega
        subst e; omega
theorem fb_best_one {f : Nat → Int} {n i j : Nat} (hi : i < n) (hi2 : ∀ k, k < n → f k ≤ f i) (hi3 : ∀ k, k < i → f k < f i) (hj : j < n) (hj2 : ∀ k, k < n → f k ≤ f j) (hj3 : ∀ k, k < j → f k < f j) : i = j := by
  rcases Nat.lt_trichotomy i j with q | q | q
  · have a := hj3 i q
    have b := hi2 j hj
    omega
  · exact q
  · have a := hi3 j q
    have b := hj2 i hi
    omega
/-- the first least -/
theorem fb_low (f : Nat → Int) {n : Nat} (h : 0 < n) : ∃ i, i < n ∧ (∀ j, j < n → f i ≤ f j) ∧ ∀ j, j < i → f i < f j := by
  obtain ⟨i, h1, h2, h3⟩ := fb_best (fun k => -f k) h
  exact ⟨i, h1, fun j hj => by have := h2 j hj; omega, fun j hj => by have := h3 j hj; omega⟩
/-! ===== signed ints as whole numbers, within bounds ===== -/
theorem fb_rng (x : Int32) : -2147483648 ≤ x.toInt ∧ x.toInt < 2147483648 := by
  have h1 := Int32.le_toInt x
  have h2 := Int32.toInt_lt x
  omega
theorem fb_bmod {z : Int} (h1 : -2147483648 ≤ z) (h2 : z < 2147483648) : z.bmod (2 ^ 32) = z := by
  rw [Int.bmod_eq_of_le (by omega) (by omega)]
theorem fb_addI {x y : Int32} (h1 : -2147483648 ≤ x.toInt + y.toInt) (h2 : x.toInt + y.toInt < 2147483648) : (x + y).toInt = x.toInt + y.toInt := by
  rw [Int32.toInt_add, fb_bmod h1 h2]
theorem fb_subI {x y : Int32} (h1 : -2147483648 ≤ x.toInt - y.toInt) (h2 : x.toInt - y.toInt < 2147483648) : (x - y).toInt = x.toInt - y.toInt := by
  rw [Int32.toInt_sub, fb_bmod h1 h2]
theorem fb_mulI {x y : Int32} (h1 : -2147483648 ≤ x.toInt * y.toInt) (h2 : x.toInt * y.toInt < 2147483648) : (x * y).toInt = x.toInt * y.toInt := by
  rw [Int32.toInt_mul, fb_bmod h1 h2]
theorem fb_negI {x : Int32} (h : x.toInt ≠ -2147483648) : (-x).toInt = -x.toInt := by
  have := fb_rng x
  rw [Int32.toInt_neg, fb_bmod (by omega) (by omega)]
theorem fb_ofI {z : Int} (h1 : -2147483648 ≤ z) (h2 : z < 2147483648) : (Int32.ofInt z).toInt = z := by
  rw [Int32.toInt_ofInt, fb_bmod h1 h2]
theorem fb_asI (x : Int32) : Int32.ofInt x.toInt = x := Int32.ofInt_toInt x
theorem fb_rngL (x : Int64) : -9223372036854775808 ≤ x.toInt ∧ x.toInt < 9223372036854775808 := by
  have h1 := Int64.le_toInt x
  have h2 := Int64.toInt_lt x
  omega
theorem fb_bmodL {z : Int} (h1 : -9223372036854775808 ≤ z) (h2 : z < 9223372036854775808) : z.bmod (2 ^ 64) = z := by
  rw [Int.bmod_eq_of_le (by omega) (by omega)]
theorem fb_addL {x y : Int64} (h1 : -9223372036854775808 ≤ x.toInt + y.toInt) (h2 : x.toInt + y.toInt < 9223372036854775808) : (x + y).toInt = x.toInt + y.toInt := by
  rw [Int64.toInt_add, fb_bmodL h1 h2]
theorem fb_subL {x y : Int64} (h1 : -9223372036854775808 ≤ x.toInt - y.toInt) (h2 : x.toInt - y.toInt < 9223372036854775808) : (x - y).toInt = x.toInt - y.toInt := by
  rw [Int64.toInt_sub, fb_bmodL h1 h2]
theorem fb_mulL {x y : Int64} (h1 : -9223372036854775808 ≤ x.toInt * y.toInt) (h2 : x.toInt * y.toInt < 9223372036854775808) : (x * y).toInt = x.toInt * y.toInt := by
  rw [Int64.toInt_mul, fb_bmodL h1 h2]
/-! ===== cuts of what is narrow already ===== -/
theorem fb_byte {x : Int32} (h1 : -128 ≤ x.toInt) (h2 : x.toInt < 128) : x.toInt8.toInt32 = x := by
  apply Int32.toInt_inj.1
  rw [Int8.toInt_toInt32, Int32.toInt_toInt8, Int.bmod_eq_of_le (by omega) (by omega)]
theorem fb_short {x : Int32} (h1 : -32768 ≤ x.toInt) (h2 : x.toInt < 32768) : x.toInt16.toInt32 = x := by
  apply Int32.toInt_inj.1
  rw [Int16.toInt_toInt32, Int32.toInt_toInt16, Int.bmod_eq_of_le (by omega) (by omega)]
theorem fb_byte_rng (x : Int32) : -128 ≤ x.toInt8.toInt32.toInt ∧ x.toInt8.toInt32.toInt < 128 := by
  rw [Int8.toInt_toInt32]
  have h1 := Int8.le_toInt x.toInt8
  have h2 := Int8.toInt_lt x.toInt8
  omega
theorem fb_short_rng (x : Int32) : -32768 ≤ x.toInt16.toInt32.toInt ∧ x.toInt16.toInt32.toInt < 32768 := by
  rw [Int16.toInt_toInt32]
  have h1 := Int16.le_toInt x.toInt16
  have h2 := Int16.toInt_lt x.toInt16
  omega
theorem fb_byte_twice (x : Int32) : x.toInt8.toInt32.toInt8.toInt32 = x.toInt8.toInt32 := fb_byte (fb_byte_rng x).1 (fb_byte_rng x).2
theorem fb_short_twice (x : Int32) : x.toInt16.toInt32.toInt16.toInt32 = x.toInt16.toInt32 := fb_short (fb_short_rng x).1 (fb_short_rng x).2
theorem fb_char {n : Nat} (h : n < 65536) : (nI n).toUInt32.toUInt16.toUInt32.toInt32 = nI n := by
  apply Int32.toBitVec_inj.1
  apply BitVec.eq_of_toNat_eq
  have e1 : (nI n).toBitVec.toNat = n := by
    show (BitVec.ofNat 32 n).toNat = n
    rw [BitVec.toNat_ofNat, Nat.mod_eq_of_lt (by omega)]
  have e2 : ((nI n).toUInt32.toUInt16.toUInt32).toNat = n := by
    rw [UInt16.toNat_toUInt32, UInt32.toNat_toUInt16]
    show (nI n).toBitVec.toNat % 2 ^ 16 = n
    rw [e1, Nat.mod_eq_of_lt (by omega)]
  rw [e1]
  exact e2
end
section
abbrev xIOB : String := "java/lang/IndexOutOfBoundsException"
abbrev xIAE : String := "java/lang/IllegalArgumentException"
abbrev xISE : String := "java/lang/IllegalStateException"
def xStr : List (Nat × String) := [(197, "there is no such cell"), (201, "an argument is out of range"), (56, "the cell has ice or water"), (80, "the cell would have too much ice"), (195, "it would be above the year 60"), (129, "there was no such flood"), (169, "there are 10 forecasts"), (175, "there is no such forecast")]
def xEs : List String := [xIOB, xIAE, xISE]
def xUp : List String := ["java/lang/RuntimeException", "java/lang/Exception", Bundle.tN]
def xNc : List (String × String) := [(xIAE, xIOB), (xISE, xIOB), (xISE, xIAE)]
/-- what the tables say of the exceptions -/
def xW (U : State) : Prop := (∀ q ∈ xEs, va_Nw (.castable q q) U) ∧ (∀ q ∈ xUp, va_Nw (.declares (Bundle.initS q)) U) ∧ (∀ q ∈ xNc, va_Nc q.1 q.2 U) ∧ ∀ q ∈ xStr, ∃ sa : Nat, vk_R RX5 q.1 q.2 sa U
theorem xW.warm {s U : State} (hW : s.WarmedH U.vm) (h : xW s) : xW U := ⟨fun q hq => va_Nw.warmC hW (h.1 q hq), fun q hq => va_Nw.warmD hW (h.2.1 q hq), fun q hq => va_Nc.moved hW.alike (h.2.2.1 q hq), fun q hq => by
  obtain ⟨sa, h1⟩ := h.2.2.2 q hq
  exact ⟨sa, vk_R.warm hW h1⟩⟩
theorem xW.call {U : State} {g : JFrame} {mk : MethodId} {a : Array Value} (h : xW U) : xW (U.calling g mk a) := ⟨fun q hq => va_Nw.same rfl (u := U) rfl (h.1 q hq), fun q hq => va_Nw.same rfl (u := U) rfl (h.2.1 q hq), fun q hq => va_Nc.moved (u := U) (Vm.Alike.refl U.vm) (h.2.2.1 q hq), fun q hq => by
  obtain ⟨sa, h1⟩ := h.2.2.2 q hq
  exact ⟨sa, vk_R.same (u := U) rfl h1⟩⟩
def xS (A : Nat → Prop) (U : State) (H : Heap) : Prop := vx_Zq Bundle.tN "UNASSIGNED_STACK" Bundle.steD A U H ∧ vx_Zq Bundle.tN "SUPPRESSED_SENTINEL" Bundle.listD A U H
theorem xS.at {A B : Nat → Prop} {s U : State} {H : Heap} {locs : List Loc} (h : xS A s s.heap) (hS : va_S A s.heap H locs) (hF : ∀ q, B q → A q) (hU : U.heap = H) (hv : s.vm.Alike U.vm) : xS B U U.heap := by
  rw [hU]
  exact ⟨vx_Zq.moved hv ((h.1.kept hS.2.1).narrow hF), vx_Zq.moved hv ((h.2.kept hS.2.1).narrow hF)⟩
def xPre (X : zX) (w : va_W) (sz : Nat) : State → Prop := fun U => zPre X w sz U ∧ xW U ∧ xS (va_A w sz) U U.heap
theorem xPre_blind (X : zX) (w : va_W) (sz : Nat) (av : List Value) : FrameBlind (va_Pc av (xPre X w sz)) := fun a U g mk q => by
  obtain ⟨q0, q1, q2, q3⟩ := q
  have h1 := zPre_blind X w sz av a U g mk ⟨q0, q1⟩
  exact ⟨h1.1, h1.2, q2.call, vx_Zq.moved (u := U) (Vm.Alike.refl U.vm) q3.1, vx_Zq.moved (u := U) (Vm.Alike.refl U.vm) q3.2⟩
def xXC (X : zX) (A : Nat → Prop) (w0 : va_W) (En : String) : String → State → State → Prop := vx_X (fun _ : Unit => True) (fun E u t => E = En ∧ zB X A (fun _ : Unit => w0) u t) A
/-- throws En, the cells stay -/
def CXi (l : Launch) (y : MethodName) (wsY : List Cond) (fr lo mc ms : Nat) (X : zX) (w0 : va_W) (av : List Value) (En : String) : Prop := ∀ sz : Nat, vx_Met l y wsY { frames := fr, cells := mc, slots := ms, locals := lo } (va_Pc av (xPre X w0 sz)) (va_Qi (fun _ (_ : Unit) => False) (zB X (va_A w0 sz) (fun _ => w0)) (va_A w0 sz)) (xXC X (va_A w0 sz) w0 En) mc ms (va_A w0 sz)
def CXv (l : Launch) (y : MethodName) (wsY : List Cond) (fr lo mc ms : Nat) (X : zX) (w0 : va_W) (av : List Value) (En : String) : Prop := ∀ sz : Nat, vx_Met l y wsY { frames := fr, cells := mc, slots := ms, locals := lo } (va_Pc av (xPre X w0 sz)) (va_Qv (fun _ : Unit => False) (zB X (va_A w0 sz) (fun _ => w0)) (va_A w0 sz)) (xXC X (va_A w0 sz) w0 En) mc ms (va_A w0 sz)
/-- returns r, over a heap in which exceptions may be thrown -/
def CE (l : Launch) (y : MethodName) (wsY : List Cond) (fr lo mc ms : Nat) (X : zX) (w0 : va_W) (av : List Value) (r : Int32) (w1 : va_W) : Prop := ∀ sz : Nat, Met l y wsY { frames := fr, cells := mc, slots := ms, locals := lo } (va_Pc av (xPre X w0 sz)) (va_Qi (fun x (_ : Unit) => x = r) (zB X (va_A w0 sz) (fun _ => w1)) (va_A w0 sz)) mc ms (va_A w0 sz)
section XM
variable {p : Program} {l : Launch} {e : Env} {R : Room} {s : State} {m : MethodId} {args : Array Value} {below : List Frame} {meth : Method} {c : Code} {cells slots : Nat} {Q : State → Prop} {X : zX} {A : Nat → Prop} {nL pc : Nat} {cc : ByteArray} {own : String} {Ts : List Cond} {ret : Option FieldType} {ws : va_W} {lv : List (Nat × Value)} {st : List Value}
theorem xi_intro {y : MethodName} {wsY ws9 : List Cond} {fr lo mc ms maxL : Nat} {w0 : va_W} {av : List Value} {En : String} (hy : plainName y.cls = true) (hw : wsY = Cond.code y cc maxL ret :: ws9) (hnl : (lg_sl av).length ≤ maxL)
    (body : ∀ (p : Program) (e : Env) (s : State) (m : MethodId) (args : Array Value) (below : List Frame) (meth : Method) (c : Code) (A : Nat → Prop) (Q : State → Prop), ZC p s m args meth c X A maxL cc y.cls wsY ret → xW s → xS A s s.heap → (∀ x ∈ c.exceptionTable.toList, False) → (∃ Qc, Q = vx_MQ below Qc (xXC X A w0 En) args s mc ms A) → Z p l e { frames := fr, cells := mc, slots := ms, locals := lo } s m args below meth c X A maxL Q 0 0 w0 (lv_args 0 av) 0 []) : CXi l y wsY fr lo mc ms X w0 av En := by
  intro sz
  refine vx_ofW (cc := cc) (maxL := maxL) (ret := ret) hy hw ?_
  intro p e s m args below meth c s₁ B hml hT hv
  obtain ⟨rfl, ⟨hsz, hP, hK, hD0⟩, hxw, hxs⟩ := hv
  subst hsz
  have C : ZC p s m av.toArray meth c X (va_A w0 s.heap.size) maxL cc y.cls wsY ret := ⟨B.exec, B.bytes, hml, findClass_of_methodNamed B.named, atoms_spec (ws := wsY) B.pre, hK, fun q h => Or.inr h, B.notSynchronized, B.returns⟩
  have hl := lv_entry av (n := maxL) hnl
  rw [lg_entry_eq]
  exact body p e s m av.toArray below meth c _ _ C hxw hxs hT ⟨_, rfl⟩ s.heap [] _ hP hD0.self va_S.rf hl
theorem xv_intro {y : MethodName} {wsY ws9 : List Cond} {fr lo mc ms maxL : Nat} {w0 : va_W} {av : List Value} {En : String} (hy : plainName y.cls = true) (hw : wsY = Cond.code y cc maxL ret :: ws9) (hnl : (lg_sl av).length ≤ maxL)
    (body : ∀ (p : Program) (e : Env) (s : State) (m : MethodId) (args : Array Value) (below : List Frame) (meth : Method) (c : Code) (A : Nat → Prop) (Q : State → Prop), ZC p s m args meth c X A maxL cc y.cls wsY ret → xW s → xS A s s.heap → (∀ x ∈ c.exceptionTable.toList, False) → (∃ Qc, Q = vx_MQ below Qc (xXC X A w0 En) args s mc ms A) → Z p l e { frames := fr, cells := mc, slots := ms, locals := lo } s m args below meth c X A maxL Q 0 0 w0 (lv_args 0 av) 0 []) : CXv l y wsY fr lo mc ms X w0 av En := by
  intro sz
  refine vx_ofW (cc := cc) (maxL := maxL) (ret := ret) hy hw ?_
  intro p e s m args below meth c s₁ B hml hT hv
  obtain ⟨rfl, ⟨hsz, hP, hK, hD0⟩, hxw, hxs⟩ := hv
  subst hsz
  have C : ZC p s m av.toArray meth c X (va_A w0 s.heap.size) maxL cc y.cls wsY ret := ⟨B.exec, B.bytes, hml, findClass_of_methodNamed B.named, atoms_spec (ws := wsY) B.pre, hK, fun q h => Or.inr h, B.notSynchronized, B.returns⟩
  have hl := lv_entry av (n := maxL) hnl
  rw [lg_entry_eq]
  exact body p e s m av.toArray below meth c _ _ C hxw hxs hT ⟨_, rfl⟩ s.heap [] _ hP hD0.self va_S.rf hl
theorem ce_intro {y : MethodName} {wsY ws9 : List Cond} {fr lo mc ms maxL : Nat} {w0 : va_W} {av : List Value} {r : Int32} {w1 : va_W} {hh : List (Nat × Nat × Nat × Nat)} (hy : plainName y.cls = true) (hw : wsY = Cond.codeWith y cc maxL ret hh :: ws9) (hnl : (lg_sl av).length ≤ maxL)
    (body : ∀ (p : Program) (e : Env) (s : State) (m : MethodId) (args : Array Value) (below : List Frame) (meth : Method) (c : Code) (A : Nat → Prop) (Q : State → Prop), ZC p s m args meth c X A maxL cc y.cls wsY ret → xW s → xS A s s.heap → c.exceptionTable.toList = tableOf hh → Q = MQ below (va_Qi (fun x (_ : Unit) => x = r) (zB X A (fun _ => w1)) A) args s mc ms A → Z p l e { frames := fr, cells := mc, slots := ms, locals := lo } s m args below meth c X A maxL Q 0 0 w0 (lv_args 0 av) 0 []) : CE l y wsY fr lo mc ms X w0 av r w1 := by
  intro sz
  refine va_MetW (cc := cc) (maxL := maxL) (ret := ret) hy hw ?_
  intro p e s m args below meth c s₁ B hml hv
  obtain ⟨rfl, ⟨hsz, hP, hK, hD0⟩, hxw, hxs⟩ := hv
  subst hsz
  have C : ZC p s m av.toArray meth c X (va_A w0 s.heap.size) maxL cc y.cls wsY ret := ⟨B.exec, B.bytes, hml, findClass_of_methodNamed B.named, atoms_spec (ws := wsY) B.pre, hK, fun q h => Or.inr h, B.notSynchronized, B.returns⟩
  have hT := vx_table (x := y) B (C.ts _ (by rw [hw]; exact List.mem_cons_self))
  have hl := lv_entry av (n := maxL) hnl
  rw [lg_entry_eq]
  exact body p e s m av.toArray below meth c _ _ C hxw hxs hT rfl s.heap [] _ hP hD0.self va_S.rf hl
/-- new En(text), thrown out of the method -/
theorem z_throw (C : ZC p s m args meth c X A nL cc own Ts ret) (hl : l.stackTraces = false) (hxw : xW s) (hxs : xS A s s.heap) (hT : ∀ x ∈ c.exceptionTable.toList, False) {mc ms : Nat} {w0 : va_W} {En : String} (hQ : ∃ Qc, Q = vx_MQ below Qc (xXC X A w0 En) args s mc ms A) {ik is ic : Nat} (text : String) (d0 : decode cc pc = .ok (.new ik, 3)) (d3 : decode cc (pc + 3) = .ok (.dup, 1)) (d4 : decode cc (pc + 4) = .ok (.ldc is, 2)) (d6 : decode cc (pc + 6) = .ok (.invokespecial ic, 3)) (d9 : decode cc (pc + 9) = .ok (.athrow, 1)) (hown : own = RX5) (hk : Cond.classLink own ik En ∈ Ts) (hini : Cond.initialized En ∈ Ts)
    (hsub : ∀ w ∈ (vx_atS own ic En ["java/lang/RuntimeException", "java/lang/Exception"]).filter goodWord, w ∈ Ts) (hB : ∀ w ∈ (vx_atS own ic En ["java/lang/RuntimeException", "java/lang/Exception"]).filter (fun w => !goodWord w), w ∈ (Cond.castable En En :: xUp.map (fun q => Cond.declares (Bundle.initS q)))) (hE : En ∈ xEs) (hst : (is, text) ∈ xStr)
    (hgood : ∀ w ∈ Cond.classLink own ik En :: Cond.initialized En :: vx_atS own ic En ["java/lang/RuntimeException", "java/lang/Exception"], vx_ot w = true) (hfit : Bundle.fit En = true) (hfr : 5 < R.frames) (hlo : (st.map fun v => v.category).sum + 82 ≤ R.locals) (hc : cells + 1 ≤ R.cells) (hs : slots + 6 ≤ R.slots) (hc2 : cells + 1 ≤ mc) (hs2 : slots + 6 ≤ ms) : Z p l e R s m args below meth c X A nL Q cells slots w0 lv pc st := by
  intro H locs ls hP hD hS hl9
  obtain ⟨Qc, rfl⟩ := hQ
  obtain ⟨sa, hsa⟩ := hxw.2.2.2 _ hst
  subst hown
  refine vx_throwS (names := ["java/lang/RuntimeException", "java/lang/Exception"]) (A := A) C.ex C.cb hl C.ow hfit (by decide) (C.ts _ hk) (C.ts _ hini) hsa (vx_hat (fun w h => C.ts w (hsub w h)) hB (fun w h => ?_)) hgood hxs.1 hxs.2 hS (by rw [C.ml]; exact hl9.1) d0 d3 d4 d6 d9 (fun x hx => absurd hx (hT x)) hfr hlo hc hs C.lo (fun t hv h1 h2 => ?_) (fun z hz => hS.2.2 z hz) hc2 hs2
  · rcases List.mem_cons.mp h with h | h
    · rw [h]
      exact va_Nw.use rfl (hxw.1 _ hE)
    · obtain ⟨q, hq, rfl⟩ := List.mem_map.mp h
      exact va_Nw.use rfl (hxw.2.1 q hq)
  · exact ⟨(), trivial, ⟨rfl, hP.kept (fun k q hk => h2 q.1 ((hP k q hk).lt)), va_K.moved hv C.hK, hD⟩, Nat.le_trans hS.1 h1, fun q hq hn => (h2 q (Nat.lt_of_lt_of_le hq hS.1)).trans (hS.2.1 q hq hn)⟩
/-- a static call over no cells, which throws; it goes on to the caller -/
theorem z_xS0 (C : ZC p s m args meth c X A nL cc own Ts ret) (hxw : xW s) (hxs : xS A s s.heap) (hT : ∀ x ∈ c.exceptionTable.toList, False) {mc ms : Nat} {w0 : va_W} {En : String} (hQ : ∃ Qc, Q = vx_MQ below Qc (xXC X A w0 En) args s mc ms A) {y : MethodName} {bytes : ByteArray} {ry : Option FieldType} {wsY ws9 : List Cond} {fr lo mc2 ms2 maxL index : Nat} {As rest : List Value} (hM : CXv l y wsY fr lo mc2 ms2 X [] As En) (g : GoodIn Ts (va_wsS own index y wsY)) (hw : wsY = Cond.code y bytes maxL ry :: ws9) (hd : y.cls ≠ "java/lang/invoke/MethodHandle" ∧ y.cls ≠ "java/lang/invoke/VarHandle" ∧ (parseMethodDescriptor y.desc).map (fun d => d.parameters.length) = some As.length) (hR : fr + 1 ≤ R.frames ∧ 8 + (maxL + 11) + lo ≤ R.locals) (hf : cells + mc2 ≤ R.cells ∧ slots + ms2 ≤ R.slots) (hst : (rest.map fun v => v.category).sum ≤ 8) (d : decode cc pc = .ok (.invokestatic index, 3)) (hs : st = As.reverse ++ rest) (hc2 : cells + mc2 ≤ mc) (hs2 : slots + ms2 ≤ ms) : Z p l e R s m args below meth c X A nL Q cells slots w0 lv pc st := by
  intro H locs ls hP hD hS hl
  obtain ⟨Qc, rfl⟩ := hQ
  subst hs
  have hPc : va_P X.1 vwCl [] H := fun k q h => by simp at h
  have hDc : va_D (fun _ => True) [] := ⟨fun i j p q h => by simp at h, fun k q h => by simp at h⟩
  have hA9 : ∀ q, va_A [] H.size q → H.size ≤ q := fun q h => by
    rcases h with ⟨k9, e9, h⟩ | h
    · simp at h
    · exact h
  have hFc : ∀ q, va_A [] H.size q → A q := fun q h => C.hA q (Nat.le_trans hS.1 (hA9 q h))
  refine vx_callv (vx_runS (As := As) (rest := rest) ⟨C.ex, C.cb, C.ml, C.ow, C.ts⟩ (hM H.size) (va_cwS As.length C.ts g hw rfl rfl hd hR) ⟨xPre_blind X [] H.size As, fun U hU hW => ⟨rfl, ⟨by rw [hU], by rw [hU]; exact hPc, va_K.moved hW.alike C.hK, hDc⟩, hxw.warm hW, hxs.at hS hFc hU hW.alike⟩⟩ rfl rfl hl.1 rfl (lv_room hst) d hf) hS (fun q _ h => hFc q h) hFc (fun q _ h => hFc q h) (fun E ce q9 u t H1 locs1 ht hvm _ hB hz1 hk1 hS1 hce hcv hcl => ?_) (fun u t H1 locs1 ht hvm hbad _ _ _ _ => absurd hbad id)
  have hP1 : va_P X.1 vwCl w0 H1 := hP.kept (fun k9 q9 h9 => hk1 q9.1 ((hP k9 q9 h9).lt) (fun z => absurd (hA9 _ z) (Nat.not_le.mpr ((hP k9 q9 h9).lt))))
  refine vx_out (fun x hx => absurd hx (hT x)) C.lo hce hcv hcl (fun t2 ht2 hv2 => ?_) (fun z hz => hS1.2.2 z hz) hc2 hs2
  exact ⟨(), trivial, ⟨hB.1, by rw [ht2]; exact hP1, va_K.moved hv2 C.hK, hD⟩, hS1.F ht2⟩
/-- a call over all cells, which throws; it goes on to the caller -/
theorem z_xV0 (C : ZC p s m args meth c X A nL cc own Ts ret) (hxw : xW s) (hxs : xS A s s.heap) (hT : ∀ x ∈ c.exceptionTable.toList, False) {mc ms : Nat} {w0 : va_W} {En : String} (hQ : ∃ Qc, Q = vx_MQ below Qc (xXC X A w0 En) args s mc ms A) {y : MethodName} {Cn : String} {b : Nat} {bytes : ByteArray} {ry : Option FieldType} {wsY ws9 : List Cond} {fr lo mc2 ms2 maxL index : Nat} {As rest : List Value} (hM : CXv l y wsY fr lo mc2 ms2 X w0 (.ref b :: As) En) (g : GoodIn Ts (wsV own index Cn y wsY)) (hw : wsY = Cond.code y bytes maxL ry :: ws9) (hd : y.cls = Cn ∧ y.cls ≠ "java/lang/invoke/MethodHandle" ∧ y.cls ≠ "java/lang/invoke/VarHandle" ∧ (parseMethodDescriptor y.desc).map (fun d => d.parameters.length) = some As.length) (hR : fr + 1 ≤ R.frames ∧ 8 + (maxL + 11) + lo ≤ R.locals) (hf : cells + mc2 ≤ R.cells ∧ slots + ms2 ≤ R.slots) {fs : List Value} {qc : u_T × Nat} (q0 ci : Nat) (hr : w0[q0]? = some (b, .inr (ci, fs))) (hrc : vwCl[ci]? = some (Cn, qc)) (hst : (rest.map fun v => v.category).sum ≤ 8) (d : decode cc pc = .ok (.invokevirtual index, 3)) (hs : st = As.reverse ++ .ref b :: rest) (hc2 : cells + mc2 ≤ mc) (hs2 : slots + ms2 ≤ ms) : Z p l e R s m args below meth c X A nL Q cells slots w0 lv pc st := by
  intro H locs ls hP hD hS hl
  obtain ⟨Qc, rfl⟩ := hQ
  subst hs
  have hFc : ∀ q, va_A w0 H.size q → A q := fun q h => by
    rcases h with ⟨k9, e9, h⟩ | h
    · exact hD.2 k9 (q, e9) h
    · exact C.hA q (Nat.le_trans hS.1 h)
  refine vx_callv (vx_runV (As := As) (rest := rest) ⟨C.ex, C.cb, C.ml, C.ow, C.ts⟩ (hM H.size) (cwV As.length C.ts g hw rfl rfl hd hR) ⟨xPre_blind X w0 H.size (.ref b :: As), va_recv C.hK hP hrc hr, fun U hU hW => ⟨rfl, ⟨by rw [hU], by rw [hU]; exact hP, va_K.moved hW.alike C.hK, hD.weaken (fun _ _ _ _ => trivial)⟩, hxw.warm hW, hxs.at hS hFc hU hW.alike⟩⟩ rfl rfl hl.1 rfl (lv_room hst) d hf) hS (fun q _ h => hFc q h) hFc (fun q _ h => hFc q h) (fun E ce q9 u t H1 locs1 ht hvm _ hB hz1 hk1 hS1 hce hcv hcl => ?_) (fun u t H1 locs1 ht hvm hbad _ _ _ _ => absurd hbad id)
  obtain ⟨hEn, hP1, hK1, hD1⟩ := hB
  rw [ht] at hP1
  refine vx_out (fun x hx => absurd hx (hT x)) C.lo hce hcv hcl (fun t2 ht2 hv2 => ?_) (fun z hz => hS1.2.2 z hz) hc2 hs2
  exact ⟨(), trivial, ⟨hEn, by rw [ht2]; exact hP1, va_K.moved hv2 C.hK, hD⟩, hS1.F ht2⟩
/-- a call that throws, caught here -/
theorem z_xci (C : ZC p s m args meth c X A nL cc own Ts ret) (hxw : xW s) (hxs : xS A s s.heap) {y : MethodName} {Cn : String} {b : Nat} {bytes : ByteArray} {ry : Option FieldType} {wsY ws9 : List Cond} {fr lo mc2 ms2 maxL index : Nat} {As rest : List Value} {wc : va_W} {En : String} (hM : CXi l y wsY fr lo mc2 ms2 X wc (.ref b :: As) En) (g : GoodIn Ts (wsV own index Cn y wsY)) (hw : wsY = Cond.code y bytes maxL ry :: ws9) (hd : y.cls = Cn ∧ y.cls ≠ "java/lang/invoke/MethodHandle" ∧ y.cls ≠ "java/lang/invoke/VarHandle" ∧ (parseMethodDescriptor y.desc).map (fun d => d.parameters.length) = some As.length) (hR : fr + 1 ≤ R.frames ∧ 8 + (maxL + 11) + lo ≤ R.locals) (hf : cells + mc2 ≤ R.cells ∧ slots + ms2 ≤ R.slots) {fs : List Value} {qc : u_T × Nat} (q0 ci : Nat) (hr : wc[q0]? = some (b, .inr (ci, fs))) (hrc : vwCl[ci]? = some (Cn, qc)) (isC isR perm : List Nat) (hC : isC.map (fun i => ws[i]?) = wc.map some) (hRr : isR.map (fun i => ws[i]?) = (isR.filterMap (fun i => ws[i]?)).map some) (hnC : va_nd isC = true) (hnR : va_nd isR = true) (hdis : ∀ i ∈ isR, i ∉ isC) (hnp : va_nd perm = true) (hp : perm.map (fun i => (isR.filterMap (fun i => ws[i]?) ++ wc)[i]?) = ws.map some) (hst : (rest.map fun v => v.category).sum ≤ 8) (d : decode cc pc = .ok (.invokevirtual index, 3)) (hs : st = As.reverse ++ .ref b :: rest)
    (pre : List ExceptionTableEntry) (x : ExceptionTableEntry) (suf : List ExceptionTableEntry) (hsplit : c.exceptionTable.toList = pre ++ x :: suf) (hpass : ∀ z ∈ pre, covers z pc = false ∨ (z.catchType ≠ 0 ∧ ∃ nm : String, (Cond.classLink own z.catchType nm).before args s = true ∧ va_Nc En nm s)) (hx : covers x pc = true) (h0 : x.catchType ≠ 0) (hlink : Cond.classLink own x.catchType En ∈ Ts) (hE : En ∈ xEs)
    (k : ∀ q : Nat, Z p l e R s m args below meth c X A nL Q (cells + mc2) (slots + ms2) ws lv x.handlerPc [.ref q]) : Z p l e R s m args below meth c X A nL Q cells slots ws lv pc st := by
  intro H locs ls hP hD hS hl
  subst hs
  have hPc := hP.sub (ws' := wc) isC (zfm hC)
  have hDc := hD.sub (ws' := wc) isC hnC hC
  have hFc := va_free (wc := wc) hD hS C.hA isC hC
  refine vx_calli (vx_runV (As := As) (rest := rest) ⟨C.ex, C.cb, C.ml, C.ow, C.ts⟩ (hM H.size) (cwV As.length C.ts g hw rfl rfl hd hR) ⟨xPre_blind X wc H.size (.ref b :: As), va_recv C.hK hPc hrc hr, fun U hU hW => ⟨rfl, ⟨by rw [hU], by rw [hU]; exact hPc, va_K.moved hW.alike C.hK, hDc.weaken (fun _ _ _ _ => trivial)⟩, hxw.warm hW, hxs.at hS hFc hU hW.alike⟩⟩ rfl rfl hl.1 rfl (lv_room hst) d hf) hS (fun q _ h => hFc q h) hFc (fun q _ h => hFc q h) (fun E ce q9 u t H1 locs1 ht hvm _ hB hz1 hk1 hS1 hce hcv hcl => ?_) (fun r u t H1 locs1 ht hvm hbad _ _ _ _ => absurd hbad id)
  obtain ⟨rfl, hP1, hK1, hD1⟩ := hB
  rw [ht] at hP1
  obtain ⟨hP2, hD2⟩ := va_join hP hD isC isR hC hRr hnR hdis hk1 hFc hP1 hD1
  exact vx_catch C.ow pre x suf hsplit hpass hx h0 (C.ts _ hlink) (va_Nw.use rfl (hxw.1 _ hE)) hce hcv hcl (k q9 H1 locs1 ls (hP2.sub perm (zfm hp)) (hD2.sub perm hnp hp) hS1 hl)
/-- a call that throws, caught here -/
theorem z_xcv (C : ZC p s m args meth c X A nL cc own Ts ret) (hxw : xW s) (hxs : xS A s s.heap) {y : MethodName} {Cn : String} {b : Nat} {bytes : ByteArray} {ry : Option FieldType} {wsY ws9 : List Cond} {fr lo mc2 ms2 maxL index : Nat} {As rest : List Value} {wc : va_W} {En : String} (hM : CXv l y wsY fr lo mc2 ms2 X wc (.ref b :: As) En) (g : GoodIn Ts (wsV own index Cn y wsY)) (hw : wsY = Cond.code y bytes maxL ry :: ws9) (hd : y.cls = Cn ∧ y.cls ≠ "java/lang/invoke/MethodHandle" ∧ y.cls ≠ "java/lang/invoke/VarHandle" ∧ (parseMethodDescriptor y.desc).map (fun d => d.parameters.length) = some As.length) (hR : fr + 1 ≤ R.frames ∧ 8 + (maxL + 11) + lo ≤ R.locals) (hf : cells + mc2 ≤ R.cells ∧ slots + ms2 ≤ R.slots) {fs : List Value} {qc : u_T × Nat} (q0 ci : Nat) (hr : wc[q0]? = some (b, .inr (ci, fs))) (hrc : vwCl[ci]? = some (Cn, qc)) (isC isR perm : List Nat) (hC : isC.map (fun i => ws[i]?) = wc.map some) (hRr : isR.map (fun i => ws[i]?) = (isR.filterMap (fun i => ws[i]?)).map some) (hnC : va_nd isC = true) (hnR : va_nd isR = true) (hdis : ∀ i ∈ isR, i ∉ isC) (hnp : va_nd perm = true) (hp : perm.map (fun i => (isR.filterMap (fun i => ws[i]?) ++ wc)[i]?) = ws.map some) (hst : (rest.map fun v => v.category).sum ≤ 8) (d : decode cc pc = .ok (.invokevirtual index, 3)) (hs : st = As.reverse ++ .ref b :: rest)
    (pre : List ExceptionTableEntry) (x : ExceptionTableEntry) (suf : List ExceptionTableEntry) (hsplit : c.exceptionTable.toList = pre ++ x :: suf) (hpass : ∀ z ∈ pre, covers z pc = false ∨ (z.catchType ≠ 0 ∧ ∃ nm : String, (Cond.classLink own z.catchType nm).before args s = true ∧ va_Nc En nm s)) (hx : covers x pc = true) (h0 : x.catchType ≠ 0) (hlink : Cond.classLink own x.catchType En ∈ Ts) (hE : En ∈ xEs)
    (k : ∀ q : Nat, Z p l e R s m args below meth c X A nL Q (cells + mc2) (slots + ms2) ws lv x.handlerPc [.ref q]) : Z p l e R s m args below meth c X A nL Q cells slots ws lv pc st := by
  intro H locs ls hP hD hS hl
  subst hs
  have hPc := hP.sub (ws' := wc) isC (zfm hC)
  have hDc := hD.sub (ws' := wc) isC hnC hC
  have hFc := va_free (wc := wc) hD hS C.hA isC hC
  refine vx_callv (vx_runV (As := As) (rest := rest) ⟨C.ex, C.cb, C.ml, C.ow, C.ts⟩ (hM H.size) (cwV As.length C.ts g hw rfl rfl hd hR) ⟨xPre_blind X wc H.size (.ref b :: As), va_recv C.hK hPc hrc hr, fun U hU hW => ⟨rfl, ⟨by rw [hU], by rw [hU]; exact hPc, va_K.moved hW.alike C.hK, hDc.weaken (fun _ _ _ _ => trivial)⟩, hxw.warm hW, hxs.at hS hFc hU hW.alike⟩⟩ rfl rfl hl.1 rfl (lv_room hst) d hf) hS (fun q _ h => hFc q h) hFc (fun q _ h => hFc q h) (fun E ce q9 u t H1 locs1 ht hvm _ hB hz1 hk1 hS1 hce hcv hcl => ?_) (fun u t H1 locs1 ht hvm hbad _ _ _ _ => absurd hbad id)
  obtain ⟨rfl, hP1, hK1, hD1⟩ := hB
  rw [ht] at hP1
  obtain ⟨hP2, hD2⟩ := va_join hP hD isC isR hC hRr hnR hdis hk1 hFc hP1 hD1
  exact vx_catch C.ow pre x suf hsplit hpass hx h0 (C.ts _ hlink) (va_Nw.use rfl (hxw.1 _ hE)) hce hcv hcl (k q9 H1 locs1 ls (hP2.sub perm (zfm hp)) (hD2.sub perm hnp hp) hS1 hl)
/-- a static call of a method with a table of its own, which returns -/
theorem z_cE (C : ZC p s m args meth c X A nL cc own Ts ret) (hxw : xW s) (hxs : xS A s s.heap) {y : MethodName} {bytes : ByteArray} {ry : Option FieldType} {hh : List (Nat × Nat × Nat × Nat)} {wsY ws9 : List Cond} {fr lo mc2 ms2 maxL index : Nat} {As rest : List Value} {wc : va_W} {r : Int32} {w1 : va_W} (hM : CE l y wsY fr lo mc2 ms2 X wc As r w1) (g : GoodIn Ts (va_wsS own index y wsY)) (hw : wsY = Cond.codeWith y bytes maxL ry hh :: ws9) (hd : y.cls ≠ "java/lang/invoke/MethodHandle" ∧ y.cls ≠ "java/lang/invoke/VarHandle" ∧ (parseMethodDescriptor y.desc).map (fun d => d.parameters.length) = some As.length) (hR : fr + 1 ≤ R.frames ∧ 8 + (maxL + 11) + lo ≤ R.locals) (hf : cells + mc2 ≤ R.cells ∧ slots + ms2 ≤ R.slots) (isC isR perm : List Nat) (hC : isC.map (fun i => ws[i]?) = wc.map some) (hRr : isR.map (fun i => ws[i]?) = (isR.filterMap (fun i => ws[i]?)).map some) (hnC : va_nd isC = true) (hnR : va_nd isR = true) (hdis : ∀ i ∈ isR, i ∉ isC) (hnp : va_nd perm = true) (w2 : va_W) (hp : perm.map (fun i => (isR.filterMap (fun i => ws[i]?) ++ w1)[i]?) = w2.map some) (hst : (rest.map fun v => v.category).sum ≤ 8) (d : decode cc pc = .ok (.invokestatic index, 3)) (hs : st = As.reverse ++ rest) (k : Z p l e R s m args below meth c X A nL Q (cells + mc2) (slots + ms2) w2 lv (pc + 3) (.int r :: rest)) : Z p l e R s m args below meth c X A nL Q cells slots ws lv pc st := by
  intro H locs ls hP hD hS hl
  subst hs
  have hPc := hP.sub (ws' := wc) isC (zfm hC)
  have hDc := hD.sub (ws' := wc) isC hnC hC
  have hFc := va_free (wc := wc) hD hS C.hA isC hC
  refine va_calli (vx_runSW (As := As) (rest := rest) ⟨C.ex, C.cb, C.ml, C.ow, C.ts⟩ (hM H.size) (vx_cwSW As.length C.ts g hw rfl rfl hd hR) ⟨xPre_blind X wc H.size As, fun U hU hW => ⟨rfl, ⟨by rw [hU], by rw [hU]; exact hPc, va_K.moved hW.alike C.hK, hDc.weaken (fun _ _ _ _ => trivial)⟩, hxw.warm hW, hxs.at hS hFc hU hW.alike⟩⟩ rfl rfl hl.1 rfl (lv_room hst) d hf) hS (fun q _ h => hFc q h) hFc (fun r9 u t H1 locs1 ht hvm hw1 hB hz1 hk1 hS1 => ?_)
  obtain ⟨hP1, hK1, hD1⟩ := hB
  rw [ht] at hP1
  obtain ⟨hP2, hD2⟩ := va_join hP hD isC isR hC hRr hnR hdis hk1 hFc hP1 hD1
  subst hw1
  exact k H1 locs1 ls (hP2.sub perm (zfm hp)) (hD2.sub perm hnp hp) hS1 hl
end XM
end
