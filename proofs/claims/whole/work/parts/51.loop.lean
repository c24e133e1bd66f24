theorem lw_cmp {L k : Nat} (hL : L ≤ 2048) (hk : k ≤ 2048) : (nI L - 4 < nI k) ↔ L < k + 4 := by
  have h1 : (nI L - 4).toInt = (L : Int) - 4 := by
    rw [Int32.toInt_sub, nI_toInt (by omega)]
    show Int.bmod ((L : Int) - 4) (2 ^ 32) = _
    exact Int.bmod_eq_of_le (by omega) (by omega)
  rw [fa_lt, h1, nI_toInt (by omega)]
  omega
set_option maxHeartbeats 4000000 in
set_option maxRecDepth 100000 in
theorem law_op {p : Program} {l : Launch} {e : Env} {s : State} {m : MethodId} {args : Array Value} {below : List Frame} {meth : Method} {c : Code} {Q : State → Prop} {X : zX} {A : Nat → Prop} (C : ZC p s m args meth c X A 7 cL_law RL wsL_law (some .boolean)) (hxw : xW s) (hxs : xS A s s.heap) {b0 L : Nat} {sc : Nat → Int32} (hX : va_X b0 L sc s s.heap) (hbl : b0 < s.heap.size) (hbA : ¬ A b0) (hL : L ≤ 2048) (hl : l.stackTraces = false) (h a b na nf : Nat → Nat) (o : Nat) (d : Nat → Nat) {gP gT gA gF g : zG} {fo : Nat → Int64} {n i : Nat} (hi : i + 4 ≤ L) (hn : n < 512) {cells slots : Nat} (hc : cells + 1 ≤ 1082) (hs : slots + 6 ≤ 16674) (hR : REL n gP gA gF g)
    (K : ∀ (gP1 gT1 gA1 gF1 : zG) (fo1 : Nat → Int64) (g1 : zG), REL (n + 1) gP1 gA1 gF1 g1 → Z p l e room_1 s m args below meth c X A 7 Q (cells + 1) (slots + 6) (KW h a b na nf o d X gP1 gT1 gA1 gF1 fo1 g1) [(0, .ref b0), (1, .ref (h 0)), (2, .ref (d 0)), (3, .ref o), (4, .int (nI i))] 1115 []) (j : Nat) (hj : j < 32) : Z p l e room_1 s m args below meth c X A 7 Q cells slots (KW h a b na nf o d X gP gT gA gF fo g) [(0, .ref b0), (1, .ref (h 0)), (2, .ref (d 0)), (3, .ref o), (4, .int (nI i))] 39 [.int (nI j)] := by
  obtain ⟨yr, hmp⟩ := rel_mp hR
  have hyr := mp_yr hmp
  have hv : vp_in (g 0 89) 61 := by rw [mp_year hmp]; exact vp_in_nI (by omega) (by decide)
  have hb : 999 * n + 240 * yr + 4800 ≤ 1000000 := by omega
  have hf : ∃ fl, fl ≤ 720 ∧ g 0 90 = nI fl := by
    obtain ⟨fl, h1, h2⟩ := mp_fl hmp
    exact ⟨fl, by omega, h2⟩
  by_cases h17 : 17 < j
  · refine z_tout C 1115 dL_law_39 (Or.inr (by rw [nI_toInt (by omega)]; omega)) (by decide) ?_
    exact z_wide (cells + 1) (slots + 6) (by omega) (by omega) (K _ _ _ _ _ _ (rel_skip hR))
  have hjj : j = 0 ∨ j = 1 ∨ j = 2 ∨ j = 3 ∨ j = 4 ∨ j = 5 ∨ j = 6 ∨ j = 7 ∨ j = 8 ∨ j = 9 ∨ j = 10 ∨ j = 11 ∨ j = 12 ∨ j = 13 ∨ j = 14 ∨ j = 15 ∨ j = 16 ∨ j = 17 := by omega
  rcases hjj with rfl | rfl | rfl | rfl | rfl | rfl | rfl | rfl | rfl | rfl | rfl | rfl | rfl | rfl | rfl | rfl | rfl | rfl
  · refine z_tin C 124 dL_law_39 (by decide) (by decide) rfl (by decide) ?_
    obtain ⟨r, gP1, gT1, gA1, gF1, fo1, hE, h10, heq, hR1⟩ := op_land l hl X h a b na nf o hn hR gT fo (sc (i + 1)) (sc (i + 2))
    exact bL_land C hxw hxs hX hbl hbA hL h a b na nf o d gP gT gA gF g fo i hi cells slots hc hs gP1 gT1 gA1 gF1 _ fo1 r _ hE (mX6_land l X d g (sc (i + 1)) (sc (i + 2)) ) ⟨by decide, by decide⟩ h10 heq (K _ _ _ _ _ _ hR1)
  · refine z_tin C 192 dL_law_39 (by decide) (by decide) rfl (by decide) ?_
    obtain ⟨r, gP1, gT1, gA1, gF1, fo1, hE, h10, heq, hR1⟩ := op_sea l hl X h a b na nf o hn hR gT fo (sc (i + 1))
    exact bL_sea C hxw hxs hX hbl hbA hL h a b na nf o d gP gT gA gF g fo i hi cells slots hc hs gP1 gT1 gA1 gF1 _ fo1 r _ hE (mX6_sea l X d g (sc (i + 1)) ) ⟨by decide, by decide⟩ h10 heq (K _ _ _ _ _ _ hR1)
  · refine z_tin C 248 dL_law_39 (by decide) (by decide) rfl (by decide) ?_
    obtain ⟨r, gP1, gT1, gA1, gF1, fo1, hE, h10, hR1⟩ := op_climate l hl X h a b na nf o hn hR gT fo (sc (i + 1)) (sc (i + 2)) (sc (i + 3))
    exact bL_climate C hxw hxs hX hbl hbA hL h a b na nf o d gP gT gA gF g fo i hi cells slots hc hs gP1 gT1 gA1 gF1 _ fo1 r hE (mX6_climate l X d g (sc (i + 1)) (sc (i + 2)) (sc (i + 3)) ) ⟨by decide, by decide⟩ h10 (K _ _ _ _ _ _ hR1)
  · refine z_tin C 308 dL_law_39 (by decide) (by decide) rfl (by decide) ?_
    obtain ⟨r, gP1, gT1, gA1, gF1, fo1, hE, h10, heq, hR1⟩ := op_ice l hl X h a b na nf o hn hR gT fo (sc (i + 1)) (sc (i + 2))
    exact bL_ice C hxw hxs hX hbl hbA hL h a b na nf o d gP gT gA gF g fo i hi cells slots hc hs gP1 gT1 gA1 gF1 _ fo1 r _ hE (mX6_ice l X d g (sc (i + 1)) (sc (i + 2)) hv) ⟨by decide, by decide⟩ h10 heq (K _ _ _ _ _ _ hR1)
  · refine z_tin C 376 dL_law_39 (by decide) (by decide) rfl (by decide) ?_
    obtain ⟨gP1, gT1, gA1, gF1, hE, hR1⟩ := op_ash l hl X h a b na nf o hn hR gT fo
    exact bL_ash C hxw hxs hX hbl hbA hL h a b na nf o d gP gT gA gF g fo i hi cells slots hc hs gP1 gT1 gA1 gF1 _ fo _ hE ⟨by decide, by decide⟩ (mX6_ash l X d g  hv (rel_ash hR)) ⟨by decide, by decide⟩ rfl (K _ _ _ _ _ _ hR1)
  · refine z_tin C 389 dL_law_39 (by decide) (by decide) rfl (by decide) ?_
    obtain ⟨r, gP1, gT1, gA1, gF1, fo1, hE, h10, heq, hR1⟩ := op_pass l hl X h a b na nf o hn hR gT fo (sc (i + 1))
    exact bL_pass C hxw hxs hX hbl hbA hL h a b na nf o d gP gT gA gF g fo i hi cells slots hc hs gP1 gT1 gA1 gF1 _ fo1 r _ hE (mX6_pass l X d g (sc (i + 1)) _ yr hmp hb (rel_fc hR)) ⟨by decide, by decide⟩ h10 heq (K _ _ _ _ _ _ hR1)
  · refine z_tin C 445 dL_law_39 (by decide) (by decide) rfl (by decide) ?_
    obtain ⟨r, gP1, gT1, gA1, gF1, fo1, hE, h10, heq, hR1⟩ := op_cellIs l hl X h a b na nf o hn hR gT fo (sc (i + 1)) (sc (i + 2))
    exact bL_cellIs C hxw hxs hX hbl hbA hL h a b na nf o d gP gT gA gF g fo i hi cells slots hc hs gP1 gT1 gA1 gF1 _ fo1 r _ hE (mX6_cellIs l X d g (sc (i + 1)) (sc (i + 2)) ) ⟨by decide, by decide⟩ h10 heq (K _ _ _ _ _ _ hR1)
  · refine z_tin C 513 dL_law_39 (by decide) (by decide) rfl (by decide) ?_
    obtain ⟨r, gP1, gT1, gA1, gF1, fo1, hE, h10, heq, hR1⟩ := op_layer l hl X h a b na nf o hn hR gT fo (sc (i + 1)) (sc (i + 2))
    exact bL_layer C hxw hxs hX hbl hbA hL h a b na nf o d gP gT gA gF g fo i hi cells slots hc hs gP1 gT1 gA1 gF1 _ fo1 r _ hE (mX6_layer l X d g (sc (i + 1)) (sc (i + 2)) ) ⟨by decide, by decide⟩ h10 heq (K _ _ _ _ _ _ hR1)
  · refine z_tin C 581 dL_law_39 (by decide) (by decide) rfl (by decide) ?_
    obtain ⟨r, gP1, gT1, gA1, gF1, fo1, hE, h10, heq, hR1⟩ := op_yearAt l hl X h a b na nf o hn hR gT fo (sc (i + 1)) (sc (i + 2))
    exact bL_yearAt C hxw hxs hX hbl hbA hL h a b na nf o d gP gT gA gF g fo i hi cells slots hc hs gP1 gT1 gA1 gF1 _ fo1 r _ hE (mX6_yearAt l X d g (sc (i + 1)) (sc (i + 2)) ) ⟨by decide, by decide⟩ h10 heq (K _ _ _ _ _ _ hR1)
  · refine z_tin C 649 dL_law_39 (by decide) (by decide) rfl (by decide) ?_
    obtain ⟨r, gP1, gT1, gA1, gF1, fo1, hE, h10, heq, hR1⟩ := op_common l hl X h a b na nf o hn hR gT fo (sc (i + 1)) (sc (i + 2))
    exact bL_common C hxw hxs hX hbl hbA hL h a b na nf o d gP gT gA gF g fo i hi cells slots hc hs gP1 gT1 gA1 gF1 _ fo1 r _ hE (mX6_common l X d g (sc (i + 1)) (sc (i + 2)) ) ⟨by decide, by decide⟩ h10 heq (K _ _ _ _ _ _ hR1)
  · refine z_tin C 717 dL_law_39 (by decide) (by decide) rfl (by decide) ?_
    obtain ⟨gP1, gT1, gA1, gF1, hE, hR1⟩ := op_floods l hl X h a b na nf o hn hR gT fo
    exact bL_floods C hxw hxs hX hbl hbA hL h a b na nf o d gP gT gA gF g fo i hi cells slots hc hs gP1 gT1 gA1 gF1 _ fo _ hE ⟨by decide, by decide⟩ (mX6_floods l X d g  ) ⟨by decide, by decide⟩ rfl (K _ _ _ _ _ _ hR1)
  · refine z_tin C 730 dL_law_39 (by decide) (by decide) rfl (by decide) ?_
    obtain ⟨r, gP1, gT1, gA1, gF1, fo1, hE, h10, heq, hR1⟩ := op_flood l hl X h a b na nf o hn hR gT fo (sc (i + 1)) (sc (i + 2))
    exact bL_flood C hxw hxs hX hbl hbA hL h a b na nf o d gP gT gA gF g fo i hi cells slots hc hs gP1 gT1 gA1 gF1 _ fo1 r _ hE (mX6_flood l X d g (sc (i + 1)) (sc (i + 2)) hf) ⟨by decide, by decide⟩ h10 heq (K _ _ _ _ _ _ hR1)
  · refine z_tin C 798 dL_law_39 (by decide) (by decide) rfl (by decide) ?_
    obtain ⟨r, gP1, gT1, gA1, gF1, fo1, hE, h10, heq, hR1⟩ := op_front l hl X h a b na nf o hn hR gT fo (sc (i + 1))
    exact bL_front C hxw hxs hX hbl hbA hL h a b na nf o d gP gT gA gF g fo i hi cells slots hc hs gP1 gT1 gA1 gF1 _ fo1 r _ hE (mX6_front l X d g (sc (i + 1)) hv) ⟨by decide, by decide⟩ h10 heq (K _ _ _ _ _ _ hR1)
  · refine z_tin C 854 dL_law_39 (by decide) (by decide) rfl (by decide) ?_
    obtain ⟨r, gP1, gT1, gA1, gF1, fo1, hE, h10, heq, hR1⟩ := op_total l hl X h a b na nf o hn hR gT fo (sc (i + 1))
    exact bL_total C hxw hxs hX hbl hbA hL h a b na nf o d gP gT gA gF g fo i hi cells slots hc hs gP1 gT1 gA1 gF1 _ fo1 r _ hE (mX6_total l X d g (sc (i + 1)) ) ⟨by decide, by decide⟩ h10 heq (K _ _ _ _ _ _ hR1)
  · refine z_tin C 910 dL_law_39 (by decide) (by decide) rfl (by decide) ?_
    obtain ⟨gP1, gT1, gA1, gF1, hE, hR1⟩ := op_iceAnew l hl X h a b na nf o hn hR gT fo
    exact bL_iceAnew C hxw hxs hX hbl hbA hL h a b na nf o d gP gT gA gF g fo i hi cells slots hc hs gP1 gT1 gA1 gF1 _ fo _ hE ⟨by decide, by decide⟩ (mX6_iceAnew l X d g  ) ⟨by decide, by decide⟩ rfl (K _ _ _ _ _ _ hR1)
  · refine z_tin C 923 dL_law_39 (by decide) (by decide) rfl (by decide) ?_
    obtain ⟨r, gP1, gT1, gA1, gF1, fo1, hE, h10, heq, hR1⟩ := op_would l hl X h a b na nf o hn hR gT fo (sc (i + 1)) (sc (i + 2)) (sc (i + 3))
    exact bL_would C hxw hxs hX hbl hbA hL h a b na nf o d gP gT gA gF g fo i hi cells slots hc hs gP1 gT1 gA1 gF1 _ fo1 r _ hE (mX6_would l X d g (sc (i + 1)) (sc (i + 2)) (sc (i + 3)) _ yr hmp hb) ⟨by decide, by decide⟩ h10 heq (K _ _ _ _ _ _ hR1)
  · refine z_tin C 1003 dL_law_39 (by decide) (by decide) rfl (by decide) ?_
    obtain ⟨r, gP1, gT1, gA1, gF1, fo1, hE, h10, heq, hR1⟩ := op_forecast l hl X h a b na nf o hn hR gT fo (sc (i + 1))
    exact bL_forecast C hxw hxs hX hbl hbA hL h a b na nf o d gP gT gA gF g fo i hi cells slots hc hs gP1 gT1 gA1 gF1 _ fo1 r _ hE (mX6_forecast l X d g (sc (i + 1)) _ yr hmp hb (rel_fc hR)) ⟨by decide, by decide⟩ h10 heq (K _ _ _ _ _ _ hR1)
  · refine z_tin C 1059 dL_law_39 (by decide) (by decide) rfl (by decide) ?_
    obtain ⟨r, gP1, gT1, gA1, gF1, fo1, hE, h10, heq, hR1⟩ := op_miss l hl X h a b na nf o hn hR gT fo (sc (i + 1))
    exact bL_miss C hxw hxs hX hbl hbA hL h a b na nf o d gP gT gA gF g fo i hi cells slots hc hs gP1 gT1 gA1 gF1 _ fo1 r _ hE (mX6_miss l X d g (sc (i + 1)) (rel_fc hR)) ⟨by decide, by decide⟩ h10 heq (K _ _ _ _ _ _ hR1)
set_option maxHeartbeats 4000000 in
set_option maxRecDepth 100000 in
theorem law_loop {p : Program} {l : Launch} {e : Env} {s : State} {m : MethodId} {args : Array Value} {below : List Frame} {meth : Method} {c : Code} {Q : State → Prop} {X : zX} {A : Nat → Prop} (C : ZC p s m args meth c X A 7 cL_law RL wsL_law (some .boolean)) (hxw : xW s) (hxs : xS A s s.heap) {b0 L : Nat} {sc : Nat → Int32} (hX : va_X b0 L sc s s.heap) (hbl : b0 < s.heap.size) (hbA : ¬ A b0) (hL : L ≤ 2048) (hl : l.stackTraces = false) (h a b na nf : Nat → Nat) (o : Nat) (d : Nat → Nat)
    (hEnd : ∀ (cells slots : Nat) (ws : va_W) (lv : List (Nat × Value)), cells ≤ 1082 → slots ≤ 16674 → Z p l e room_1 s m args below meth c X A 7 Q cells slots ws lv 1122 [.int 1]) :
    ∀ (q n : Nat) (gP gT gA gF g : zG) (fo : Nat → Int64), n + q = 512 → REL n gP gA gF g → Z p l e room_1 s m args below meth c X A 7 Q (49 + n) (8428 + 6 * n) (KW h a b na nf o d X gP gT gA gF fo g) [(0, .ref b0), (1, .ref (h 0)), (2, .ref (d 0)), (3, .ref o), (4, .int (nI (4 * n)))] 23 [] := by
  intro q
  induction q with
  | zero =>
    intro n gP gT gA gF g fo hnq hR
    refine z_il C dL_law_23 4 rfl ?_
    refine z_aln C dL_law_25 0 rfl ?_
    refine z_slen C hX hbl hbA dL_law_26 ?_
    refine z_ic C dL_law_27 4 (by decide) ?_
    refine z_isub C dL_law_28 _ rfl ?_
    refine z_ic_gt C 1121 dL_law_29 (by decide) (fun _ => ?_) (fun h => absurd ((lw_cmp hL (by omega)).mpr (by omega)) h)
    refine z_ic C dL_law_1121 1 (by decide) ?_
    exact hEnd _ _ _ _ (by omega) (by omega)
  | succ q ih =>
    intro n gP gT gA gF g fo hnq hR
    refine z_il C dL_law_23 4 rfl ?_
    refine z_aln C dL_law_25 0 rfl ?_
    refine z_slen C hX hbl hbA dL_law_26 ?_
    refine z_ic C dL_law_27 4 (by decide) ?_
    refine z_isub C dL_law_28 _ rfl ?_
    refine z_ic_gt C 1121 dL_law_29 (by decide) (fun _ => ?_) (fun hcmp => ?_)
    · refine z_ic C dL_law_1121 1 (by decide) ?_
      exact hEnd _ _ _ _ (by omega) (by omega)
    have hlt : 4 * n + 4 ≤ L := by
      have h1 := mt (lw_cmp (k := 4 * n) hL (by omega)).mpr hcmp
      omega
    refine z_aln C dL_law_32 0 rfl ?_
    refine z_il C dL_law_33 4 rfl ?_
    refine z_sld C hX hbl hbA (4 * n) dL_law_35 rfl (by omega) hL ?_
    refine z_bp C dL_law_36 31 (by decide) ?_
    obtain ⟨j, hj, hx⟩ := pk_andE (sc (4 * n)) (m := 31) 5 (by decide)
    refine z_iand C dL_law_38 (nI j) hx ?_
    refine law_op (cells := 49 + n) (slots := 8428 + 6 * n) C hxw hxs hX hbl hbA hL hl h a b na nf o d hlt (by omega) (by omega) (by omega) hR (fun gP1 gT1 gA1 gF1 fo1 g1 hR1 => ?_) j (by omega)
    refine z_wide (49 + (n + 1)) (8428 + 6 * (n + 1)) (by omega) (by omega) ?_
    refine z_inc C 4 (nI (4 * (n + 1))) [(4, .int (nI (4 * (n + 1)))), (0, .ref b0), (1, .ref (h 0)), (2, .ref (d 0)), (3, .ref o)] dL_law_1115 rfl (nI_add (4 * n) 4) (by decide) rfl ?_
    refine z_go C 23 dL_law_1118 (by decide) ?_
    refine z_lv [1, 2, 3, 4, 0] [(0, .ref b0), (1, .ref (h 0)), (2, .ref (d 0)), (3, .ref o), (4, .int (nI (4 * (n + 1))))] rfl ?_
    exact ih (n + 1) gP1 gT1 gA1 gF1 g1 fo1 (by omega) hR1
set_option maxHeartbeats 4000000 in
set_option maxRecDepth 100000 in
theorem law_start {p : Program} {l : Launch} {e : Env} {s : State} {m : MethodId} {args : Array Value} {below : List Frame} {meth : Method} {c : Code} {Q : State → Prop} {X : zX} {A : Nat → Prop} (C : ZC p s m args meth c X A 7 cL_law RL wsL_law (some .boolean)) (hxw : xW s) (hxs : xS A s s.heap) {b0 L : Nat} {sc : Nat → Int32} (hX : va_X b0 L sc s s.heap) (hbl : b0 < s.heap.size) (hbA : ¬ A b0) (hL : L ≤ 2048) (hl : l.stackTraces = false) (hnw : nW s)
    (hEnd : ∀ (cells slots : Nat) (ws : va_W) (lv : List (Nat × Value)), cells ≤ 1082 → slots ≤ 16674 → Z p l e room_1 s m args below meth c X A 7 Q cells slots ws lv 1122 [.int 1]) : Z p l e room_1 s m args below meth c X A 7 Q 0 0 [] [(0, .ref b0)] 0 [] := by
  refine z_new (N := 4) (ci := 5) C [.null, .null, .null, .null] dL_law_0 inlX5 tyX5_ok (by decide +kernel) (by decide +kernel) (by decide +kernel) rfl (fun j hj => by rcases (show j = 0 ∨ j = 1 ∨ j = 2 ∨ j = 3 by omega) with rfl | rfl | rfl | rfl <;> rfl) (Nat.le_of_ble_eq_true rfl) (Nat.le_of_ble_eq_true rfl) (fun q0 => ?_)
  refine z_dup C dL_law_3 rfl ?_
  refine z_cIuN (S := (Nat → Nat) × (Nat → Nat) × (Nat → Nat) × (Nat → Nat)) (As := []) (rest := [.ref q0]) C (mX5_init l X q0) gL_law_X5_init rfl hnw (by decide +kernel) (by decide +kernel) (by decide +kernel) rfl ⟨by decide, by decide, (by decide : (parseMethodDescriptor yX5_init.desc).map (fun d => d.parameters.length) = some 0)⟩ ⟨by decide, by decide⟩ ⟨by decide, by decide⟩ [0] [] [0, 1, 2, 3, 4, 5, 6, 7, 8, 9, 10, 11, 12, 13, 14, 15, 16, 17, 18, 19, 20, 21, 22, 23, 24, 25, 26, 27, 28, 29, 30, 31, 32, 33, 34, 35, 36] rfl rfl (by decide) (by decide) (by decide) (by decide) (fun u => (IW (ad0 q0 (fun _ => 0)) u.1 u.2.1 u.2.2.1 u.2.2.2 X gL0 gL0 gA0 gF0)) (fun _ => rfl) (Nat.le_of_ble_eq_true rfl) dL_law_4 rfl (fun u => ?_)
  refine z_asn C 1 [(1, .ref q0), (0, .ref b0)] dL_law_7 rfl (by decide) rfl ?_
  refine z_new (N := 16) (ci := 6) C [.int 0, .int 0, .int 0, .int 0, .int 0, .null, .null, .null, .null, .null, .null, .int 0, .null, .null, .null, .null] dL_law_8 inlX6 tyX6_ok (by decide +kernel) (by decide +kernel) (by decide +kernel) rfl (fun j hj => by rcases (show j = 0 ∨ j = 1 ∨ j = 2 ∨ j = 3 ∨ j = 4 ∨ j = 5 ∨ j = 6 ∨ j = 7 ∨ j = 8 ∨ j = 9 ∨ j = 10 ∨ j = 11 ∨ j = 12 ∨ j = 13 ∨ j = 14 ∨ j = 15 by omega) with rfl | rfl | rfl | rfl | rfl | rfl | rfl | rfl | rfl | rfl | rfl | rfl | rfl | rfl | rfl | rfl <;> rfl) (Nat.le_of_ble_eq_true rfl) (Nat.le_of_ble_eq_true rfl) (fun q2 => ?_)
  refine z_dup C dL_law_11 rfl ?_
  refine z_cIu (S := Nat → Nat) (As := []) (rest := [.ref q2]) C (mX6_init l X q2) gL_law_X6_init rfl (by decide +kernel) (by decide +kernel) (by decide +kernel) rfl ⟨by decide, by decide, (by decide : (parseMethodDescriptor yX6_init.desc).map (fun d => d.parameters.length) = some 0)⟩ ⟨by decide, by decide⟩ ⟨by decide, by decide⟩ [37] [0, 1, 2, 3, 4, 5, 6, 7, 8, 9, 10, 11, 12, 13, 14, 15, 16, 17, 18, 19, 20, 21, 22, 23, 24, 25, 26, 27, 28, 29, 30, 31, 32, 33, 34, 35, 36] [0, 1, 2, 3, 4, 5, 6, 7, 8, 9, 10, 11, 12, 13, 14, 15, 16, 17, 18, 19, 20, 21, 22, 23, 24, 25, 26, 27, 28, 29, 30, 31, 32, 33, 34, 35, 36, 37, 38, 39, 40, 41, 42, 43, 44, 45, 46, 47] rfl rfl (by decide) (by decide) (by decide) (by decide) (fun w => (IW (ad0 q0 (fun _ => 0)) u.1 u.2.1 u.2.2.1 u.2.2.2 X gL0 gL0 gA0 gF0) ++ (MW (ad0 q2 w) X gM0)) (fun _ => rfl) (Nat.le_of_ble_eq_true rfl) dL_law_12 rfl (fun w => ?_)
  refine z_asn C 2 [(2, .ref q2), (1, .ref q0), (0, .ref b0)] dL_law_15 rfl (by decide) rfl ?_
  refine z_ic C dL_law_16 1 (by decide) ?_
  refine z_newa C 2 X.2.2.2 1 (1, .inr (.inl (fun _ => 0))) .long dL_law_17 rfl rfl (Or.inr (Or.inr rfl)) (by decide +kernel) (fun cA => rfl) (by decide) (by decide) (by decide) (Nat.le_of_ble_eq_true rfl) (Nat.le_of_ble_eq_true rfl) (fun q3 => ?_)
  refine z_world [0, 1, 2, 3, 4, 5, 6, 7, 8, 9, 10, 11, 12, 13, 14, 15, 16, 17, 18, 19, 20, 21, 22, 23, 24, 25, 26, 27, 28, 29, 30, 31, 32, 33, 34, 35, 36, 48, 37, 38, 39, 40, 41, 42, 43, 44, 45, 46, 47] (KW (ad0 q0 (fun _ => 0)) u.1 u.2.1 u.2.2.1 u.2.2.2 q3 (ad0 q2 w) X gL0 gL0 gA0 gF0 (fun _ => 0) gM0) rfl (by decide) ?_
  refine z_asn C 3 [(3, .ref q3), (2, .ref q2), (1, .ref q0), (0, .ref b0)] dL_law_19 rfl (by decide) rfl ?_
  refine z_ic C dL_law_20 0 (by decide) ?_
  refine z_is C [(4, .int 0), (3, .ref q3), (2, .ref q2), (1, .ref q0), (0, .ref b0)] dL_law_21 (by decide) rfl ?_
  refine z_lv [4, 3, 2, 1, 0] [(0, .ref b0), (1, .ref q0), (2, .ref q2), (3, .ref q3), (4, .int (nI (4 * 0)))] rfl ?_
  exact law_loop C hxw hxs hX hbl hbA hL hl (ad0 q0 (fun _ => 0)) u.1 u.2.1 u.2.2.1 u.2.2.2 q3 (ad0 q2 w) hEnd 512 0 gL0 gL0 gA0 gF0 gM0 (fun _ => 0) rfl rel_init
