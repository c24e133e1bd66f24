theorem rcl {x : Nat} (h : x ≤ 600130) : x ≤ room_1.cells := h
theorem rsl {x : Nat} (h : x ≤ 7301079) : x ≤ room_1.slots := h
theorem nI_nlo {a : Nat} (h : a < 2 ^ 31) : ¬ nI a < (-300) := fun q => absurd (fa_trans q (show (-300 : Int32) ≤ 0 by decide)) (nI_pos h)
theorem sub_lo {a : Nat} (h : a ≤ 600) : ¬ nI a - 300 < (-300) := by
  have e := pk_sub_toInt (a := a) (b := 300) (by omega) (by decide)
  have e3 : (-300 : Int32).toInt = -300 := by decide
  have e4 : nI 300 = (300 : Int32) := rfl
  rw [e4] at e
  rw [fa_lt, e, e3]
  omega
theorem sub_hi {a : Nat} (h : a ≤ 600) : ¬ 300 < nI a - 300 := by
  have e := pk_sub_toInt (a := a) (b := 300) (by omega) (by decide)
  have e3 : (300 : Int32).toInt = 300 := by decide
  have e4 : nI 300 = (300 : Int32) := rfl
  rw [e4] at e
  rw [fa_lt, e, e3]
  omega
set_option maxHeartbeats 4000000 in
set_option maxRecDepth 100000 in
theorem b_ice200 {p : Program} {l : Launch} {e : Env} {s : State} {m : MethodId} {args : Array Value} {below : List Frame} {meth : Method} {c : Code} {Q : State → Prop} {X : zX} {A : Nat → Prop} (C : ZC p s m args meth c X A 15 cL_law RL wsL_law (some .boolean)) (hxw : xW s) (hxs : xS A s s.heap) (hl : l.stackTraces = false) (h a b na nf ho ao bo no mo : Nat → Nat) {gP gT gA gF pT pF : zG} {n yr nn k v b0 : Nat} (hn : n < 511) (hI : IV n yr gP gA) (hF : gF 2 0 = nI nn) (hnn : nn ≤ 10) (hv : v < 2 ^ 30) {cells slots : Nat} (hc : cells + 8 ≤ 600130) (hs : slots + 64 ≤ 7301079) {z q mo1 : Nat} (h1 : 1 ≤ mo1) (h2 : mo1 ≤ 999) (K : ∀ (gP1 gT1 gA1 gF1 pT1 pF1 : zG) (yr1 nn1 : Nat), IV (n + 1) yr1 gP1 gA1 → gF1 2 0 = nI nn1 → nn1 ≤ 10 → Z p l e room_1 s m args below meth c X A 15 Q (cells + 8) (slots + 64) (QW h a b na nf ho ao bo no mo X gP1 gT1 gA1 gF1 gP1 pT1 gA1 pF1) [(0, .ref b0), (1, .ref (h 0)), (2, .ref (ho 0)), (3, .int (nI yr1)), (4, .int (nI nn1)), (5, .int 1), (6, .int (nI k)), (8, .int (nI v))] 683 []) : Z p l e room_1 s m args below meth c X A 15 Q cells slots (QW h a b na nf ho ao bo no mo X gP gT gA gF gP pT gA pF) [(0, .ref b0), (1, .ref (h 0)), (2, .ref (ho 0)), (3, .int (nI yr)), (4, .int (nI nn)), (5, .int 1), (6, .int (nI k)), (7, .int (nI z)), (8, .int (nI v)), (9, .int (nI q)), (10, .int (nI mo1))] 200 [] := by
  have hk : v % 12 < 12 := by omega
  have n1 : ¬ nI mo1 < 1 := nI_nlt (b := 1) h1 (by omega)
  have n2 : ¬ 999 < nI mo1 := nI_nlt (a := 999) h2 (by decide)
  by_cases h3 : 9999 < gP 8 (v % 12) + nI mo1
  · skip
    refine z_aln C dL_law_200 1 rfl ?_
    refine z_ic C dL_law_201 2 (by decide) ?_
    refine z_il C dL_law_202 8 rfl ?_
    refine z_bp C dL_law_204 12 (by decide) ?_
    refine z_irem C dL_law_206 (by decide) (nI (v % 12)) (pk_rem (a := v) (d := 12) (by omega) (by omega) (by omega)) ?_
    refine z_il C dL_law_207 10 rfl ?_
    refine q_o (As := [.ref (h 0), .int 2, .int (nI (v % 12)), .int (nI mo1)]) (rest := []) C hxw hxs (hD_ice_x3 l X h a b na nf gP gT gA gF (nI (v % 12)) (nI mo1) (mX5_ice_x3 l hl X h a b na nf gP gT gA gF (v % 12) (nI mo1) hk n1 n2 h3) ⟨by decide, by decide⟩) gL_law_L_does rfl ⟨by decide, by decide, (by decide : (parseMethodDescriptor yL_does.desc).map (fun d => d.parameters.length) = some 4)⟩ ⟨by decide, by decide⟩ ⟨rcl (by omega), rsl (by omega)⟩ (Nat.le_of_ble_eq_true rfl) dL_law_209 rfl ?_
    refine z_aln C dL_law_212 2 rfl ?_
    refine z_ic C dL_law_213 2 (by decide) ?_
    refine z_il C dL_law_214 8 rfl ?_
    refine z_bp C dL_law_216 12 (by decide) ?_
    refine z_irem C dL_law_218 (by decide) (nI (v % 12)) (pk_rem (a := v) (d := 12) (by omega) (by omega) (by omega)) ?_
    refine z_il C dL_law_219 10 rfl ?_
    refine q_p (As := [.ref (ho 0), .int 2, .int (nI (v % 12)), .int (nI mo1)]) (rest := [.int (-9000003)]) C hxw hxs (hD_ice_x3 l X ho ao bo no mo gP pT gA pF (nI (v % 12)) (nI mo1) (mX5_ice_x3 l hl X ho ao bo no mo gP pT gA pF (v % 12) (nI mo1) hk n1 n2 h3) ⟨by decide, by decide⟩) gL_law_L_does rfl ⟨by decide, by decide, (by decide : (parseMethodDescriptor yL_does.desc).map (fun d => d.parameters.length) = some 4)⟩ ⟨by decide, by decide⟩ ⟨rcl (by omega), rsl (by omega)⟩ (Nat.le_of_ble_eq_true rfl) dL_law_221 rfl ?_
    refine z_ic_ne C 231 dL_law_224 (by decide) (fun c1 => (c1 rfl).elim) (fun c1 => ?_)
    refine z_ic C dL_law_227 1 (by decide) ?_
    refine z_go C 232 dL_law_228 (by decide) ?_
    refine z_is C [(5, .int 1), (0, .ref b0), (1, .ref (h 0)), (2, .ref (ho 0)), (3, .int (nI yr)), (4, .int (nI nn)), (6, .int (nI k)), (7, .int (nI z)), (8, .int (nI v)), (9, .int (nI q)), (10, .int (nI mo1))] dL_law_232 (by decide) rfl ?_
    refine z_go C 683 dL_law_234 (by decide) ?_
    refine z_wide (cells + 8) (slots + 64) (by omega) (by omega) ?_
    refine z_lv [1, 2, 3, 4, 5, 0, 6, 8] [(0, .ref b0), (1, .ref (h 0)), (2, .ref (ho 0)), (3, .int (nI yr)), (4, .int (nI nn)), (5, .int 1), (6, .int (nI k)), (8, .int (nI v))] rfl ?_
    exact K _ _ _ _ _ _ yr nn (iv_skip hI) hF hnn
  · skip
    refine z_aln C dL_law_200 1 rfl ?_
    refine z_ic C dL_law_201 2 (by decide) ?_
    refine z_il C dL_law_202 8 rfl ?_
    refine z_bp C dL_law_204 12 (by decide) ?_
    refine z_irem C dL_law_206 (by decide) (nI (v % 12)) (pk_rem (a := v) (d := 12) (by omega) (by omega) (by omega)) ?_
    refine z_il C dL_law_207 10 rfl ?_
    refine q_o (As := [.ref (h 0), .int 2, .int (nI (v % 12)), .int (nI mo1)]) (rest := []) C hxw hxs (hD_ice (gP1 := (uI gP (v % 12) (nI mo1))) (gT1 := gT) (gA1 := gA) (gF1 := gF) (r := (upd (gP 8) (v % 12) (gP 8 (v % 12) + nI mo1) (v % 12))) l X h a b na nf gP gT gA gF (nI (v % 12)) (nI mo1) (mX5_ice l X h a b na nf gP gT gA gF (v % 12) (nI mo1) hk n1 n2 h3 (iv_in hI)) ⟨by decide, by decide⟩) gL_law_L_does rfl ⟨by decide, by decide, (by decide : (parseMethodDescriptor yL_does.desc).map (fun d => d.parameters.length) = some 4)⟩ ⟨by decide, by decide⟩ ⟨rcl (by omega), rsl (by omega)⟩ (Nat.le_of_ble_eq_true rfl) dL_law_209 rfl ?_
    refine z_aln C dL_law_212 2 rfl ?_
    refine z_ic C dL_law_213 2 (by decide) ?_
    refine z_il C dL_law_214 8 rfl ?_
    refine z_bp C dL_law_216 12 (by decide) ?_
    refine z_irem C dL_law_218 (by decide) (nI (v % 12)) (pk_rem (a := v) (d := 12) (by omega) (by omega) (by omega)) ?_
    refine z_il C dL_law_219 10 rfl ?_
    refine q_p (As := [.ref (ho 0), .int 2, .int (nI (v % 12)), .int (nI mo1)]) (rest := [.int (upd (gP 8) (v % 12) (gP 8 (v % 12) + nI mo1) (v % 12))]) C hxw hxs (hD_ice (gP1 := (uI gP (v % 12) (nI mo1))) (gT1 := pT) (gA1 := gA) (gF1 := pF) (r := (upd (gP 8) (v % 12) (gP 8 (v % 12) + nI mo1) (v % 12))) l X ho ao bo no mo gP pT gA pF (nI (v % 12)) (nI mo1) (mX5_ice l X ho ao bo no mo gP pT gA pF (v % 12) (nI mo1) hk n1 n2 h3 (iv_in hI)) ⟨by decide, by decide⟩) gL_law_L_does rfl ⟨by decide, by decide, (by decide : (parseMethodDescriptor yL_does.desc).map (fun d => d.parameters.length) = some 4)⟩ ⟨by decide, by decide⟩ ⟨rcl (by omega), rsl (by omega)⟩ (Nat.le_of_ble_eq_true rfl) dL_law_221 rfl ?_
    refine z_ic_ne C 231 dL_law_224 (by decide) (fun c2 => (c2 rfl).elim) (fun c2 => ?_)
    refine z_ic C dL_law_227 1 (by decide) ?_
    refine z_go C 232 dL_law_228 (by decide) ?_
    refine z_is C [(5, .int 1), (0, .ref b0), (1, .ref (h 0)), (2, .ref (ho 0)), (3, .int (nI yr)), (4, .int (nI nn)), (6, .int (nI k)), (7, .int (nI z)), (8, .int (nI v)), (9, .int (nI q)), (10, .int (nI mo1))] dL_law_232 (by decide) rfl ?_
    refine z_go C 683 dL_law_234 (by decide) ?_
    refine z_wide (cells + 8) (slots + 64) (by omega) (by omega) ?_
    refine z_lv [1, 2, 3, 4, 5, 0, 6, 8] [(0, .ref b0), (1, .ref (h 0)), (2, .ref (ho 0)), (3, .int (nI yr)), (4, .int (nI nn)), (5, .int 1), (6, .int (nI k)), (8, .int (nI v))] rfl ?_
    exact K _ _ _ _ _ _ yr nn (iv_ice (by omega) hk n1 n2 hI) hF hnn
set_option maxHeartbeats 4000000 in
set_option maxRecDepth 100000 in
theorem b_ice {p : Program} {l : Launch} {e : Env} {s : State} {m : MethodId} {args : Array Value} {below : List Frame} {meth : Method} {c : Code} {Q : State → Prop} {X : zX} {A : Nat → Prop} (C : ZC p s m args meth c X A 15 cL_law RL wsL_law (some .boolean)) (hxw : xW s) (hxs : xS A s s.heap) (hl : l.stackTraces = false) (h a b na nf ho ao bo no mo : Nat → Nat) {gP gT gA gF pT pF : zG} {n yr nn k v b0 : Nat} (hn : n < 511) (hI : IV n yr gP gA) (hF : gF 2 0 = nI nn) (hnn : nn ≤ 10) (hv : v < 2 ^ 30) {cells slots : Nat} (hc : cells + 8 ≤ 600130) (hs : slots + 64 ≤ 7301079) {z q : Nat} (K : ∀ (gP1 gT1 gA1 gF1 pT1 pF1 : zG) (yr1 nn1 : Nat), IV (n + 1) yr1 gP1 gA1 → gF1 2 0 = nI nn1 → nn1 ≤ 10 → Z p l e room_1 s m args below meth c X A 15 Q (cells + 8) (slots + 64) (QW h a b na nf ho ao bo no mo X gP1 gT1 gA1 gF1 gP1 pT1 gA1 pF1) [(0, .ref b0), (1, .ref (h 0)), (2, .ref (ho 0)), (3, .int (nI yr1)), (4, .int (nI nn1)), (5, .int 1), (6, .int (nI k)), (8, .int (nI v))] 683 []) : Z p l e room_1 s m args below meth c X A 15 Q cells slots (QW h a b na nf ho ao bo no mo X gP gT gA gF gP pT gA pF) [(0, .ref b0), (1, .ref (h 0)), (2, .ref (ho 0)), (3, .int (nI yr)), (4, .int (nI nn)), (5, .int 1), (6, .int (nI k)), (7, .int (nI z)), (8, .int (nI v)), (9, .int (nI q))] 175 [] := by
  refine z_ic C dL_law_175 1 (by decide) ?_
  refine z_il C dL_law_176 8 rfl ?_
  refine z_bp C dL_law_178 12 (by decide) ?_
  refine z_idiv C dL_law_180 (by decide) (nI (v / 12)) (pk_div (a := v) (d := 12) (by omega) (by omega) (by omega)) ?_
  refine z_il C dL_law_181 8 rfl ?_
  refine z_ic C dL_law_183 4 (by decide) ?_
  refine z_irem C dL_law_184 (by decide) (nI (v % 4)) (pk_rem (a := v) (d := 4) (by omega) (by omega) (by omega)) ?_
  refine z_if_neN C (v % 4) 194 dL_law_185 (by decide) rfl (by omega) (fun c3 => ?_) (fun c3 => ?_)
  · skip
    refine z_bp C dL_law_194 90 (by decide) ?_
    refine z_irem C dL_law_196 (by decide) (nI ((v / 12) % 90)) (pk_rem (a := (v / 12)) (d := 90) (by omega) (by omega) (by omega)) ?_
    refine z_iadd C dL_law_197 (nI (1 + ((v / 12) % 90))) (nI_add 1 ((v / 12) % 90)) ?_
    refine z_is C [(10, .int (nI (1 + ((v / 12) % 90)))), (0, .ref b0), (1, .ref (h 0)), (2, .ref (ho 0)), (3, .int (nI yr)), (4, .int (nI nn)), (5, .int 1), (6, .int (nI k)), (7, .int (nI z)), (8, .int (nI v)), (9, .int (nI q))] dL_law_198 (by decide) rfl ?_
    refine z_lv [1, 2, 3, 4, 5, 6, 7, 8, 9, 10, 0] [(0, .ref b0), (1, .ref (h 0)), (2, .ref (ho 0)), (3, .int (nI yr)), (4, .int (nI nn)), (5, .int 1), (6, .int (nI k)), (7, .int (nI z)), (8, .int (nI v)), (9, .int (nI q)), (10, .int (nI (1 + ((v / 12) % 90))))] rfl ?_
    exact b_ice200 C hxw hxs hl h a b na nf ho ao bo no mo hn hI hF hnn hv hc hs (by omega) (by omega) K
  · skip
    refine z_sp C dL_law_188 999 (by decide) ?_
    refine z_go C 196 dL_law_191 (by decide) ?_
    refine z_irem C dL_law_196 (by decide) (nI ((v / 12) % 999)) (pk_rem (a := (v / 12)) (d := 999) (by omega) (by omega) (by omega)) ?_
    refine z_iadd C dL_law_197 (nI (1 + ((v / 12) % 999))) (nI_add 1 ((v / 12) % 999)) ?_
    refine z_is C [(10, .int (nI (1 + ((v / 12) % 999)))), (0, .ref b0), (1, .ref (h 0)), (2, .ref (ho 0)), (3, .int (nI yr)), (4, .int (nI nn)), (5, .int 1), (6, .int (nI k)), (7, .int (nI z)), (8, .int (nI v)), (9, .int (nI q))] dL_law_198 (by decide) rfl ?_
    refine z_lv [1, 2, 3, 4, 5, 6, 7, 8, 9, 10, 0] [(0, .ref b0), (1, .ref (h 0)), (2, .ref (ho 0)), (3, .int (nI yr)), (4, .int (nI nn)), (5, .int 1), (6, .int (nI k)), (7, .int (nI z)), (8, .int (nI v)), (9, .int (nI q)), (10, .int (nI (1 + ((v / 12) % 999))))] rfl ?_
    exact b_ice200 C hxw hxs hl h a b na nf ho ao bo no mo hn hI hF hnn hv hc hs (by omega) (by omega) K
set_option maxHeartbeats 4000000 in
set_option maxRecDepth 100000 in
theorem b_climate563 {p : Program} {l : Launch} {e : Env} {s : State} {m : MethodId} {args : Array Value} {below : List Frame} {meth : Method} {c : Code} {Q : State → Prop} {X : zX} {A : Nat → Prop} (C : ZC p s m args meth c X A 15 cL_law RL wsL_law (some .boolean)) (hxw : xW s) (hxs : xS A s s.heap) (h a b na nf ho ao bo no mo : Nat → Nat) {gP gT gA gF pT pF : zG} {n yr nn k v b0 : Nat} (hn : n < 511) (hI : IV n yr gP gA) (hF : gF 2 0 = nI nn) (hnn : nn ≤ 10) (hv : v < 2 ^ 30) {cells slots : Nat} (hc : cells + 8 ≤ 600130) (hs : slots + 64 ≤ 7301079) {z q : Nat} {x : Int32} (h1 : ¬ x < (-300)) (h2 : ¬ 300 < x) (K : ∀ (gP1 gT1 gA1 gF1 pT1 pF1 : zG) (yr1 nn1 : Nat), IV (n + 1) yr1 gP1 gA1 → gF1 2 0 = nI nn1 → nn1 ≤ 10 → Z p l e room_1 s m args below meth c X A 15 Q (cells + 8) (slots + 64) (QW h a b na nf ho ao bo no mo X gP1 gT1 gA1 gF1 gP1 pT1 gA1 pF1) [(0, .ref b0), (1, .ref (h 0)), (2, .ref (ho 0)), (3, .int (nI yr1)), (4, .int (nI nn1)), (5, .int 1), (6, .int (nI k)), (8, .int (nI v))] 683 []) : Z p l e room_1 s m args below meth c X A 15 Q cells slots (QW h a b na nf ho ao bo no mo X gP gT gA gF gP pT gA pF) [(0, .ref b0), (1, .ref (h 0)), (2, .ref (ho 0)), (3, .int (nI yr)), (4, .int (nI nn)), (5, .int 1), (6, .int (nI k)), (7, .int (nI z)), (8, .int (nI v)), (9, .int (nI q)), (10, .int x)] 563 [] := by
  have h3 : ¬ nI (v / 7 % 21) < 0 := nI_pos (by omega)
  have h4 : ¬ 20 < nI (v / 7 % 21) := nI_nlt (a := 20) (by omega) (by decide)
  have h5 : ¬ nI (v / 5 % 10) < 0 := nI_pos (by omega)
  have h6 : ¬ 9 < nI (v / 5 % 10) := nI_nlt (a := 9) (by omega) (by decide)
  refine z_aln C dL_law_563 1 rfl ?_
  refine z_il C dL_law_564 10 rfl ?_
  refine z_il C dL_law_566 8 rfl ?_
  refine z_bp C dL_law_568 7 (by decide) ?_
  refine z_idiv C dL_law_570 (by decide) (nI (v / 7)) (pk_div (a := v) (d := 7) (by omega) (by omega) (by omega)) ?_
  refine z_bp C dL_law_571 21 (by decide) ?_
  refine z_irem C dL_law_573 (by decide) (nI ((v / 7) % 21)) (pk_rem (a := (v / 7)) (d := 21) (by omega) (by omega) (by omega)) ?_
  refine z_il C dL_law_574 8 rfl ?_
  refine z_ic C dL_law_576 5 (by decide) ?_
  refine z_idiv C dL_law_577 (by decide) (nI (v / 5)) (pk_div (a := v) (d := 5) (by omega) (by omega) (by omega)) ?_
  refine z_bp C dL_law_578 10 (by decide) ?_
  refine z_irem C dL_law_580 (by decide) (nI ((v / 5) % 10)) (pk_rem (a := (v / 5)) (d := 10) (by omega) (by omega) (by omega)) ?_
  refine q_o (As := [.ref (h 0), .int x, .int (nI ((v / 7) % 21)), .int (nI ((v / 5) % 10))]) (rest := []) C hxw hxs (hW_climate (gP1 := (uC gP x (nI (v / 7 % 21)) (nI (v / 5 % 10)))) (gT1 := gT) (gA1 := gA) (gF1 := gF) l X h a b na nf gP gT gA gF x (nI ((v / 7) % 21)) (nI ((v / 5) % 10)) (mX5_climate l X h a b na nf gP gT gA gF x (nI ((v / 7) % 21)) (nI ((v / 5) % 10)) h1 h2 h3 h4 h5 h6) ⟨by decide, by decide⟩) gL_law_L_climate rfl ⟨by decide, by decide, (by decide : (parseMethodDescriptor yL_climate.desc).map (fun d => d.parameters.length) = some 4)⟩ ⟨by decide, by decide⟩ ⟨rcl (by omega), rsl (by omega)⟩ (Nat.le_of_ble_eq_true rfl) dL_law_581 rfl ?_
  refine z_if_eqN C 1 615 dL_law_584 (by decide) rfl (by omega) (fun c4 => by omega) (fun c4 => ?_)
  refine z_aln C dL_law_587 2 rfl ?_
  refine z_il C dL_law_588 10 rfl ?_
  refine z_il C dL_law_590 8 rfl ?_
  refine z_bp C dL_law_592 7 (by decide) ?_
  refine z_idiv C dL_law_594 (by decide) (nI (v / 7)) (pk_div (a := v) (d := 7) (by omega) (by omega) (by omega)) ?_
  refine z_bp C dL_law_595 21 (by decide) ?_
  refine z_irem C dL_law_597 (by decide) (nI ((v / 7) % 21)) (pk_rem (a := (v / 7)) (d := 21) (by omega) (by omega) (by omega)) ?_
  refine z_il C dL_law_598 8 rfl ?_
  refine z_ic C dL_law_600 5 (by decide) ?_
  refine z_idiv C dL_law_601 (by decide) (nI (v / 5)) (pk_div (a := v) (d := 5) (by omega) (by omega) (by omega)) ?_
  refine z_bp C dL_law_602 10 (by decide) ?_
  refine z_irem C dL_law_604 (by decide) (nI ((v / 5) % 10)) (pk_rem (a := (v / 5)) (d := 10) (by omega) (by omega) (by omega)) ?_
  refine q_p (As := [.ref (ho 0), .int x, .int (nI ((v / 7) % 21)), .int (nI ((v / 5) % 10))]) (rest := []) C hxw hxs (hW_climate (gP1 := (uC gP x (nI (v / 7 % 21)) (nI (v / 5 % 10)))) (gT1 := pT) (gA1 := gA) (gF1 := pF) l X ho ao bo no mo gP pT gA pF x (nI ((v / 7) % 21)) (nI ((v / 5) % 10)) (mX5_climate l X ho ao bo no mo gP pT gA pF x (nI ((v / 7) % 21)) (nI ((v / 5) % 10)) h1 h2 h3 h4 h5 h6) ⟨by decide, by decide⟩) gL_law_L_climate rfl ⟨by decide, by decide, (by decide : (parseMethodDescriptor yL_climate.desc).map (fun d => d.parameters.length) = some 4)⟩ ⟨by decide, by decide⟩ ⟨rcl (by omega), rsl (by omega)⟩ (Nat.le_of_ble_eq_true rfl) dL_law_605 rfl ?_
  refine z_if_eqN C 1 615 dL_law_608 (by decide) rfl (by omega) (fun c5 => by omega) (fun c5 => ?_)
  refine z_ic C dL_law_611 1 (by decide) ?_
  refine z_go C 616 dL_law_612 (by decide) ?_
  refine z_is C [(5, .int 1), (0, .ref b0), (1, .ref (h 0)), (2, .ref (ho 0)), (3, .int (nI yr)), (4, .int (nI nn)), (6, .int (nI k)), (7, .int (nI z)), (8, .int (nI v)), (9, .int (nI q)), (10, .int x)] dL_law_616 (by decide) rfl ?_
  refine z_go C 683 dL_law_618 (by decide) ?_
  refine z_wide (cells + 8) (slots + 64) (by omega) (by omega) ?_
  refine z_lv [1, 2, 3, 4, 5, 0, 6, 8] [(0, .ref b0), (1, .ref (h 0)), (2, .ref (ho 0)), (3, .int (nI yr)), (4, .int (nI nn)), (5, .int 1), (6, .int (nI k)), (8, .int (nI v))] rfl ?_
  exact K _ _ _ _ _ _ yr nn (iv_skip (iv_climate h1 h2 h3 h4 h5 h6 hI)) hF hnn
set_option maxHeartbeats 4000000 in
set_option maxRecDepth 100000 in
theorem b_climate {p : Program} {l : Launch} {e : Env} {s : State} {m : MethodId} {args : Array Value} {below : List Frame} {meth : Method} {c : Code} {Q : State → Prop} {X : zX} {A : Nat → Prop} (C : ZC p s m args meth c X A 15 cL_law RL wsL_law (some .boolean)) (hxw : xW s) (hxs : xS A s s.heap) (h a b na nf ho ao bo no mo : Nat → Nat) {gP gT gA gF pT pF : zG} {n yr nn k v b0 : Nat} (hn : n < 511) (hI : IV n yr gP gA) (hF : gF 2 0 = nI nn) (hnn : nn ≤ 10) (hv : v < 2 ^ 30) {cells slots : Nat} (hc : cells + 8 ≤ 600130) (hs : slots + 64 ≤ 7301079) {z q : Nat} (K : ∀ (gP1 gT1 gA1 gF1 pT1 pF1 : zG) (yr1 nn1 : Nat), IV (n + 1) yr1 gP1 gA1 → gF1 2 0 = nI nn1 → nn1 ≤ 10 → Z p l e room_1 s m args below meth c X A 15 Q (cells + 8) (slots + 64) (QW h a b na nf ho ao bo no mo X gP1 gT1 gA1 gF1 gP1 pT1 gA1 pF1) [(0, .ref b0), (1, .ref (h 0)), (2, .ref (ho 0)), (3, .int (nI yr1)), (4, .int (nI nn1)), (5, .int 1), (6, .int (nI k)), (8, .int (nI v))] 683 []) : Z p l e room_1 s m args below meth c X A 15 Q cells slots (QW h a b na nf ho ao bo no mo X gP gT gA gF gP pT gA pF) [(0, .ref b0), (1, .ref (h 0)), (2, .ref (ho 0)), (3, .int (nI yr)), (4, .int (nI nn)), (5, .int 1), (6, .int (nI k)), (7, .int (nI z)), (8, .int (nI v)), (9, .int (nI q))] 531 [] := by
  refine z_il C dL_law_531 8 rfl ?_
  refine z_ic C dL_law_533 3 (by decide) ?_
  refine z_irem C dL_law_534 (by decide) (nI (v % 3)) (pk_rem (a := v) (d := 3) (by omega) (by omega) (by omega)) ?_
  refine z_if_neN C (v % 3) 553 dL_law_535 (by decide) rfl (by omega) (fun c6 => ?_) (fun c6 => ?_)
  · skip
    refine z_il C dL_law_553 8 rfl ?_
    refine z_ic C dL_law_555 3 (by decide) ?_
    refine z_idiv C dL_law_556 (by decide) (nI (v / 3)) (pk_div (a := v) (d := 3) (by omega) (by omega) (by omega)) ?_
    refine z_sp C dL_law_557 300 (by decide) ?_
    refine z_irem C dL_law_560 (by decide) (nI ((v / 3) % 300)) (pk_rem (a := (v / 3)) (d := 300) (by omega) (by omega) (by omega)) ?_
    refine z_is C [(10, .int (nI ((v / 3) % 300))), (0, .ref b0), (1, .ref (h 0)), (2, .ref (ho 0)), (3, .int (nI yr)), (4, .int (nI nn)), (5, .int 1), (6, .int (nI k)), (7, .int (nI z)), (8, .int (nI v)), (9, .int (nI q))] dL_law_561 (by decide) rfl ?_
    refine z_lv [1, 2, 3, 4, 5, 6, 7, 8, 9, 10, 0] [(0, .ref b0), (1, .ref (h 0)), (2, .ref (ho 0)), (3, .int (nI yr)), (4, .int (nI nn)), (5, .int 1), (6, .int (nI k)), (7, .int (nI z)), (8, .int (nI v)), (9, .int (nI q)), (10, .int (nI ((v / 3) % 300)))] rfl ?_
    exact b_climate563 C hxw hxs h a b na nf ho ao bo no mo hn hI hF hnn hv hc hs (nI_nlo (by omega)) (nI_nlt (a := 300) (by omega) (by decide)) K
  · skip
    refine z_il C dL_law_538 8 rfl ?_
    refine z_ic C dL_law_540 3 (by decide) ?_
    refine z_idiv C dL_law_541 (by decide) (nI (v / 3)) (pk_div (a := v) (d := 3) (by omega) (by omega) (by omega)) ?_
    refine z_sp C dL_law_542 601 (by decide) ?_
    refine z_irem C dL_law_545 (by decide) (nI ((v / 3) % 601)) (pk_rem (a := (v / 3)) (d := 601) (by omega) (by omega) (by omega)) ?_
    refine z_sp C dL_law_546 300 (by decide) ?_
    refine z_isub C dL_law_549 ((nI ((v / 3) % 601)) - 300) rfl ?_
    refine z_go C 561 dL_law_550 (by decide) ?_
    refine z_is C [(10, .int ((nI ((v / 3) % 601)) - 300)), (0, .ref b0), (1, .ref (h 0)), (2, .ref (ho 0)), (3, .int (nI yr)), (4, .int (nI nn)), (5, .int 1), (6, .int (nI k)), (7, .int (nI z)), (8, .int (nI v)), (9, .int (nI q))] dL_law_561 (by decide) rfl ?_
    refine z_lv [1, 2, 3, 4, 5, 6, 7, 8, 9, 10, 0] [(0, .ref b0), (1, .ref (h 0)), (2, .ref (ho 0)), (3, .int (nI yr)), (4, .int (nI nn)), (5, .int 1), (6, .int (nI k)), (7, .int (nI z)), (8, .int (nI v)), (9, .int (nI q)), (10, .int ((nI ((v / 3) % 601)) - 300))] rfl ?_
    exact b_climate563 C hxw hxs h a b na nf ho ao bo no mo hn hI hF hnn hv hc hs (sub_lo (by omega)) (sub_hi (by omega)) K
set_option maxHeartbeats 4000000 in
set_option maxRecDepth 100000 in
theorem b_sea {p : Program} {l : Launch} {e : Env} {s : State} {m : MethodId} {args : Array Value} {below : List Frame} {meth : Method} {c : Code} {Q : State → Prop} {X : zX} {A : Nat → Prop} (C : ZC p s m args meth c X A 15 cL_law RL wsL_law (some .boolean)) (hxw : xW s) (hxs : xS A s s.heap) (h a b na nf ho ao bo no mo : Nat → Nat) {gP gT gA gF pT pF : zG} {n yr nn k v b0 : Nat} (hn : n < 511) (hI : IV n yr gP gA) (hF : gF 2 0 = nI nn) (hnn : nn ≤ 10) (hv : v < 2 ^ 30) {cells slots : Nat} (hc : cells + 8 ≤ 600130) (hs : slots + 64 ≤ 7301079) {z q : Nat} (K : ∀ (gP1 gT1 gA1 gF1 pT1 pF1 : zG) (yr1 nn1 : Nat), IV (n + 1) yr1 gP1 gA1 → gF1 2 0 = nI nn1 → nn1 ≤ 10 → Z p l e room_1 s m args below meth c X A 15 Q (cells + 8) (slots + 64) (QW h a b na nf ho ao bo no mo X gP1 gT1 gA1 gF1 gP1 pT1 gA1 pF1) [(0, .ref b0), (1, .ref (h 0)), (2, .ref (ho 0)), (3, .int (nI yr1)), (4, .int (nI nn1)), (5, .int 1), (6, .int (nI k)), (8, .int (nI v))] 683 []) : Z p l e room_1 s m args below meth c X A 15 Q cells slots (QW h a b na nf ho ao bo no mo X gP gT gA gF gP pT gA pF) [(0, .ref b0), (1, .ref (h 0)), (2, .ref (ho 0)), (3, .int (nI yr)), (4, .int (nI nn)), (5, .int 1), (6, .int (nI k)), (7, .int (nI z)), (8, .int (nI v)), (9, .int (nI q))] 628 [] := by
  have h1 : ¬ nI (v % 200) < 0 := nI_pos (by omega)
  have h2 : ¬ 500 < nI (v % 200) := nI_nlt (a := 500) (by omega) (by decide)
  refine z_aln C dL_law_628 1 rfl ?_
  refine z_ic C dL_law_629 1 (by decide) ?_
  refine z_il C dL_law_630 8 rfl ?_
  refine z_sp C dL_law_632 200 (by decide) ?_
  refine z_irem C dL_law_635 (by decide) (nI (v % 200)) (pk_rem (a := v) (d := 200) (by omega) (by omega) (by omega)) ?_
  refine z_ic C dL_law_636 0 (by decide) ?_
  refine q_o (As := [.ref (h 0), .int 1, .int (nI (v % 200)), .int 0]) (rest := []) C hxw hxs (hD_sea (gP1 := (uS gP (nI (v % 200)))) (gT1 := gT) (gA1 := gA) (gF1 := gF) (r := (gP 10 1)) l X h a b na nf gP gT gA gF (nI (v % 200)) 0 (mX5_sea l X h a b na nf gP gT gA gF (nI (v % 200)) h1 h2) ⟨by decide, by decide⟩) gL_law_L_does rfl ⟨by decide, by decide, (by decide : (parseMethodDescriptor yL_does.desc).map (fun d => d.parameters.length) = some 4)⟩ ⟨by decide, by decide⟩ ⟨rcl (by omega), rsl (by omega)⟩ (Nat.le_of_ble_eq_true rfl) dL_law_637 rfl ?_
  refine z_aln C dL_law_640 2 rfl ?_
  refine z_ic C dL_law_641 1 (by decide) ?_
  refine z_il C dL_law_642 8 rfl ?_
  refine z_sp C dL_law_644 200 (by decide) ?_
  refine z_irem C dL_law_647 (by decide) (nI (v % 200)) (pk_rem (a := v) (d := 200) (by omega) (by omega) (by omega)) ?_
  refine z_ic C dL_law_648 0 (by decide) ?_
  refine q_p (As := [.ref (ho 0), .int 1, .int (nI (v % 200)), .int 0]) (rest := [.int (gP 10 1)]) C hxw hxs (hD_sea (gP1 := (uS gP (nI (v % 200)))) (gT1 := pT) (gA1 := gA) (gF1 := pF) (r := (gP 10 1)) l X ho ao bo no mo gP pT gA pF (nI (v % 200)) 0 (mX5_sea l X ho ao bo no mo gP pT gA pF (nI (v % 200)) h1 h2) ⟨by decide, by decide⟩) gL_law_L_does rfl ⟨by decide, by decide, (by decide : (parseMethodDescriptor yL_does.desc).map (fun d => d.parameters.length) = some 4)⟩ ⟨by decide, by decide⟩ ⟨rcl (by omega), rsl (by omega)⟩ (Nat.le_of_ble_eq_true rfl) dL_law_649 rfl ?_
  refine z_ic_ne C 659 dL_law_652 (by decide) (fun c7 => (c7 rfl).elim) (fun c7 => ?_)
  refine z_ic C dL_law_655 1 (by decide) ?_
  refine z_go C 660 dL_law_656 (by decide) ?_
  refine z_is C [(5, .int 1), (0, .ref b0), (1, .ref (h 0)), (2, .ref (ho 0)), (3, .int (nI yr)), (4, .int (nI nn)), (6, .int (nI k)), (7, .int (nI z)), (8, .int (nI v)), (9, .int (nI q))] dL_law_660 (by decide) rfl ?_
  refine z_go C 683 dL_law_662 (by decide) ?_
  refine z_wide (cells + 8) (slots + 64) (by omega) (by omega) ?_
  refine z_lv [1, 2, 3, 4, 5, 0, 6, 8] [(0, .ref b0), (1, .ref (h 0)), (2, .ref (ho 0)), (3, .int (nI yr)), (4, .int (nI nn)), (5, .int 1), (6, .int (nI k)), (8, .int (nI v))] rfl ?_
  exact K _ _ _ _ _ _ yr nn (iv_skip (iv_sea _ hI)) hF hnn
set_option maxHeartbeats 4000000 in
set_option maxRecDepth 100000 in
theorem b_ash {p : Program} {l : Launch} {e : Env} {s : State} {m : MethodId} {args : Array Value} {below : List Frame} {meth : Method} {c : Code} {Q : State → Prop} {X : zX} {A : Nat → Prop} (C : ZC p s m args meth c X A 15 cL_law RL wsL_law (some .boolean)) (hxw : xW s) (hxs : xS A s s.heap) (h a b na nf ho ao bo no mo : Nat → Nat) {gP gT gA gF pT pF : zG} {n yr nn k v b0 : Nat} (hn : n < 511) (hI : IV n yr gP gA) (hF : gF 2 0 = nI nn) (hnn : nn ≤ 10) (hv : v < 2 ^ 30) {cells slots : Nat} (hc : cells + 8 ≤ 600130) (hs : slots + 64 ≤ 7301079) {z q : Nat} (K : ∀ (gP1 gT1 gA1 gF1 pT1 pF1 : zG) (yr1 nn1 : Nat), IV (n + 1) yr1 gP1 gA1 → gF1 2 0 = nI nn1 → nn1 ≤ 10 → Z p l e room_1 s m args below meth c X A 15 Q (cells + 8) (slots + 64) (QW h a b na nf ho ao bo no mo X gP1 gT1 gA1 gF1 gP1 pT1 gA1 pF1) [(0, .ref b0), (1, .ref (h 0)), (2, .ref (ho 0)), (3, .int (nI yr1)), (4, .int (nI nn1)), (5, .int 1), (6, .int (nI k)), (8, .int (nI v))] 683 []) : Z p l e room_1 s m args below meth c X A 15 Q cells slots (QW h a b na nf ho ao bo no mo X gP gT gA gF gP pT gA pF) [(0, .ref b0), (1, .ref (h 0)), (2, .ref (ho 0)), (3, .int (nI yr)), (4, .int (nI nn)), (5, .int 1), (6, .int (nI k)), (7, .int (nI z)), (8, .int (nI v)), (9, .int (nI q))] 665 [] := by
  refine z_aln C dL_law_665 1 rfl ?_
  have hM8 := mX5_ash l X h a b na nf gP gT gA gF (iv_in hI) (iv_ash hI)
  rw [ash_u hI] at hM8
  refine q_oV (As := []) (rest := []) C (gP1 := gP) (gT1 := gT) (gA1 := uA gA yr) (gF1 := gF) (rv := gA 0 (gP 10 0).toNatClampNeg) hM8 gL_law_X5_ash rfl ⟨rfl, by decide, by decide, (by decide : (parseMethodDescriptor yX5_ash.desc).map (fun d => d.parameters.length) = some 0)⟩ ⟨by decide, by decide⟩ ⟨rcl (by omega), rsl (by omega)⟩ rfl (Nat.le_of_ble_eq_true rfl) dL_law_666 rfl ?_
  refine z_aln C dL_law_669 2 rfl ?_
  have hM9 := mX5_ash l X ho ao bo no mo gP pT gA pF (iv_in hI) (iv_ash hI)
  rw [ash_u hI] at hM9
  refine q_pV (As := []) (rest := [.int (gA 0 (gP 10 0).toNatClampNeg)]) C (gP1 := gP) (gT1 := pT) (gA1 := uA gA yr) (gF1 := pF) (rv := gA 0 (gP 10 0).toNatClampNeg) hM9 gL_law_X5_ash rfl ⟨rfl, by decide, by decide, (by decide : (parseMethodDescriptor yX5_ash.desc).map (fun d => d.parameters.length) = some 0)⟩ ⟨by decide, by decide⟩ ⟨rcl (by omega), rsl (by omega)⟩ rfl (Nat.le_of_ble_eq_true rfl) dL_law_670 rfl ?_
  refine z_ic_ne C 680 dL_law_673 (by decide) (fun c10 => (c10 rfl).elim) (fun c10 => ?_)
  refine z_ic C dL_law_676 1 (by decide) ?_
  refine z_go C 681 dL_law_677 (by decide) ?_
  refine z_is C [(5, .int 1), (0, .ref b0), (1, .ref (h 0)), (2, .ref (ho 0)), (3, .int (nI yr)), (4, .int (nI nn)), (6, .int (nI k)), (7, .int (nI z)), (8, .int (nI v)), (9, .int (nI q))] dL_law_681 (by decide) rfl ?_
  refine z_wide (cells + 8) (slots + 64) (by omega) (by omega) ?_
  refine z_lv [1, 2, 3, 4, 5, 0, 6, 8] [(0, .ref b0), (1, .ref (h 0)), (2, .ref (ho 0)), (3, .int (nI yr)), (4, .int (nI nn)), (5, .int 1), (6, .int (nI k)), (8, .int (nI v))] rfl ?_
  exact K _ _ _ _ _ _ yr nn (iv_skip (iv_ashed hI)) hF hnn
