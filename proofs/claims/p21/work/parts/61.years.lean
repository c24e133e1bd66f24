set_option maxHeartbeats 4000000 in
set_option maxRecDepth 100000 in
theorem y_455 {p : Program} {l : Launch} {e : Env} {s : State} {m : MethodId} {args : Array Value} {below : List Frame} {meth : Method} {c : Code} {Q : State → Prop} {X : zX} {A : Nat → Prop} (C : ZC p s m args meth c X A 15 cL_law RL wsL_law (some .boolean)) (hxw : xW s) (hxs : xS A s s.heap) (h a b na nf ho ao bo no mo : Nat → Nat) {qd : Nat} {gP gT gA gF pT pF : zG} {n yr nn k v b0 : Nat} (hn : n < 511) (hI : IV n yr gP gA) (hv : v < 2 ^ 30) {cells slots : Nat} (hc : cells + 8 ≤ 600130) (hs : slots + 64 ≤ 7301079) {z q p1 nt : Nat} {mu : Int32} {fd : Nat → Int32} (h1 : 1 ≤ p1) (h2 : p1 ≤ 7) (h3 : yr + p1 ≤ 60) (hfo : nt = 0 ∧ gF 2 0 = nI nn ∧ nn ≤ 10 ∨ nt = 1 ∧ nn < 10 ∧ gF 2 0 = nI (nn + 1) ∧ gF 0 nn = nI (yr + p1) ∧ gF 1 nn = mu ∧ mu = fX1_allIce ((PS gP gA p1).1 8) ((PS gP gA p1).1 9)) (hfd : ∀ j, j < 10 → fd j = fX3_tellOf (PS gP gA p1).1 (v / 7 % 12) j) (K : ∀ (gP1 gT1 gA1 gF1 pT1 pF1 : zG) (yr1 nn1 : Nat), IV (n + 1) yr1 gP1 gA1 → gF1 2 0 = nI nn1 → nn1 ≤ 10 → Z p l e room_1 s m args below meth c X A 15 Q (cells + 8) (slots + 64) (QW h a b na nf ho ao bo no mo X gP1 gT1 gA1 gF1 gP1 pT1 gA1 pF1) [(0, .ref b0), (1, .ref (h 0)), (2, .ref (ho 0)), (3, .int (nI yr1)), (4, .int (nI nn1)), (5, .int 1), (6, .int (nI k)), (8, .int (nI v))] 683 []) : Z p l e room_1 s m args below meth c X A 15 Q cells slots (QD h a b na nf ho ao bo no mo qd X ((PS gP gA p1).1) gT ((PS gP gA p1).2) gF ((PS gP gA p1).1) pT ((PS gP gA p1).2) pF fd) [(0, .ref b0), (1, .ref (h 0)), (2, .ref (ho 0)), (3, .int (nI (yr + p1))), (4, .int (nI nn)), (5, .int 1), (6, .int (nI k)), (7, .int (nI z)), (8, .int (nI v)), (9, .int (nI q)), (10, .int (nI p1)), (11, .int (nI nt)), (12, .int mu), (13, .ref qd)] 455 [] := by
  have R506 : Z p l e room_1 s m args below meth c X A 15 Q cells slots (QD h a b na nf ho ao bo no mo qd X ((PS gP gA p1).1) gT ((PS gP gA p1).2) gF ((PS gP gA p1).1) pT ((PS gP gA p1).2) pF fd) [(0, .ref b0), (1, .ref (h 0)), (2, .ref (ho 0)), (3, .int (nI (yr + p1))), (4, .int (nI nn)), (5, .int 1), (6, .int (nI k)), (7, .int (nI z)), (8, .int (nI v)), (9, .int (nI q)), (10, .int (nI p1)), (11, .int (nI nt)), (12, .int mu), (13, .ref qd)] 506 [] := by
    refine q_drop ?_
    rcases hfo with ⟨rfl, e1, e2⟩ | ⟨rfl, e1, e2, e3⟩
    · skip
      refine z_il C dL_law_506 4 rfl ?_
      refine z_il C dL_law_508 11 rfl ?_
      refine z_if_eqN C 0 517 dL_law_510 (by decide) rfl (by omega) (fun c11 => ?_) (fun c11 => by omega)
      refine z_ic C dL_law_517 0 (by decide) ?_
      refine z_iadd C dL_law_518 (nI (nn + 0)) (nI_add nn 0) ?_
      refine z_is C [(4, .int (nI (nn + 0))), (0, .ref b0), (1, .ref (h 0)), (2, .ref (ho 0)), (3, .int (nI (yr + p1))), (5, .int 1), (6, .int (nI k)), (7, .int (nI z)), (8, .int (nI v)), (9, .int (nI q)), (10, .int (nI p1)), (11, .int (nI 0)), (12, .int mu), (13, .ref qd)] dL_law_519 (by decide) rfl ?_
      refine z_go C 683 dL_law_521 (by decide) ?_
      refine z_wide (cells + 8) (slots + 64) (by omega) (by omega) ?_
      refine z_lv [1, 2, 3, 4, 0, 5, 6, 8] [(0, .ref b0), (1, .ref (h 0)), (2, .ref (ho 0)), (3, .int (nI (yr + p1))), (4, .int (nI (nn + 0))), (5, .int 1), (6, .int (nI k)), (8, .int (nI v))] rfl ?_
      exact K _ _ _ _ _ _ _ (nn + 0) (iv_skip (iv_ps (by omega) hI h3)) e1 (by omega)
    · skip
      refine z_il C dL_law_506 4 rfl ?_
      refine z_il C dL_law_508 11 rfl ?_
      refine z_if_eqN C 1 517 dL_law_510 (by decide) rfl (by omega) (fun c12 => by omega) (fun c12 => ?_)
      refine z_ic C dL_law_513 1 (by decide) ?_
      refine z_go C 518 dL_law_514 (by decide) ?_
      refine z_iadd C dL_law_518 (nI (nn + 1)) (nI_add nn 1) ?_
      refine z_is C [(4, .int (nI (nn + 1))), (0, .ref b0), (1, .ref (h 0)), (2, .ref (ho 0)), (3, .int (nI (yr + p1))), (5, .int 1), (6, .int (nI k)), (7, .int (nI z)), (8, .int (nI v)), (9, .int (nI q)), (10, .int (nI p1)), (11, .int (nI 1)), (12, .int mu), (13, .ref qd)] dL_law_519 (by decide) rfl ?_
      refine z_go C 683 dL_law_521 (by decide) ?_
      refine z_wide (cells + 8) (slots + 64) (by omega) (by omega) ?_
      refine z_lv [1, 2, 3, 4, 0, 5, 6, 8] [(0, .ref b0), (1, .ref (h 0)), (2, .ref (ho 0)), (3, .int (nI (yr + p1))), (4, .int (nI (nn + 1))), (5, .int 1), (6, .int (nI k)), (8, .int (nI v))] rfl ?_
      exact K _ _ _ _ _ _ _ (nn + 1) (iv_skip (iv_ps (by omega) hI h3)) e2 (by omega)
  have R458 : ∀ n2 j : Nat, j + n2 = 10 → Z p l e room_1 s m args below meth c X A 15 Q cells slots (QD h a b na nf ho ao bo no mo qd X ((PS gP gA p1).1) gT ((PS gP gA p1).2) gF ((PS gP gA p1).1) pT ((PS gP gA p1).2) pF fd) [(0, .ref b0), (1, .ref (h 0)), (2, .ref (ho 0)), (3, .int (nI (yr + p1))), (4, .int (nI nn)), (5, .int 1), (6, .int (nI k)), (7, .int (nI z)), (8, .int (nI v)), (9, .int (nI q)), (10, .int (nI p1)), (11, .int (nI nt)), (12, .int mu), (13, .ref qd), (14, .int (nI j))] 458 [] := by
    intro n2
    induction n2 with
    | zero =>
      intro j hj
      refine z_il C dL_law_458 14 rfl ?_
      refine z_bp C dL_law_460 10 (by decide) ?_
      refine z_ic_geN C j 10 506 dL_law_462 (by decide) rfl rfl (by omega) (by omega) (fun c13 => ?_) (fun c13 => by omega)
      refine z_lv [0, 1, 2, 3, 4, 5, 6, 7, 8, 9, 10, 11, 12, 13] [(0, .ref b0), (1, .ref (h 0)), (2, .ref (ho 0)), (3, .int (nI (yr + p1))), (4, .int (nI nn)), (5, .int 1), (6, .int (nI k)), (7, .int (nI z)), (8, .int (nI v)), (9, .int (nI q)), (10, .int (nI p1)), (11, .int (nI nt)), (12, .int mu), (13, .ref qd)] rfl ?_
      exact R506
    | succ n2 ih =>
      intro j hj
      refine z_il C dL_law_458 14 rfl ?_
      refine z_bp C dL_law_460 10 (by decide) ?_
      refine z_ic_geN C j 10 506 dL_law_462 (by decide) rfl rfl (by omega) (by omega) (fun c14 => by omega) (fun c14 => ?_)
      refine z_il C dL_law_465 5 rfl ?_
      refine z_if_eqN C 1 506 dL_law_467 (by decide) rfl (by omega) (fun c15 => by omega) (fun c15 => ?_)
      refine z_al C dL_law_470 13 rfl ?_
      refine z_il C dL_law_472 14 rfl ?_
      refine q_ald C j dL_law_474 rfl (by omega) ?_
      refine z_aln C dL_law_475 1 rfl ?_
      refine z_ic C dL_law_476 4 (by decide) ?_
      refine z_il C dL_law_477 8 rfl ?_
      refine z_bp C dL_law_479 7 (by decide) ?_
      refine z_idiv C dL_law_481 (by decide) (nI (v / 7)) (pk_div (a := v) (d := 7) (by omega) (by omega) (by omega)) ?_
      refine z_bp C dL_law_482 12 (by decide) ?_
      refine z_irem C dL_law_484 (by decide) (nI ((v / 7) % 12)) (pk_rem (a := (v / 7)) (d := 12) (by omega) (by omega) (by omega)) ?_
      refine z_il C dL_law_485 14 rfl ?_
      refine q_oD (As := [.ref (h 0), .int 4, .int (nI ((v / 7) % 12)), .int (nI j)]) (rest := [.int (fd j)]) C hxw hxs (hD_cellIs (gP1 := ((PS gP gA p1).1)) (gT1 := gT) (gA1 := ((PS gP gA p1).2)) (gF1 := gF) (r := (fX3_tellOf (PS gP gA p1).1 (v / 7 % 12) j)) l X h a b na nf ((PS gP gA p1).1) gT ((PS gP gA p1).2) gF (nI ((v / 7) % 12)) (nI j) (mX5_cellIs l X h a b na nf ((PS gP gA p1).1) gT ((PS gP gA p1).2) gF (v / 7 % 12) j (by omega) (by omega)) ⟨by decide, by decide⟩) gL_law_L_does rfl ⟨by decide, by decide, (by decide : (parseMethodDescriptor yL_does.desc).map (fun d => d.parameters.length) = some 4)⟩ ⟨by decide, by decide⟩ ⟨rcl (by omega), rsl (by omega)⟩ (Nat.le_of_ble_eq_true rfl) dL_law_487 rfl ?_
      refine z_ic_ne C 497 dL_law_490 (by decide) (fun c16 => absurd (hfd j (by omega)) c16) (fun c16 => ?_)
      refine z_ic C dL_law_493 1 (by decide) ?_
      refine z_go C 498 dL_law_494 (by decide) ?_
      refine z_is C [(5, .int 1), (0, .ref b0), (1, .ref (h 0)), (2, .ref (ho 0)), (3, .int (nI (yr + p1))), (4, .int (nI nn)), (6, .int (nI k)), (7, .int (nI z)), (8, .int (nI v)), (9, .int (nI q)), (10, .int (nI p1)), (11, .int (nI nt)), (12, .int mu), (13, .ref qd), (14, .int (nI j))] dL_law_498 (by decide) rfl ?_
      refine z_inc C 14 (nI (j + 1)) [(14, .int (nI (j + 1))), (5, .int 1), (0, .ref b0), (1, .ref (h 0)), (2, .ref (ho 0)), (3, .int (nI (yr + p1))), (4, .int (nI nn)), (6, .int (nI k)), (7, .int (nI z)), (8, .int (nI v)), (9, .int (nI q)), (10, .int (nI p1)), (11, .int (nI nt)), (12, .int mu), (13, .ref qd)] dL_law_500 rfl (nI_add j 1) (by decide) rfl ?_
      refine z_go C 458 dL_law_503 (by decide) ?_
      refine z_lv [2, 3, 4, 5, 6, 1, 7, 8, 9, 10, 11, 12, 13, 14, 0] [(0, .ref b0), (1, .ref (h 0)), (2, .ref (ho 0)), (3, .int (nI (yr + p1))), (4, .int (nI nn)), (5, .int 1), (6, .int (nI k)), (7, .int (nI z)), (8, .int (nI v)), (9, .int (nI q)), (10, .int (nI p1)), (11, .int (nI nt)), (12, .int mu), (13, .ref qd), (14, .int (nI (j + 1)))] rfl ?_
      exact ih (j + 1) (by omega)
  refine z_ic C dL_law_455 0 (by decide) ?_
  refine z_is C [(14, .int 0), (0, .ref b0), (1, .ref (h 0)), (2, .ref (ho 0)), (3, .int (nI (yr + p1))), (4, .int (nI nn)), (5, .int 1), (6, .int (nI k)), (7, .int (nI z)), (8, .int (nI v)), (9, .int (nI q)), (10, .int (nI p1)), (11, .int (nI nt)), (12, .int mu), (13, .ref qd)] dL_law_456 (by decide) rfl ?_
  refine z_lv [1, 2, 3, 4, 5, 6, 7, 8, 9, 10, 11, 12, 13, 14, 0] [(0, .ref b0), (1, .ref (h 0)), (2, .ref (ho 0)), (3, .int (nI (yr + p1))), (4, .int (nI nn)), (5, .int 1), (6, .int (nI k)), (7, .int (nI z)), (8, .int (nI v)), (9, .int (nI q)), (10, .int (nI p1)), (11, .int (nI nt)), (12, .int mu), (13, .ref qd), (14, .int 0)] rfl ?_
  exact R458 10 0 (by omega)
set_option maxHeartbeats 4000000 in
set_option maxRecDepth 100000 in
theorem y_396 {p : Program} {l : Launch} {e : Env} {s : State} {m : MethodId} {args : Array Value} {below : List Frame} {meth : Method} {c : Code} {Q : State → Prop} {X : zX} {A : Nat → Prop} (C : ZC p s m args meth c X A 15 cL_law RL wsL_law (some .boolean)) (hxw : xW s) (hxs : xS A s s.heap) (h a b na nf ho ao bo no mo : Nat → Nat) {qd : Nat} {gP gT gA gF pT pF : zG} {n yr nn k v b0 : Nat} (hn : n < 511) (hI : IV n yr gP gA) (hv : v < 2 ^ 30) {cells slots : Nat} (hc : cells + 8 ≤ 600130) (hs : slots + 64 ≤ 7301079) {z q p1 nt : Nat} {mu : Int32} {fd : Nat → Int32} (h1 : 1 ≤ p1) (h2 : p1 ≤ 7) (h3 : yr + p1 ≤ 60) (hfo : nt = 0 ∧ gF 2 0 = nI nn ∧ nn ≤ 10 ∨ nt = 1 ∧ nn < 10 ∧ gF 2 0 = nI (nn + 1) ∧ gF 0 nn = nI (yr + p1) ∧ gF 1 nn = mu ∧ mu = fX1_allIce ((PS gP gA p1).1 8) ((PS gP gA p1).1 9)) (hfd : ∀ j, j < 10 → fd j = fX3_tellOf (PS gP gA p1).1 (v / 7 % 12) j) (K : ∀ (gP1 gT1 gA1 gF1 pT1 pF1 : zG) (yr1 nn1 : Nat), IV (n + 1) yr1 gP1 gA1 → gF1 2 0 = nI nn1 → nn1 ≤ 10 → Z p l e room_1 s m args below meth c X A 15 Q (cells + 8) (slots + 64) (QW h a b na nf ho ao bo no mo X gP1 gT1 gA1 gF1 gP1 pT1 gA1 pF1) [(0, .ref b0), (1, .ref (h 0)), (2, .ref (ho 0)), (3, .int (nI yr1)), (4, .int (nI nn1)), (5, .int 1), (6, .int (nI k)), (8, .int (nI v))] 683 []) : Z p l e room_1 s m args below meth c X A 15 Q cells slots (QD h a b na nf ho ao bo no mo qd X gP gT gA gF ((PS gP gA p1).1) pT ((PS gP gA p1).2) pF fd) [(0, .ref b0), (1, .ref (h 0)), (2, .ref (ho 0)), (3, .int (nI yr)), (4, .int (nI nn)), (5, .int 1), (6, .int (nI k)), (7, .int (nI z)), (8, .int (nI v)), (9, .int (nI q)), (10, .int (nI p1)), (11, .int (nI nt)), (12, .int mu), (13, .ref qd)] 396 [] := by
  have hy := iv_y hI
  refine z_iln C dL_law_396 3 rfl ?_
  refine z_il C dL_law_397 10 rfl ?_
  refine z_iadd C dL_law_399 (nI (yr + p1)) (nI_add yr p1) ?_
  refine z_isn C 3 [(3, .int (nI (yr + p1))), (0, .ref b0), (1, .ref (h 0)), (2, .ref (ho 0)), (4, .int (nI nn)), (5, .int 1), (6, .int (nI k)), (7, .int (nI z)), (8, .int (nI v)), (9, .int (nI q)), (10, .int (nI p1)), (11, .int (nI nt)), (12, .int mu), (13, .ref qd)] dL_law_400 rfl (by decide) rfl ?_
  refine z_il C dL_law_401 5 rfl ?_
  refine z_if_eqN C 1 452 dL_law_403 (by decide) rfl (by omega) (fun c17 => by omega) (fun c17 => ?_)
  refine z_aln C dL_law_406 2 rfl ?_
  refine z_ic C dL_law_407 3 (by decide) ?_
  refine z_il C dL_law_408 10 rfl ?_
  refine z_ic C dL_law_410 0 (by decide) ?_
  have hM18 := (mX5_pass l X h a b na nf gP gT gA gF p1 yr h1 (by omega) (iv_10 hI) h3 (iv_fl hI))
  rw [ps_v (n := n) (by omega) hI h3, ps_n] at hM18
  refine q_oD (As := [.ref (h 0), .int 3, .int (nI p1), .int 0]) (rest := []) C hxw hxs (hD_pass (gP1 := ((PS gP gA p1).1)) (gT1 := gT) (gA1 := ((PS gP gA p1).2)) (gF1 := gF) (r := (nI (yr + p1))) l X h a b na nf gP gT gA gF (nI p1) 0 hM18 ⟨by decide, by decide⟩) gL_law_L_does rfl ⟨by decide, by decide, (by decide : (parseMethodDescriptor yL_does.desc).map (fun d => d.parameters.length) = some 4)⟩ ⟨by decide, by decide⟩ ⟨rcl (by omega), rsl (by omega)⟩ (Nat.le_of_ble_eq_true rfl) dL_law_411 rfl ?_
  refine z_iln C dL_law_414 0 rfl ?_
  refine z_ic_neN C (yr + p1) (yr + p1) 452 dL_law_415 (by decide) rfl rfl (by omega) (by omega) (fun c19 => absurd rfl c19) (fun c19 => ?_)
  refine z_il C dL_law_418 11 rfl ?_
  rcases hfo with ⟨rfl, e1, e2⟩ | ⟨rfl, e1, e2, e3, e4, e5⟩
  · skip
    refine z_if_eqN C 0 448 dL_law_420 (by decide) rfl (by omega) (fun c20 => ?_) (fun c20 => by omega)
    refine z_ic C dL_law_448 1 (by decide) ?_
    refine z_go C 453 dL_law_449 (by decide) ?_
    refine z_is C [(5, .int 1), (3, .int (nI (yr + p1))), (0, .ref b0), (1, .ref (h 0)), (2, .ref (ho 0)), (4, .int (nI nn)), (6, .int (nI k)), (7, .int (nI z)), (8, .int (nI v)), (9, .int (nI q)), (10, .int (nI p1)), (11, .int (nI 0)), (12, .int mu), (13, .ref qd)] dL_law_453 (by decide) rfl ?_
    refine z_lv [2, 3, 4, 1, 5, 0, 6, 7, 8, 9, 10, 11, 12, 13] [(0, .ref b0), (1, .ref (h 0)), (2, .ref (ho 0)), (3, .int (nI (yr + p1))), (4, .int (nI nn)), (5, .int 1), (6, .int (nI k)), (7, .int (nI z)), (8, .int (nI v)), (9, .int (nI q)), (10, .int (nI p1)), (11, .int (nI 0)), (12, .int mu), (13, .ref qd)] rfl ?_
    exact y_455 C hxw hxs h a b na nf ho ao bo no mo hn hI hv hc hs h1 h2 h3 (Or.inl ⟨rfl, e1, e2⟩) hfd K
  · skip
    refine z_if_eqN C 1 448 dL_law_420 (by decide) rfl (by omega) (fun c21 => by omega) (fun c21 => ?_)
    refine z_aln C dL_law_423 2 rfl ?_
    refine z_bp C dL_law_424 12 (by decide) ?_
    refine z_il C dL_law_426 4 rfl ?_
    refine z_ic C dL_law_428 0 (by decide) ?_
    have hM22 := (mX5_miss l X h a b na nf ((PS gP gA p1).1) gT ((PS gP gA p1).2) gF nn (by omega) (by rw [e2]; exact nI_lt (by omega) (by omega)) (by rw [e3]; exact vp_in_nI (by omega) (by decide)))
    rw [miss_0 p1 (n := n) (by omega) h1 hI h3 e3 (e4.trans e5)] at hM22
    refine q_oD (As := [.ref (h 0), .int 12, .int (nI nn), .int 0]) (rest := []) C hxw hxs (hD_miss (gP1 := ((PS gP gA p1).1)) (gT1 := gT) (gA1 := ((PS gP gA p1).2)) (gF1 := gF) (r := 0) l X h a b na nf ((PS gP gA p1).1) gT ((PS gP gA p1).2) gF (nI nn) 0 hM22 ⟨by decide, by decide⟩) gL_law_L_does rfl ⟨by decide, by decide, (by decide : (parseMethodDescriptor yL_does.desc).map (fun d => d.parameters.length) = some 4)⟩ ⟨by decide, by decide⟩ ⟨rcl (by omega), rsl (by omega)⟩ (Nat.le_of_ble_eq_true rfl) dL_law_429 rfl ?_
    refine z_if_ne C 452 dL_law_432 (by decide) (fun c23 => absurd rfl c23) (fun c23 => ?_)
    refine z_aln C dL_law_435 2 rfl ?_
    refine z_bp C dL_law_436 10 (by decide) ?_
    refine z_ic C dL_law_438 0 (by decide) ?_
    refine z_ic C dL_law_439 0 (by decide) ?_
    have hM24 := (mX5_total l X h a b na nf ((PS gP gA p1).1) gT ((PS gP gA p1).2) gF 0 (by omega))
    rw [tot_0] at hM24
    refine q_oD (As := [.ref (h 0), .int 10, .int 0, .int 0]) (rest := []) C hxw hxs (hD_total (gP1 := ((PS gP gA p1).1)) (gT1 := gT) (gA1 := ((PS gP gA p1).2)) (gF1 := gF) (r := (fX1_allIce ((PS gP gA p1).1 8) ((PS gP gA p1).1 9))) l X h a b na nf ((PS gP gA p1).1) gT ((PS gP gA p1).2) gF 0 0 hM24 ⟨by decide, by decide⟩) gL_law_L_does rfl ⟨by decide, by decide, (by decide : (parseMethodDescriptor yL_does.desc).map (fun d => d.parameters.length) = some 4)⟩ ⟨by decide, by decide⟩ ⟨rcl (by omega), rsl (by omega)⟩ (Nat.le_of_ble_eq_true rfl) dL_law_440 rfl ?_
    refine z_il C dL_law_443 12 rfl ?_
    refine z_ic_ne C 452 dL_law_445 (by decide) (fun c25 => absurd e5.symm c25) (fun c25 => ?_)
    refine z_ic C dL_law_448 1 (by decide) ?_
    refine z_go C 453 dL_law_449 (by decide) ?_
    refine z_is C [(5, .int 1), (3, .int (nI (yr + p1))), (0, .ref b0), (1, .ref (h 0)), (2, .ref (ho 0)), (4, .int (nI nn)), (6, .int (nI k)), (7, .int (nI z)), (8, .int (nI v)), (9, .int (nI q)), (10, .int (nI p1)), (11, .int (nI 1)), (12, .int mu), (13, .ref qd)] dL_law_453 (by decide) rfl ?_
    refine z_lv [2, 3, 4, 1, 5, 0, 6, 7, 8, 9, 10, 11, 12, 13] [(0, .ref b0), (1, .ref (h 0)), (2, .ref (ho 0)), (3, .int (nI (yr + p1))), (4, .int (nI nn)), (5, .int 1), (6, .int (nI k)), (7, .int (nI z)), (8, .int (nI v)), (9, .int (nI q)), (10, .int (nI p1)), (11, .int (nI 1)), (12, .int mu), (13, .ref qd)] rfl ?_
    exact y_455 C hxw hxs h a b na nf ho ao bo no mo hn hI hv hc hs h1 h2 h3 (Or.inr ⟨rfl, e1, e2, e3, e4, e5⟩) hfd K
set_option maxHeartbeats 4000000 in
set_option maxRecDepth 100000 in
theorem y_352 {p : Program} {l : Launch} {e : Env} {s : State} {m : MethodId} {args : Array Value} {below : List Frame} {meth : Method} {c : Code} {Q : State → Prop} {X : zX} {A : Nat → Prop} (C : ZC p s m args meth c X A 15 cL_law RL wsL_law (some .boolean)) (hxw : xW s) (hxs : xS A s s.heap) (h a b na nf ho ao bo no mo : Nat → Nat) {qd : Nat} {gP gT gA gF pT pF : zG} {n yr nn k v b0 : Nat} (hn : n < 511) (hI : IV n yr gP gA) (hv : v < 2 ^ 30) {cells slots : Nat} (hc : cells + 8 ≤ 600130) (hs : slots + 64 ≤ 7301079) {z q p1 nt : Nat} {mu : Int32} {fd : Nat → Int32} (h1 : 1 ≤ p1) (h2 : p1 ≤ 7) (h3 : yr + p1 ≤ 60) (hfo : nt = 0 ∧ gF 2 0 = nI nn ∧ nn ≤ 10 ∨ nt = 1 ∧ nn < 10 ∧ gF 2 0 = nI (nn + 1) ∧ gF 0 nn = nI (yr + p1) ∧ gF 1 nn = mu ∧ mu = fX1_allIce ((PS gP gA p1).1 8) ((PS gP gA p1).1 9)) (hfd : ∀ j, j < 10 → fd j = fX3_tellOf (PS gP gA p1).1 (v / 7 % 12) j) (K : ∀ (gP1 gT1 gA1 gF1 pT1 pF1 : zG) (yr1 nn1 : Nat), IV (n + 1) yr1 gP1 gA1 → gF1 2 0 = nI nn1 → nn1 ≤ 10 → Z p l e room_1 s m args below meth c X A 15 Q (cells + 8) (slots + 64) (QW h a b na nf ho ao bo no mo X gP1 gT1 gA1 gF1 gP1 pT1 gA1 pF1) [(0, .ref b0), (1, .ref (h 0)), (2, .ref (ho 0)), (3, .int (nI yr1)), (4, .int (nI nn1)), (5, .int 1), (6, .int (nI k)), (8, .int (nI v))] 683 []) : Z p l e room_1 s m args below meth c X A 15 Q cells slots (QD h a b na nf ho ao bo no mo qd X gP gT gA gF gP pT gA pF fd) [(0, .ref b0), (1, .ref (h 0)), (2, .ref (ho 0)), (3, .int (nI yr)), (4, .int (nI nn)), (5, .int 1), (6, .int (nI k)), (7, .int (nI z)), (8, .int (nI v)), (9, .int (nI q)), (10, .int (nI p1)), (11, .int (nI nt)), (12, .int mu), (13, .ref qd)] 352 [] := by
  have R355 : ∀ n2 j : Nat, j + n2 = p1 → Z p l e room_1 s m args below meth c X A 15 Q cells slots (QD h a b na nf ho ao bo no mo qd X gP gT gA gF ((PS gP gA j).1) pT ((PS gP gA j).2) pF fd) [(0, .ref b0), (1, .ref (h 0)), (2, .ref (ho 0)), (3, .int (nI yr)), (4, .int (nI nn)), (5, .int 1), (6, .int (nI k)), (7, .int (nI z)), (8, .int (nI v)), (9, .int (nI q)), (10, .int (nI p1)), (11, .int (nI nt)), (12, .int mu), (13, .ref qd), (14, .int (nI j))] 355 [] := by
    intro n2
    induction n2 with
    | zero =>
      intro j hj
      rw [show j = p1 by omega]
      refine z_il C dL_law_355 14 rfl ?_
      refine z_il C dL_law_357 10 rfl ?_
      refine z_ic_geN C p1 p1 396 dL_law_359 (by decide) rfl rfl (by omega) (by omega) (fun c26 => ?_) (fun c26 => by omega)
      refine z_lv [0, 1, 2, 3, 4, 5, 6, 7, 8, 9, 10, 11, 12, 13] [(0, .ref b0), (1, .ref (h 0)), (2, .ref (ho 0)), (3, .int (nI yr)), (4, .int (nI nn)), (5, .int 1), (6, .int (nI k)), (7, .int (nI z)), (8, .int (nI v)), (9, .int (nI q)), (10, .int (nI p1)), (11, .int (nI nt)), (12, .int mu), (13, .ref qd)] rfl ?_
      exact y_396 C hxw hxs h a b na nf ho ao bo no mo hn hI hv hc hs h1 h2 h3 hfo hfd K
    | succ n2 ih =>
      intro j hj
      have hJ := iv_ps (j := j) (by omega) hI (by omega)
      refine z_il C dL_law_355 14 rfl ?_
      refine z_il C dL_law_357 10 rfl ?_
      refine z_ic_geN C j p1 396 dL_law_359 (by decide) rfl rfl (by omega) (by omega) (fun c27 => by omega) (fun c27 => ?_)
      refine z_il C dL_law_362 5 rfl ?_
      refine z_if_eqN C 1 387 dL_law_364 (by decide) rfl (by omega) (fun c28 => by omega) (fun c28 => ?_)
      refine z_aln C dL_law_367 2 rfl ?_
      refine z_ic C dL_law_368 3 (by decide) ?_
      refine z_ic C dL_law_369 1 (by decide) ?_
      refine z_ic C dL_law_370 0 (by decide) ?_
      have hM29 := (mX5_pass l X ho ao bo no mo ((PS gP gA j).1) pT ((PS gP gA j).2) pF 1 (yr + j) (by omega) (by omega) (iv_10 hJ) (by omega) (iv_fl hJ))
      rw [ps_v1 (n := n) (j := j) (by omega) hI (by omega), ps_s] at hM29
      refine q_pD (As := [.ref (ho 0), .int 3, .int 1, .int 0]) (rest := []) C hxw hxs (hD_pass (gP1 := ((PS gP gA (j + 1)).1)) (gT1 := pT) (gA1 := ((PS gP gA (j + 1)).2)) (gF1 := pF) (r := (nI (yr + j + 1))) l X ho ao bo no mo ((PS gP gA j).1) pT ((PS gP gA j).2) pF 1 0 hM29 ⟨by decide, by decide⟩) gL_law_L_does rfl ⟨by decide, by decide, (by decide : (parseMethodDescriptor yL_does.desc).map (fun d => d.parameters.length) = some 4)⟩ ⟨by decide, by decide⟩ ⟨rcl (by omega), rsl (by omega)⟩ (Nat.le_of_ble_eq_true rfl) dL_law_371 rfl ?_
      refine z_iln C dL_law_374 3 rfl ?_
      refine z_il C dL_law_375 14 rfl ?_
      refine z_iadd C dL_law_377 (nI (yr + j)) (nI_add yr j) ?_
      refine z_ic C dL_law_378 1 (by decide) ?_
      refine z_iadd C dL_law_379 (nI ((yr + j) + 1)) (nI_add (yr + j) 1) ?_
      refine z_ic_neN C (yr + j + 1) ((yr + j) + 1) 387 dL_law_380 (by decide) rfl rfl (by omega) (by omega) (fun c30 => absurd rfl c30) (fun c30 => ?_)
      refine z_ic C dL_law_383 1 (by decide) ?_
      refine z_go C 388 dL_law_384 (by decide) ?_
      refine z_is C [(5, .int 1), (0, .ref b0), (1, .ref (h 0)), (2, .ref (ho 0)), (3, .int (nI yr)), (4, .int (nI nn)), (6, .int (nI k)), (7, .int (nI z)), (8, .int (nI v)), (9, .int (nI q)), (10, .int (nI p1)), (11, .int (nI nt)), (12, .int mu), (13, .ref qd), (14, .int (nI j))] dL_law_388 (by decide) rfl ?_
      refine z_inc C 14 (nI (j + 1)) [(14, .int (nI (j + 1))), (5, .int 1), (0, .ref b0), (1, .ref (h 0)), (2, .ref (ho 0)), (3, .int (nI yr)), (4, .int (nI nn)), (6, .int (nI k)), (7, .int (nI z)), (8, .int (nI v)), (9, .int (nI q)), (10, .int (nI p1)), (11, .int (nI nt)), (12, .int mu), (13, .ref qd)] dL_law_390 rfl (nI_add j 1) (by decide) rfl ?_
      refine z_go C 355 dL_law_393 (by decide) ?_
      refine z_lv [2, 3, 4, 5, 6, 1, 7, 8, 9, 10, 11, 12, 13, 14, 0] [(0, .ref b0), (1, .ref (h 0)), (2, .ref (ho 0)), (3, .int (nI yr)), (4, .int (nI nn)), (5, .int 1), (6, .int (nI k)), (7, .int (nI z)), (8, .int (nI v)), (9, .int (nI q)), (10, .int (nI p1)), (11, .int (nI nt)), (12, .int mu), (13, .ref qd), (14, .int (nI (j + 1)))] rfl ?_
      exact ih (j + 1) (by omega)
  refine z_ic C dL_law_352 0 (by decide) ?_
  refine z_is C [(14, .int 0), (0, .ref b0), (1, .ref (h 0)), (2, .ref (ho 0)), (3, .int (nI yr)), (4, .int (nI nn)), (5, .int 1), (6, .int (nI k)), (7, .int (nI z)), (8, .int (nI v)), (9, .int (nI q)), (10, .int (nI p1)), (11, .int (nI nt)), (12, .int mu), (13, .ref qd)] dL_law_353 (by decide) rfl ?_
  refine z_lv [1, 2, 3, 4, 5, 6, 7, 8, 9, 10, 11, 12, 13, 14, 0] [(0, .ref b0), (1, .ref (h 0)), (2, .ref (ho 0)), (3, .int (nI yr)), (4, .int (nI nn)), (5, .int 1), (6, .int (nI k)), (7, .int (nI z)), (8, .int (nI v)), (9, .int (nI q)), (10, .int (nI p1)), (11, .int (nI nt)), (12, .int mu), (13, .ref qd), (14, .int 0)] rfl ?_
  exact R355 p1 0 (by omega)
set_option maxHeartbeats 4000000 in
set_option maxRecDepth 100000 in
theorem y_309 {p : Program} {l : Launch} {e : Env} {s : State} {m : MethodId} {args : Array Value} {below : List Frame} {meth : Method} {c : Code} {Q : State → Prop} {X : zX} {A : Nat → Prop} (C : ZC p s m args meth c X A 15 cL_law RL wsL_law (some .boolean)) (hxw : xW s) (hxs : xS A s s.heap) (h a b na nf ho ao bo no mo : Nat → Nat) {gP gT gA gF pT pF : zG} {n yr nn k v b0 : Nat} (hn : n < 511) (hI : IV n yr gP gA) (hv : v < 2 ^ 30) {cells slots : Nat} (hc : cells + 9 ≤ 600130) (hs : slots + 74 ≤ 7301079) {z q p1 nt : Nat} {mu : Int32} (h1 : 1 ≤ p1) (h2 : p1 ≤ 7) (h3 : yr + p1 ≤ 60) (hfo : nt = 0 ∧ gF 2 0 = nI nn ∧ nn ≤ 10 ∨ nt = 1 ∧ nn < 10 ∧ gF 2 0 = nI (nn + 1) ∧ gF 0 nn = nI (yr + p1) ∧ gF 1 nn = mu ∧ mu = fX1_allIce ((PS gP gA p1).1 8) ((PS gP gA p1).1 9)) (K : ∀ (gP1 gT1 gA1 gF1 pT1 pF1 : zG) (yr1 nn1 : Nat), IV (n + 1) yr1 gP1 gA1 → gF1 2 0 = nI nn1 → nn1 ≤ 10 → Z p l e room_1 s m args below meth c X A 15 Q (cells + 1 + 8) (slots + 10 + 64) (QW h a b na nf ho ao bo no mo X gP1 gT1 gA1 gF1 gP1 pT1 gA1 pF1) [(0, .ref b0), (1, .ref (h 0)), (2, .ref (ho 0)), (3, .int (nI yr1)), (4, .int (nI nn1)), (5, .int 1), (6, .int (nI k)), (8, .int (nI v))] 683 []) : Z p l e room_1 s m args below meth c X A 15 Q cells slots (QW h a b na nf ho ao bo no mo X gP gT gA gF gP pT gA pF) [(0, .ref b0), (1, .ref (h 0)), (2, .ref (ho 0)), (3, .int (nI yr)), (4, .int (nI nn)), (5, .int 1), (6, .int (nI k)), (7, .int (nI z)), (8, .int (nI v)), (9, .int (nI q)), (10, .int (nI p1)), (11, .int (nI nt)), (12, .int mu)] 309 [] := by
  have hy := iv_y hI
  refine z_bp C dL_law_309 10 (by decide) ?_
  refine z_newa (atype := .int) C 0 X.2.1 10 (10, .inl (fun _ => 0)) .int dL_law_311 rfl rfl (Or.inl rfl) (by decide +kernel) (fun cA => rfl) (by decide) (by decide) (by decide) (rcl (by omega)) (rsl (by omega)) (fun qd => ?_)
  refine z_world [0, 1, 2, 3, 4, 5, 6, 7, 8, 9, 10, 11, 12, 13, 14, 15, 16, 17, 18, 19, 20, 21, 22, 23, 24, 25, 26, 27, 28, 29, 30, 31, 32, 33, 34, 35, 36, 37, 38, 39, 40, 41, 42, 43, 44, 45, 46, 47, 48, 49, 50, 51, 52, 53, 54, 55, 56, 57, 58, 59, 60, 61, 62, 63, 64, 65, 66, 67, 68, 69, 70, 71, 72, 73, 74] (QD h a b na nf ho ao bo no mo qd X gP gT gA gF gP pT gA pF (fun _ => 0)) rfl (by decide) ?_
  have R318 : ∀ (n2 j : Nat) (gT1 : zG) (fd : Nat → Int32), j + n2 = 10 → (∀ i, i < j → fd i = fX3_tellOf (PS gP gA p1).1 (v / 7 % 12) i) → Z p l e room_1 s m args below meth c X A 15 Q (cells + 1) (slots + 10) (QD h a b na nf ho ao bo no mo qd X gP gT1 gA gF gP pT gA pF fd) [(0, .ref b0), (1, .ref (h 0)), (2, .ref (ho 0)), (3, .int (nI yr)), (4, .int (nI nn)), (5, .int 1), (6, .int (nI k)), (7, .int (nI z)), (8, .int (nI v)), (9, .int (nI q)), (10, .int (nI p1)), (11, .int (nI nt)), (12, .int mu), (13, .ref qd), (14, .int (nI j))] 318 [] := by
    intro n2
    induction n2 with
    | zero =>
      intro j gT1 fd hj hfd
      refine z_il C dL_law_318 14 rfl ?_
      refine z_bp C dL_law_320 10 (by decide) ?_
      refine z_ic_geN C j 10 352 dL_law_322 (by decide) rfl rfl (by omega) (by omega) (fun c31 => ?_) (fun c31 => by omega)
      refine z_lv [0, 1, 2, 3, 4, 5, 6, 7, 8, 9, 10, 11, 12, 13] [(0, .ref b0), (1, .ref (h 0)), (2, .ref (ho 0)), (3, .int (nI yr)), (4, .int (nI nn)), (5, .int 1), (6, .int (nI k)), (7, .int (nI z)), (8, .int (nI v)), (9, .int (nI q)), (10, .int (nI p1)), (11, .int (nI nt)), (12, .int mu), (13, .ref qd)] rfl ?_
      exact y_352 C hxw hxs h a b na nf ho ao bo no mo hn hI hv (by omega) (by omega) h1 h2 h3 hfo (fun i hi => hfd i (by omega)) K
    | succ n2 ih =>
      intro j gT1 fd hj hfd
      refine z_il C dL_law_318 14 rfl ?_
      refine z_bp C dL_law_320 10 (by decide) ?_
      refine z_ic_geN C j 10 352 dL_law_322 (by decide) rfl rfl (by omega) (by omega) (fun c32 => by omega) (fun c32 => ?_)
      refine z_al C dL_law_325 13 rfl ?_
      refine z_il C dL_law_327 14 rfl ?_
      refine z_aln C dL_law_329 1 rfl ?_
      refine z_il C dL_law_330 10 rfl ?_
      refine z_il C dL_law_332 8 rfl ?_
      refine z_bp C dL_law_334 7 (by decide) ?_
      refine z_idiv C dL_law_336 (by decide) (nI (v / 7)) (pk_div (a := v) (d := 7) (by omega) (by omega) (by omega)) ?_
      refine z_bp C dL_law_337 12 (by decide) ?_
      refine z_irem C dL_law_339 (by decide) (nI ((v / 7) % 12)) (pk_rem (a := (v / 7)) (d := 12) (by omega) (by omega) (by omega)) ?_
      refine z_il C dL_law_340 14 rfl ?_
      have hM := mX5_would l X h a b na nf gP gT1 gA gF p1 (v / 7 % 12) j yr h1 (by omega) (iv_10 hI) h3 (by omega) (by omega)
      rw [would_e] at hM
      refine q_oD (As := [.ref (h 0), .int (nI p1), .int (nI ((v / 7) % 12)), .int (nI j)]) (rest := [.int (nI j), .ref qd]) C hxw hxs (hW_would (gP1 := gP) (gT1 := TT gP gT1 p1) (gA1 := gA) (gF1 := gF) (r := (fX3_tellOf (TT gP gT1 p1) (v / 7 % 12) j)) l X h a b na nf gP gT1 gA gF (nI p1) (nI (v / 7 % 12)) (nI j) hM ⟨by decide, by decide⟩) gL_law_L_would rfl ⟨by decide, by decide, (by decide : (parseMethodDescriptor yL_would.desc).map (fun d => d.parameters.length) = some 4)⟩ ⟨by decide, by decide⟩ ⟨rcl (by omega), rsl (by omega)⟩ (Nat.le_of_ble_eq_true rfl) dL_law_342 rfl ?_
      refine q_ast C j dL_law_345 rfl (by omega) ?_
      refine z_inc C 14 (nI (j + 1)) [(14, .int (nI (j + 1))), (0, .ref b0), (1, .ref (h 0)), (2, .ref (ho 0)), (3, .int (nI yr)), (4, .int (nI nn)), (5, .int 1), (6, .int (nI k)), (7, .int (nI z)), (8, .int (nI v)), (9, .int (nI q)), (10, .int (nI p1)), (11, .int (nI nt)), (12, .int mu), (13, .ref qd)] dL_law_346 rfl (nI_add j 1) (by decide) rfl ?_
      refine z_go C 318 dL_law_349 (by decide) ?_
      refine z_lv [1, 2, 3, 4, 5, 6, 7, 8, 9, 10, 11, 12, 13, 14, 0] [(0, .ref b0), (1, .ref (h 0)), (2, .ref (ho 0)), (3, .int (nI yr)), (4, .int (nI nn)), (5, .int 1), (6, .int (nI k)), (7, .int (nI z)), (8, .int (nI v)), (9, .int (nI q)), (10, .int (nI p1)), (11, .int (nI nt)), (12, .int mu), (13, .ref qd), (14, .int (nI (j + 1)))] rfl ?_
      refine ih (j + 1) _ _ (by omega) (fun i hi => ?_)
      have hT := (iv_try gT1 p1 (by omega) hI h1 h3).1
      by_cases e : i = j
      · subst e
        rw [pk_us]
        exact hT _ _ (by omega) (by omega)
      · rw [pk_un e]
        exact hfd i (by omega)
  refine z_as C [(13, .ref qd), (0, .ref b0), (1, .ref (h 0)), (2, .ref (ho 0)), (3, .int (nI yr)), (4, .int (nI nn)), (5, .int 1), (6, .int (nI k)), (7, .int (nI z)), (8, .int (nI v)), (9, .int (nI q)), (10, .int (nI p1)), (11, .int (nI nt)), (12, .int mu)] dL_law_313 (by decide) rfl ?_
  refine z_ic C dL_law_315 0 (by decide) ?_
  refine z_is C [(14, .int 0), (13, .ref qd), (0, .ref b0), (1, .ref (h 0)), (2, .ref (ho 0)), (3, .int (nI yr)), (4, .int (nI nn)), (5, .int 1), (6, .int (nI k)), (7, .int (nI z)), (8, .int (nI v)), (9, .int (nI q)), (10, .int (nI p1)), (11, .int (nI nt)), (12, .int mu)] dL_law_316 (by decide) rfl ?_
  refine z_lv [2, 3, 4, 5, 6, 7, 8, 9, 10, 11, 12, 13, 14, 1, 0] [(0, .ref b0), (1, .ref (h 0)), (2, .ref (ho 0)), (3, .int (nI yr)), (4, .int (nI nn)), (5, .int 1), (6, .int (nI k)), (7, .int (nI z)), (8, .int (nI v)), (9, .int (nI q)), (10, .int (nI p1)), (11, .int (nI nt)), (12, .int mu), (13, .ref qd), (14, .int 0)] rfl ?_
  exact R318 10 0 gT (fun _ => 0) (by omega) (fun i hi => absurd hi (Nat.not_lt_zero i))
set_option maxHeartbeats 4000000 in
set_option maxRecDepth 100000 in
theorem y_275 {p : Program} {l : Launch} {e : Env} {s : State} {m : MethodId} {args : Array Value} {below : List Frame} {meth : Method} {c : Code} {Q : State → Prop} {X : zX} {A : Nat → Prop} (C : ZC p s m args meth c X A 15 cL_law RL wsL_law (some .boolean)) (hxw : xW s) (hxs : xS A s s.heap) (h a b na nf ho ao bo no mo : Nat → Nat) {gP gT gA gF pT pF : zG} {n yr nn k v b0 : Nat} (hn : n < 511) (hI : IV n yr gP gA) (hF : gF 2 0 = nI nn) (hnn : nn ≤ 10) (hv : v < 2 ^ 30) {cells slots : Nat} (hc : cells + 9 ≤ 600130) (hs : slots + 74 ≤ 7301079) {z q p1 : Nat} (h1 : 1 ≤ p1) (h2 : p1 ≤ 7) (h3 : yr + p1 ≤ 60) (K : ∀ (gP1 gT1 gA1 gF1 pT1 pF1 : zG) (yr1 nn1 : Nat), IV (n + 1) yr1 gP1 gA1 → gF1 2 0 = nI nn1 → nn1 ≤ 10 → Z p l e room_1 s m args below meth c X A 15 Q (cells + 1 + 8) (slots + 10 + 64) (QW h a b na nf ho ao bo no mo X gP1 gT1 gA1 gF1 gP1 pT1 gA1 pF1) [(0, .ref b0), (1, .ref (h 0)), (2, .ref (ho 0)), (3, .int (nI yr1)), (4, .int (nI nn1)), (5, .int 1), (6, .int (nI k)), (8, .int (nI v))] 683 []) : Z p l e room_1 s m args below meth c X A 15 Q cells slots (QW h a b na nf ho ao bo no mo X gP gT gA gF gP pT gA pF) [(0, .ref b0), (1, .ref (h 0)), (2, .ref (ho 0)), (3, .int (nI yr)), (4, .int (nI nn)), (5, .int 1), (6, .int (nI k)), (7, .int (nI z)), (8, .int (nI v)), (9, .int (nI q)), (10, .int (nI p1))] 275 [] := by
  have hy := iv_y hI
  refine z_il C dL_law_275 4 rfl ?_
  refine z_bp C dL_law_277 10 (by decide) ?_
  refine z_ic_geN C nn 10 286 dL_law_279 (by decide) rfl rfl (by omega) (by omega) (fun c33 => ?_) (fun c33 => ?_)
  · skip
    refine z_ic C dL_law_286 0 (by decide) ?_
    refine z_is C [(11, .int 0), (0, .ref b0), (1, .ref (h 0)), (2, .ref (ho 0)), (3, .int (nI yr)), (4, .int (nI nn)), (5, .int 1), (6, .int (nI k)), (7, .int (nI z)), (8, .int (nI v)), (9, .int (nI q)), (10, .int (nI p1))] dL_law_287 (by decide) rfl ?_
    refine z_il C dL_law_289 0 rfl ?_
    refine z_if_eqN C 0 306 dL_law_291 (by decide) rfl (by omega) (fun c34 => ?_) (fun c34 => by omega)
    refine z_ic C dL_law_306 0 (by decide) ?_
    refine z_is C [(12, .int 0), (11, .int 0), (0, .ref b0), (1, .ref (h 0)), (2, .ref (ho 0)), (3, .int (nI yr)), (4, .int (nI nn)), (5, .int 1), (6, .int (nI k)), (7, .int (nI z)), (8, .int (nI v)), (9, .int (nI q)), (10, .int (nI p1))] dL_law_307 (by decide) rfl ?_
    refine z_lv [2, 3, 4, 5, 6, 7, 8, 9, 10, 11, 12, 1, 0] [(0, .ref b0), (1, .ref (h 0)), (2, .ref (ho 0)), (3, .int (nI yr)), (4, .int (nI nn)), (5, .int 1), (6, .int (nI k)), (7, .int (nI z)), (8, .int (nI v)), (9, .int (nI q)), (10, .int (nI p1)), (11, .int 0), (12, .int 0)] rfl ?_
    exact y_309 C hxw hxs h a b na nf ho ao bo no mo hn hI hv hc hs h1 h2 h3 (nt := 0) (mu := 0) (Or.inl ⟨rfl, hF, hnn⟩) K
  · skip
    obtain ⟨t1, t2, t3⟩ := iv_try gT p1 (by omega) hI h1 h3
    obtain ⟨k1, k2, k3⟩ := keep_0 (y := TT gP gT p1 10 0) (v := fX1_allIce (TT gP gT p1 8) (TT gP gT p1 9)) (show nn < 10 by omega) hF
    refine z_ic C dL_law_282 1 (by decide) ?_
    refine z_go C 287 dL_law_283 (by decide) ?_
    refine z_is C [(11, .int 1), (0, .ref b0), (1, .ref (h 0)), (2, .ref (ho 0)), (3, .int (nI yr)), (4, .int (nI nn)), (5, .int 1), (6, .int (nI k)), (7, .int (nI z)), (8, .int (nI v)), (9, .int (nI q)), (10, .int (nI p1))] dL_law_287 (by decide) rfl ?_
    refine z_il C dL_law_289 0 rfl ?_
    refine z_if_eqN C 1 306 dL_law_291 (by decide) rfl (by omega) (fun c35 => by omega) (fun c35 => ?_)
    refine z_aln C dL_law_294 2 rfl ?_
    refine z_bp C dL_law_295 11 (by decide) ?_
    refine z_il C dL_law_297 11 rfl ?_
    refine z_ic C dL_law_299 0 (by decide) ?_
    have hM := mX5_forecast l X h a b na nf gP gT gA gF p1 yr h1 (by omega) (iv_10 hI) h3 ⟨nn, hnn, hF⟩ (by rw [hF]; exact nI_lt (b := 10) (by omega) (by decide))
    rw [fore_e] at hM
    refine q_o (As := [.ref (h 0), .int 11, .int (nI p1), .int 0]) (rest := []) C hxw hxs (hD_forecast (gP1 := gP) (gT1 := TT gP gT p1) (gA1 := gA) (gF1 := (fX2_keep gF (TT gP gT p1 10 0) (fX1_allIce (TT gP gT p1 8) (TT gP gT p1 9)))) (r := (fX1_allIce (TT gP gT p1 8) (TT gP gT p1 9))) l X h a b na nf gP gT gA gF (nI p1) 0 hM ⟨by decide, by decide⟩) gL_law_L_does rfl ⟨by decide, by decide, (by decide : (parseMethodDescriptor yL_does.desc).map (fun d => d.parameters.length) = some 4)⟩ ⟨by decide, by decide⟩ ⟨rcl (by omega), rsl (by omega)⟩ (Nat.le_of_ble_eq_true rfl) dL_law_300 rfl ?_
    refine z_go C 307 dL_law_303 (by decide) ?_
    refine z_is C [(12, .int (fX1_allIce (TT gP gT p1 8) (TT gP gT p1 9))), (11, .int 1), (0, .ref b0), (1, .ref (h 0)), (2, .ref (ho 0)), (3, .int (nI yr)), (4, .int (nI nn)), (5, .int 1), (6, .int (nI k)), (7, .int (nI z)), (8, .int (nI v)), (9, .int (nI q)), (10, .int (nI p1))] dL_law_307 (by decide) rfl ?_
    refine z_lv [2, 3, 4, 5, 6, 7, 8, 9, 10, 11, 12, 1, 0] [(0, .ref b0), (1, .ref (h 0)), (2, .ref (ho 0)), (3, .int (nI yr)), (4, .int (nI nn)), (5, .int 1), (6, .int (nI k)), (7, .int (nI z)), (8, .int (nI v)), (9, .int (nI q)), (10, .int (nI p1)), (11, .int 1), (12, .int (fX1_allIce (TT gP gT p1 8) (TT gP gT p1 9)))] rfl ?_
    exact y_309 C hxw hxs h a b na nf ho ao bo no mo hn hI hv hc hs h1 h2 h3 (nt := 1) (mu := fX1_allIce (TT gP gT p1 8) (TT gP gT p1 9)) (Or.inr ⟨rfl, by omega, k1, k2.trans t3, k3, t2⟩) K
set_option maxHeartbeats 4000000 in
set_option maxRecDepth 100000 in
theorem b_pass {p : Program} {l : Launch} {e : Env} {s : State} {m : MethodId} {args : Array Value} {below : List Frame} {meth : Method} {c : Code} {Q : State → Prop} {X : zX} {A : Nat → Prop} (C : ZC p s m args meth c X A 15 cL_law RL wsL_law (some .boolean)) (hxw : xW s) (hxs : xS A s s.heap) (h a b na nf ho ao bo no mo : Nat → Nat) {gP gT gA gF pT pF : zG} {n yr nn k v b0 : Nat} (hn : n < 511) (hI : IV n yr gP gA) (hF : gF 2 0 = nI nn) (hnn : nn ≤ 10) (hv : v < 2 ^ 30) {cells slots : Nat} (hc : cells + 9 ≤ 600130) (hs : slots + 74 ≤ 7301079) {z q : Nat} (hyr : yr < 56) (K : ∀ (gP1 gT1 gA1 gF1 pT1 pF1 : zG) (yr1 nn1 : Nat), IV (n + 1) yr1 gP1 gA1 → gF1 2 0 = nI nn1 → nn1 ≤ 10 → Z p l e room_1 s m args below meth c X A 15 Q (cells + 1 + 8) (slots + 10 + 64) (QW h a b na nf ho ao bo no mo X gP1 gT1 gA1 gF1 gP1 pT1 gA1 pF1) [(0, .ref b0), (1, .ref (h 0)), (2, .ref (ho 0)), (3, .int (nI yr1)), (4, .int (nI nn1)), (5, .int 1), (6, .int (nI k)), (8, .int (nI v))] 683 []) : Z p l e room_1 s m args below meth c X A 15 Q cells slots (QW h a b na nf ho ao bo no mo X gP gT gA gF gP pT gA pF) [(0, .ref b0), (1, .ref (h 0)), (2, .ref (ho 0)), (3, .int (nI yr)), (4, .int (nI nn)), (5, .int 1), (6, .int (nI k)), (7, .int (nI z)), (8, .int (nI v)), (9, .int (nI q))] 250 [] := by
  refine z_ic C dL_law_250 1 (by decide) ?_
  refine z_il C dL_law_251 8 rfl ?_
  refine z_bp C dL_law_253 60 (by decide) ?_
  refine z_iln C dL_law_255 3 rfl ?_
  refine z_isub C dL_law_256 (nI (60 - yr)) (pk_sub (a := 60) (b := yr) (by omega)) ?_
  refine z_bp C dL_law_257 7 (by decide) ?_
  refine z_ic_geN C (60 - yr) 7 269 dL_law_259 (by decide) rfl rfl (by omega) (by omega) (fun c36 => ?_) (fun c36 => ?_)
  · skip
    refine z_bp C dL_law_269 7 (by decide) ?_
    refine z_irem C dL_law_271 (by decide) (nI (v % 7)) (pk_rem (a := v) (d := 7) (by omega) (by omega) (by omega)) ?_
    refine z_iadd C dL_law_272 (nI (1 + (v % 7))) (nI_add 1 (v % 7)) ?_
    refine z_is C [(10, .int (nI (1 + (v % 7)))), (0, .ref b0), (1, .ref (h 0)), (2, .ref (ho 0)), (3, .int (nI yr)), (4, .int (nI nn)), (5, .int 1), (6, .int (nI k)), (7, .int (nI z)), (8, .int (nI v)), (9, .int (nI q))] dL_law_273 (by decide) rfl ?_
    refine z_lv [1, 2, 3, 4, 5, 6, 7, 8, 9, 10, 0] [(0, .ref b0), (1, .ref (h 0)), (2, .ref (ho 0)), (3, .int (nI yr)), (4, .int (nI nn)), (5, .int 1), (6, .int (nI k)), (7, .int (nI z)), (8, .int (nI v)), (9, .int (nI q)), (10, .int (nI (1 + (v % 7))))] rfl ?_
    exact y_275 C hxw hxs h a b na nf ho ao bo no mo hn hI hF hnn hv hc hs (by omega) (by omega) (by omega) K
  · skip
    have hlt : v % (60 - yr) < 60 - yr := Nat.mod_lt _ (by omega)
    refine z_bp C dL_law_262 60 (by decide) ?_
    refine z_iln C dL_law_264 3 rfl ?_
    refine z_isub C dL_law_265 (nI (60 - yr)) (pk_sub (a := 60) (b := yr) (by omega)) ?_
    refine z_go C 271 dL_law_266 (by decide) ?_
    refine z_irem C dL_law_271 (nI_ne0 (n := (60 - yr)) (by omega) (by omega)) (nI (v % (60 - yr))) (pk_rem (a := v) (d := (60 - yr)) (by omega) (by omega) (by omega)) ?_
    refine z_iadd C dL_law_272 (nI (1 + (v % (60 - yr)))) (nI_add 1 (v % (60 - yr))) ?_
    refine z_is C [(10, .int (nI (1 + (v % (60 - yr))))), (0, .ref b0), (1, .ref (h 0)), (2, .ref (ho 0)), (3, .int (nI yr)), (4, .int (nI nn)), (5, .int 1), (6, .int (nI k)), (7, .int (nI z)), (8, .int (nI v)), (9, .int (nI q))] dL_law_273 (by decide) rfl ?_
    refine z_lv [1, 2, 3, 4, 5, 6, 7, 8, 9, 10, 0] [(0, .ref b0), (1, .ref (h 0)), (2, .ref (ho 0)), (3, .int (nI yr)), (4, .int (nI nn)), (5, .int 1), (6, .int (nI k)), (7, .int (nI z)), (8, .int (nI v)), (9, .int (nI q)), (10, .int (nI (1 + (v % (60 - yr)))))] rfl ?_
    exact y_275 C hxw hxs h a b na nf ho ao bo no mo hn hI hF hnn hv hc hs (by omega) (by omega) (by omega) K
