set_option maxHeartbeats 4000000 in
set_option maxRecDepth 100000 in
theorem law_loop {p : Program} {l : Launch} {e : Env} {s : State} {m : MethodId} {args : Array Value} {below : List Frame} {meth : Method} {c : Code} {Q : State → Prop} {X : zX} {A : Nat → Prop} (C : ZC p s m args meth c X A 15 cL_law RL wsL_law (some .boolean)) (hxw : xW s) (hxs : xS A s s.heap) (hl : l.stackTraces = false) {b0 L : Nat} {sc : Nat → Int32} (hX : va_X b0 L sc s s.heap) (hbl : b0 < s.heap.size) (hbA : ¬ A b0) (hL : L ≤ 2048) (h a b na nf ho ao bo no mo : Nat → Nat) (hEnd : ∀ (cells slots : Nat) (ws : va_W) (lv : List (Nat × Value)), cells ≤ 600130 → slots ≤ 7301079 → Z p l e room_1 s m args below meth c X A 15 Q cells slots ws lv 714 [.int 1]) :
    ∀ (q k : Nat) (gP gT gA gF pT pF : zG) (yr nn : Nat), k + q = 50 → 12 ≤ k → IV k yr gP gA → gF 2 0 = nI nn → nn ≤ 10 → Z p l e room_1 s m args below meth c X A 15 Q (100 + 9 * k) (9000 + 74 * k) (QW h a b na nf ho ao bo no mo X gP gT gA gF gP pT gA pF) [(0, .ref b0), (1, .ref (h 0)), (2, .ref (ho 0)), (3, .int (nI yr)), (4, .int (nI nn)), (5, .int 1), (6, .int (nI k))] 124 [] := by
  intro q
  induction q with
  | zero =>
    intro k gP gT gA gF pT pF yr nn hk h12 hI hF hnn
    refine z_il C dL_law_124 6 rfl ?_
    refine z_bp C dL_law_126 50 (by decide) ?_
    refine z_ic_geN C k 50 712 dL_law_128 (by decide) rfl rfl (by omega) (by omega) (fun c37 => ?_) (fun c37 => by omega)
    refine z_il C dL_law_712 5 rfl ?_
    exact hEnd _ _ _ _ (by omega) (by omega)
  | succ q ih =>
    intro k gP gT gA gF pT pF yr nn hk h12 hI hF hnn
    have hy0 := iv_y hI
    obtain ⟨z, hz, hD⟩ := m_drawn l X b0 L sc k hL (by omega)
    obtain ⟨v, hv9⟩ : ∃ v, v = z / 12 := ⟨_, rfl⟩
    have hv : v < 2 ^ 30 := by omega
    have K : ∀ (gP1 gT1 gA1 gF1 pT1 pF1 : zG) (yr1 nn1 : Nat), IV (k + 1) yr1 gP1 gA1 → gF1 2 0 = nI nn1 → nn1 ≤ 10 → Z p l e room_1 s m args below meth c X A 15 Q ((100 + 9 * k) + 1 + 8) ((9000 + 74 * k) + 10 + 64) (QW h a b na nf ho ao bo no mo X gP1 gT1 gA1 gF1 gP1 pT1 gA1 pF1) [(0, .ref b0), (1, .ref (h 0)), (2, .ref (ho 0)), (3, .int (nI yr1)), (4, .int (nI nn1)), (5, .int 1), (6, .int (nI k)), (8, .int (nI v))] 683 [] := by
      intro gP1 gT1 gA1 gF1 pT1 pF1 yr1 nn1 hI1 hF1 hnn1
      refine z_il C dL_law_683 5 rfl ?_
      refine z_if_eqN C 1 703 dL_law_685 (by decide) rfl (by omega) (fun c38 => by omega) (fun c38 => ?_)
      refine z_aln C dL_law_688 1 rfl ?_
      refine z_aln C dL_law_689 2 rfl ?_
      refine z_iln C dL_law_690 3 rfl ?_
      refine z_il C dL_law_691 7 rfl ?_
      refine z_cP (As := [.ref (h 0), .ref (ho 0), .int (nI yr1), .int (nI v)]) (rest := []) C hxw hxs (m_alike l X h a b na nf ho ao bo no mo gP1 gT1 gA1 gF1 pT1 pF1 yr1 v (iv_10 hI1) (iv_y hI1) hv (iv_fl hI1)) gL_law_L_areAlike rfl ⟨by decide, by decide, (by decide : (parseMethodDescriptor yL_areAlike.desc).map (fun d => d.parameters.length) = some 4)⟩ ⟨by decide, by decide⟩ ⟨rcl (by omega), rsl (by omega)⟩ (Nat.le_of_ble_eq_true rfl) dL_law_693 rfl ?_
      refine z_if_eqN C 1 703 dL_law_696 (by decide) rfl (by omega) (fun c39 => by omega) (fun c39 => ?_)
      refine z_ic C dL_law_699 1 (by decide) ?_
      refine z_go C 704 dL_law_700 (by decide) ?_
      refine z_is C [(5, .int 1), (0, .ref b0), (1, .ref (h 0)), (2, .ref (ho 0)), (3, .int (nI yr1)), (4, .int (nI nn1)), (6, .int (nI k)), (8, .int (nI v))] dL_law_704 (by decide) rfl ?_
      refine z_inc C 6 (nI (k + 1)) [(6, .int (nI (k + 1))), (5, .int 1), (0, .ref b0), (1, .ref (h 0)), (2, .ref (ho 0)), (3, .int (nI yr1)), (4, .int (nI nn1)), (8, .int (nI v))] dL_law_706 rfl (nI_add k 1) (by decide) rfl ?_
      refine z_go C 124 dL_law_709 (by decide) ?_
      refine z_wide (100 + 9 * (k + 1)) (9000 + 74 * (k + 1)) (by omega) (by omega) ?_
      refine z_lv [2, 3, 4, 5, 6, 1, 0] [(0, .ref b0), (1, .ref (h 0)), (2, .ref (ho 0)), (3, .int (nI yr1)), (4, .int (nI nn1)), (5, .int 1), (6, .int (nI (k + 1)))] rfl ?_
      exact ih (k + 1) _ _ _ _ _ _ yr1 nn1 (by omega) (by omega) hI1 hF1 hnn1
    have K8 : ∀ (gP1 gT1 gA1 gF1 pT1 pF1 : zG) (yr1 nn1 : Nat), IV (k + 1) yr1 gP1 gA1 → gF1 2 0 = nI nn1 → nn1 ≤ 10 → Z p l e room_1 s m args below meth c X A 15 Q ((100 + 9 * k) + 8) ((9000 + 74 * k) + 64) (QW h a b na nf ho ao bo no mo X gP1 gT1 gA1 gF1 gP1 pT1 gA1 pF1) [(0, .ref b0), (1, .ref (h 0)), (2, .ref (ho 0)), (3, .int (nI yr1)), (4, .int (nI nn1)), (5, .int 1), (6, .int (nI k)), (8, .int (nI v))] 683 [] := fun _ _ _ _ _ _ _ _ i1 i2 i3 => z_wide _ _ (by omega) (by omega) (K _ _ _ _ _ _ _ _ i1 i2 i3)
    have R524 : ∀ q : Nat, q < 12 → Z p l e room_1 s m args below meth c X A 15 Q (100 + 9 * k) (9000 + 74 * k) (QW h a b na nf ho ao bo no mo X gP gT gA gF gP pT gA pF) [(0, .ref b0), (1, .ref (h 0)), (2, .ref (ho 0)), (3, .int (nI yr)), (4, .int (nI nn)), (5, .int 1), (6, .int (nI k)), (7, .int (nI z)), (8, .int (nI v)), (9, .int (nI q))] 524 [] := by
      intro q hq
      refine z_il C dL_law_524 9 rfl ?_
      refine z_bp C dL_law_526 10 (by decide) ?_
      refine z_ic_geN C q 10 621 dL_law_528 (by decide) rfl rfl (by omega) (by omega) (fun c40 => ?_) (fun c40 => ?_)
      · skip
        refine z_il C dL_law_621 9 rfl ?_
        refine z_bp C dL_law_623 10 (by decide) ?_
        refine z_ic_neN C q 10 665 dL_law_625 (by decide) rfl rfl (by omega) (by omega) (fun c41 => ?_) (fun c41 => ?_)
        · skip
          exact b_ash C hxw hxs h a b na nf ho ao bo no mo (by omega) hI hF hnn hv (by omega) (by omega) K8
        · skip
          exact b_sea C hxw hxs h a b na nf ho ao bo no mo (by omega) hI hF hnn hv (by omega) (by omega) K8
      · skip
        exact b_climate C hxw hxs h a b na nf ho ao bo no mo (by omega) hI hF hnn hv (by omega) (by omega) K8
    have R167 : ∀ q : Nat, q < 12 → Z p l e room_1 s m args below meth c X A 15 Q (100 + 9 * k) (9000 + 74 * k) (QW h a b na nf ho ao bo no mo X gP gT gA gF gP pT gA pF) [(0, .ref b0), (1, .ref (h 0)), (2, .ref (ho 0)), (3, .int (nI yr)), (4, .int (nI nn)), (5, .int 1), (6, .int (nI k)), (7, .int (nI z)), (8, .int (nI v))] 167 [.int (nI q)] := by
      intro q hq
      refine z_is C [(9, .int (nI q)), (0, .ref b0), (1, .ref (h 0)), (2, .ref (ho 0)), (3, .int (nI yr)), (4, .int (nI nn)), (5, .int 1), (6, .int (nI k)), (7, .int (nI z)), (8, .int (nI v))] dL_law_167 (by decide) rfl ?_
      refine z_il C dL_law_169 0 rfl ?_
      refine z_ic C dL_law_171 4 (by decide) ?_
      refine z_ic_geN C q 4 237 dL_law_172 (by decide) rfl rfl (by omega) (by omega) (fun c42 => ?_) (fun c42 => ?_)
      · skip
        refine z_il C dL_law_237 0 rfl ?_
        refine z_bp C dL_law_239 8 (by decide) ?_
        refine z_ic_geN C q 8 524 dL_law_241 (by decide) rfl rfl (by omega) (by omega) (fun c43 => ?_) (fun c43 => ?_)
        · skip
          refine z_lv [1, 2, 3, 4, 5, 6, 7, 8, 9, 0] [(0, .ref b0), (1, .ref (h 0)), (2, .ref (ho 0)), (3, .int (nI yr)), (4, .int (nI nn)), (5, .int 1), (6, .int (nI k)), (7, .int (nI z)), (8, .int (nI v)), (9, .int (nI q))] rfl ?_
          exact R524 q hq
        · skip
          refine z_iln C dL_law_244 4 rfl ?_
          refine z_bp C dL_law_245 56 (by decide) ?_
          refine z_ic_geN C yr 56 524 dL_law_247 (by decide) rfl rfl (by omega) (by omega) (fun c44 => ?_) (fun c44 => ?_)
          · skip
            refine z_lv [1, 2, 3, 4, 5, 6, 7, 8, 9, 0] [(0, .ref b0), (1, .ref (h 0)), (2, .ref (ho 0)), (3, .int (nI yr)), (4, .int (nI nn)), (5, .int 1), (6, .int (nI k)), (7, .int (nI z)), (8, .int (nI v)), (9, .int (nI q))] rfl ?_
            exact R524 q hq
          · skip
            refine z_lv [1, 2, 3, 4, 5, 6, 7, 8, 9, 0] [(0, .ref b0), (1, .ref (h 0)), (2, .ref (ho 0)), (3, .int (nI yr)), (4, .int (nI nn)), (5, .int 1), (6, .int (nI k)), (7, .int (nI z)), (8, .int (nI v)), (9, .int (nI q))] rfl ?_
            exact b_pass C hxw hxs h a b na nf ho ao bo no mo (by omega) hI hF hnn hv (by omega) (by omega) (by omega) K
      · skip
        refine z_lv [1, 2, 3, 4, 5, 6, 7, 8, 9, 0] [(0, .ref b0), (1, .ref (h 0)), (2, .ref (ho 0)), (3, .int (nI yr)), (4, .int (nI nn)), (5, .int 1), (6, .int (nI k)), (7, .int (nI z)), (8, .int (nI v)), (9, .int (nI q))] rfl ?_
        exact b_ice C hxw hxs hl h a b na nf ho ao bo no mo (by omega) hI hF hnn hv (by omega) (by omega) K8
    refine z_il C dL_law_124 6 rfl ?_
    refine z_bp C dL_law_126 50 (by decide) ?_
    refine z_ic_geN C k 50 712 dL_law_128 (by decide) rfl rfl (by omega) (by omega) (fun c45 => by omega) (fun c45 => ?_)
    refine z_il C dL_law_131 5 rfl ?_
    refine z_if_eqN C 1 712 dL_law_133 (by decide) rfl (by omega) (fun c46 => by omega) (fun c46 => ?_)
    refine z_aln C dL_law_136 0 rfl ?_
    refine z_il C dL_law_137 6 rfl ?_
    refine z_cD (rest := []) C hX hbl hbA hD gL_law_L_drawn ⟨by decide, by decide⟩ ⟨rcl (by omega), rsl (by omega)⟩ (Nat.le_of_ble_eq_true rfl) dL_law_139 rfl ?_
    refine z_is C [(7, .int (nI z)), (0, .ref b0), (1, .ref (h 0)), (2, .ref (ho 0)), (3, .int (nI yr)), (4, .int (nI nn)), (5, .int 1), (6, .int (nI k))] dL_law_142 (by decide) rfl ?_
    refine z_il C dL_law_144 0 rfl ?_
    refine z_bp C dL_law_146 12 (by decide) ?_
    refine z_idiv C dL_law_148 (by decide) (nI (z / 12)) (pk_div (a := z) (d := 12) (by omega) (by omega) (by omega)) ?_
    refine z_nm (show nI v = (nI (z / 12)) from (by rw [hv9])) ?_
    refine z_is C [(8, .int (nI v)), (7, .int (nI z)), (0, .ref b0), (1, .ref (h 0)), (2, .ref (ho 0)), (3, .int (nI yr)), (4, .int (nI nn)), (5, .int 1), (6, .int (nI k))] dL_law_149 (by decide) rfl ?_
    refine z_il C dL_law_151 8 rfl ?_
    refine z_bp C dL_law_153 16 (by decide) ?_
    refine z_ic_geN C k 16 162 dL_law_155 (by decide) rfl rfl (by omega) (by omega) (fun c47 => ?_) (fun c47 => ?_)
    · skip
      refine z_il C dL_law_162 1 rfl ?_
      refine z_bp C dL_law_164 12 (by decide) ?_
      refine z_irem C dL_law_166 (by decide) (nI (z % 12)) (pk_rem (a := z) (d := 12) (by omega) (by omega) (by omega)) ?_
      refine z_lv [2, 3, 4, 5, 6, 7, 8, 1, 0] [(0, .ref b0), (1, .ref (h 0)), (2, .ref (ho 0)), (3, .int (nI yr)), (4, .int (nI nn)), (5, .int 1), (6, .int (nI k)), (7, .int (nI z)), (8, .int (nI v))] rfl ?_
      exact R167 (z % 12) (by omega)
    · skip
      refine z_ic C dL_law_158 0 (by decide) ?_
      refine z_go C 167 dL_law_159 (by decide) ?_
      refine z_lv [2, 3, 4, 5, 6, 7, 8, 1, 0] [(0, .ref b0), (1, .ref (h 0)), (2, .ref (ho 0)), (3, .int (nI yr)), (4, .int (nI nn)), (5, .int 1), (6, .int (nI k)), (7, .int (nI z)), (8, .int (nI v))] rfl ?_
      exact R167 0 (by omega)
set_option maxHeartbeats 4000000 in
set_option maxRecDepth 100000 in
theorem law_beds {p : Program} {l : Launch} {e : Env} {s : State} {m : MethodId} {args : Array Value} {below : List Frame} {meth : Method} {c : Code} {Q : State → Prop} {X : zX} {A : Nat → Prop} (C : ZC p s m args meth c X A 15 cL_law RL wsL_law (some .boolean)) (hxw : xW s) (hxs : xS A s s.heap) (hl : l.stackTraces = false) {b0 L : Nat} {sc : Nat → Int32} (hX : va_X b0 L sc s s.heap) (hbl : b0 < s.heap.size) (hbA : ¬ A b0) (hL : L ≤ 2048) (h a b na nf ho ao bo no mo : Nat → Nat) (hEnd : ∀ (cells slots : Nat) (ws : va_W) (lv : List (Nat × Value)), cells ≤ 600130 → slots ≤ 7301079 → Z p l e room_1 s m args below meth c X A 15 Q cells slots ws lv 714 [.int 1]) :
    ∀ (q k : Nat) (gP : zG), k + q = 12 → IV 0 0 gP gA0 → (∀ c, c < 12 → gP 8 c = 0 ∧ gP 2 c = 0) → (∀ c, k ≤ c → c < 12 → gP 0 c = 100) → Z p l e room_1 s m args below meth c X A 15 Q 100 9000 (QW h a b na nf ho ao bo no mo X gP gL0 gA0 gF0 gP gL0 gA0 gF0) [(0, .ref b0), (1, .ref (h 0)), (2, .ref (ho 0)), (3, .int 0), (4, .int 0), (5, .int 1), (6, .int (nI k))] 27 [] := by
  intro q
  induction q with
  | zero =>
    intro k gP hk hI h8 h0
    refine z_il C dL_law_27 6 rfl ?_
    refine z_bp C dL_law_29 12 (by decide) ?_
    refine z_ic_geN C k 12 120 dL_law_31 (by decide) rfl rfl (by omega) (by omega) (fun c48 => ?_) (fun c48 => by omega)
    refine z_bp C dL_law_120 12 (by decide) ?_
    refine z_is C [(6, .int 12), (0, .ref b0), (1, .ref (h 0)), (2, .ref (ho 0)), (3, .int 0), (4, .int 0), (5, .int 1)] dL_law_122 (by decide) rfl ?_
    refine z_wide (100 + 9 * 12) (9000 + 74 * 12) (by omega) (by omega) ?_
    refine z_lv [1, 2, 3, 4, 5, 6, 0] [(0, .ref b0), (1, .ref (h 0)), (2, .ref (ho 0)), (3, .int 0), (4, .int 0), (5, .int 1), (6, .int 12)] rfl ?_
    exact law_loop C hxw hxs hl hX hbl hbA hL h a b na nf ho ao bo no mo hEnd 38 12 gP gL0 gA0 gF0 gL0 gF0 0 0 (by omega) (by omega) (iv_up 12 hI) rfl (by omega)
  | succ q ih =>
    intro k gP hk hI h8 h0
    obtain ⟨z, hz, hD⟩ := m_drawn l X b0 L sc k hL (by omega)
    have R77 : ∀ bd : Nat, bd ≤ 500 → Z p l e room_1 s m args below meth c X A 15 Q 100 9000 (QW h a b na nf ho ao bo no mo X gP gL0 gA0 gF0 gP gL0 gA0 gF0) [(0, .ref b0), (1, .ref (h 0)), (2, .ref (ho 0)), (3, .int 0), (4, .int 0), (5, .int 1), (6, .int (nI k))] 77 [.int (nI bd)] := by
      intro bd hb
      have hk1 : k < 12 := by omega
      have n1 : ¬ nI bd < 0 := nI_pos (by omega)
      have n2 : ¬ 500 < nI bd := nI_nlt (a := 500) hb (by decide)
      have n3 : ¬ 0 < gP 8 k := by rw [(h8 k hk1).1]; decide
      have n4 : ¬ 0 < gP 2 k := by rw [(h8 k hk1).2]; decide
      have n5 : gP 0 k = 100 := h0 k (Nat.le_refl _) hk1
      refine z_is C [(7, .int (nI bd)), (0, .ref b0), (1, .ref (h 0)), (2, .ref (ho 0)), (3, .int 0), (4, .int 0), (5, .int 1), (6, .int (nI k))] dL_law_77 (by decide) rfl ?_
      refine z_aln C dL_law_79 2 rfl ?_
      refine z_ic C dL_law_80 0 (by decide) ?_
      refine z_il C dL_law_81 7 rfl ?_
      refine z_il C dL_law_83 0 rfl ?_
      refine q_o (As := [.ref (h 0), .int 0, .int (nI k), .int (nI bd)]) (rest := []) C hxw hxs (hD_land (gP1 := (uL gP k (nI bd))) (gT1 := gL0) (gA1 := gA0) (gF1 := gF0) (r := (gP 0 k)) l X h a b na nf gP gL0 gA0 gF0 (nI k) (nI bd) (mX5_land l X h a b na nf gP gL0 gA0 gF0 k (nI bd) hk1 n1 n2 n3 n4) ⟨by decide, by decide⟩) gL_law_L_does rfl ⟨by decide, by decide, (by decide : (parseMethodDescriptor yL_does.desc).map (fun d => d.parameters.length) = some 4)⟩ ⟨by decide, by decide⟩ ⟨rcl (by omega), rsl (by omega)⟩ (Nat.le_of_ble_eq_true rfl) dL_law_85 rfl ?_
      refine z_bp C dL_law_88 100 (by decide) ?_
      refine z_ic_ne C 111 dL_law_90 (by decide) (fun c49 => absurd n5 c49) (fun c49 => ?_)
      refine z_aln C dL_law_93 3 rfl ?_
      refine z_ic C dL_law_94 0 (by decide) ?_
      refine z_il C dL_law_95 7 rfl ?_
      refine z_il C dL_law_97 0 rfl ?_
      refine q_p (As := [.ref (ho 0), .int 0, .int (nI k), .int (nI bd)]) (rest := []) C hxw hxs (hD_land (gP1 := (uL gP k (nI bd))) (gT1 := gL0) (gA1 := gA0) (gF1 := gF0) (r := (gP 0 k)) l X ho ao bo no mo gP gL0 gA0 gF0 (nI k) (nI bd) (mX5_land l X ho ao bo no mo gP gL0 gA0 gF0 k (nI bd) hk1 n1 n2 n3 n4) ⟨by decide, by decide⟩) gL_law_L_does rfl ⟨by decide, by decide, (by decide : (parseMethodDescriptor yL_does.desc).map (fun d => d.parameters.length) = some 4)⟩ ⟨by decide, by decide⟩ ⟨rcl (by omega), rsl (by omega)⟩ (Nat.le_of_ble_eq_true rfl) dL_law_99 rfl ?_
      refine z_bp C dL_law_102 100 (by decide) ?_
      refine z_ic_ne C 111 dL_law_104 (by decide) (fun c50 => absurd n5 c50) (fun c50 => ?_)
      refine z_ic C dL_law_107 1 (by decide) ?_
      refine z_go C 112 dL_law_108 (by decide) ?_
      refine z_is C [(5, .int 1), (7, .int (nI bd)), (0, .ref b0), (1, .ref (h 0)), (2, .ref (ho 0)), (3, .int 0), (4, .int 0), (6, .int (nI k))] dL_law_112 (by decide) rfl ?_
      refine z_inc C 7 (nI (k + 1)) [(6, .int (nI (k + 1))), (5, .int 1), (7, .int (nI bd)), (0, .ref b0), (1, .ref (h 0)), (2, .ref (ho 0)), (3, .int 0), (4, .int 0)] dL_law_114 rfl (nI_add k 1) (by decide) rfl ?_
      refine z_go C 27 dL_law_117 (by decide) ?_
      refine z_lv [3, 4, 5, 6, 7, 1, 0] [(0, .ref b0), (1, .ref (h 0)), (2, .ref (ho 0)), (3, .int 0), (4, .int 0), (5, .int 1), (6, .int (nI (k + 1)))] rfl ?_
      refine ih (k + 1) (uL gP k (nI bd)) (by omega) (iv_land hk1 n1 n2 hI) (fun c hc => h8 c hc) (fun c h1 hc => ?_)
      show upd (gP 0) k (nI bd) c = 100
      rw [pk_un (by omega)]
      exact h0 c (by omega) hc
    refine z_il C dL_law_27 6 rfl ?_
    refine z_bp C dL_law_29 12 (by decide) ?_
    refine z_ic_geN C k 12 120 dL_law_31 (by decide) rfl rfl (by omega) (by omega) (fun c51 => by omega) (fun c51 => ?_)
    refine z_il C dL_law_34 5 rfl ?_
    refine z_if_eqN C 1 120 dL_law_36 (by decide) rfl (by omega) (fun c52 => by omega) (fun c52 => ?_)
    refine z_il C dL_law_39 6 rfl ?_
    refine z_bp C dL_law_41 8 (by decide) ?_
    refine z_ic_geN C k 8 67 dL_law_43 (by decide) rfl rfl (by omega) (by omega) (fun c53 => ?_) (fun c53 => ?_)
    · skip
      refine z_aln C dL_law_67 0 rfl ?_
      refine z_il C dL_law_68 6 rfl ?_
      refine z_cD (rest := []) C hX hbl hbA hD gL_law_L_drawn ⟨by decide, by decide⟩ ⟨rcl (by omega), rsl (by omega)⟩ (Nat.le_of_ble_eq_true rfl) dL_law_70 rfl ?_
      refine z_sp C dL_law_73 160 (by decide) ?_
      refine z_irem C dL_law_76 (by decide) (nI (z % 160)) (pk_rem (a := z) (d := 160) (by omega) (by omega) (by omega)) ?_
      exact R77 (z % 160) (by omega)
    · skip
      refine z_bp C dL_law_46 30 (by decide) ?_
      refine z_bp C dL_law_48 12 (by decide) ?_
      refine z_il C dL_law_50 6 rfl ?_
      refine z_isub C dL_law_52 (nI (12 - k)) (pk_sub (a := 12) (b := k) (by omega)) ?_
      refine z_imul C dL_law_53 (nI (30 * (12 - k))) (pk_mul 30 (12 - k)) ?_
      refine z_aln C dL_law_54 0 rfl ?_
      refine z_il C dL_law_55 6 rfl ?_
      refine z_cD (rest := [.int (nI (30 * (12 - k)))]) C hX hbl hbA hD gL_law_L_drawn ⟨by decide, by decide⟩ ⟨rcl (by omega), rsl (by omega)⟩ (Nat.le_of_ble_eq_true rfl) dL_law_57 rfl ?_
      refine z_bp C dL_law_60 60 (by decide) ?_
      refine z_irem C dL_law_62 (by decide) (nI (z % 60)) (pk_rem (a := z) (d := 60) (by omega) (by omega) (by omega)) ?_
      refine z_iadd C dL_law_63 (nI ((30 * (12 - k)) + (z % 60))) (nI_add (30 * (12 - k)) (z % 60)) ?_
      refine z_go C 77 dL_law_64 (by decide) ?_
      exact R77 ((30 * (12 - k)) + (z % 60)) (by omega)
set_option maxHeartbeats 4000000 in
set_option maxRecDepth 100000 in
theorem law_start {p : Program} {l : Launch} {e : Env} {s : State} {m : MethodId} {args : Array Value} {below : List Frame} {meth : Method} {c : Code} {Q : State → Prop} {X : zX} {A : Nat → Prop} (C : ZC p s m args meth c X A 15 cL_law RL wsL_law (some .boolean)) (hxw : xW s) (hxs : xS A s s.heap) (hl : l.stackTraces = false) (hnw : nW s) {b0 L : Nat} {sc : Nat → Int32} (hX : va_X b0 L sc s s.heap) (hbl : b0 < s.heap.size) (hbA : ¬ A b0) (hL : L ≤ 2048) (hEnd : ∀ (cells slots : Nat) (ws : va_W) (lv : List (Nat × Value)), cells ≤ 600130 → slots ≤ 7301079 → Z p l e room_1 s m args below meth c X A 15 Q cells slots ws lv 714 [.int 1]) : Z p l e room_1 s m args below meth c X A 15 Q 0 0 [] [(0, .ref b0)] 0 [] := by
  refine z_new (N := 4) (ci := 5) C [.null, .null, .null, .null] dL_law_0 inlX5 tyX5_ok (by decide +kernel) (by decide +kernel) (by decide +kernel) rfl (fun j hj => by rcases (show j = 0 ∨ j = 1 ∨ j = 2 ∨ j = 3 by omega) with rfl | rfl | rfl | rfl <;> rfl) (Nat.le_of_ble_eq_true rfl) (Nat.le_of_ble_eq_true rfl) (fun q0 => ?_)
  refine z_dup C dL_law_3 rfl ?_
  refine z_cIuN (S := (Nat → Nat) × (Nat → Nat) × (Nat → Nat) × (Nat → Nat)) (As := []) (rest := [.ref q0]) C (mX5_init l X q0) gL_law_X5_init rfl hnw (by decide +kernel) (by decide +kernel) (by decide +kernel) rfl ⟨by decide, by decide, (by decide : (parseMethodDescriptor yX5_init.desc).map (fun d => d.parameters.length) = some 0)⟩ ⟨by decide, by decide⟩ ⟨by decide, by decide⟩ [0] [] [0, 1, 2, 3, 4, 5, 6, 7, 8, 9, 10, 11, 12, 13, 14, 15, 16, 17, 18, 19, 20, 21, 22, 23, 24, 25, 26, 27, 28, 29, 30, 31, 32, 33, 34, 35, 36] rfl rfl (by decide) (by decide) (by decide) (by decide) (fun u => (IW (ad0 q0 (fun _ => 0)) u.1 u.2.1 u.2.2.1 u.2.2.2 X gL0 gL0 gA0 gF0)) (fun _ => rfl) (Nat.le_of_ble_eq_true rfl) dL_law_4 rfl (fun u => ?_)
  refine z_asn C 1 [(1, .ref q0), (0, .ref b0)] dL_law_7 rfl (by decide) rfl ?_
  refine z_new (N := 4) (ci := 5) C [.null, .null, .null, .null] dL_law_8 inlX5 tyX5_ok (by decide +kernel) (by decide +kernel) (by decide +kernel) rfl (fun j hj => by rcases (show j = 0 ∨ j = 1 ∨ j = 2 ∨ j = 3 by omega) with rfl | rfl | rfl | rfl <;> rfl) (Nat.le_of_ble_eq_true rfl) (Nat.le_of_ble_eq_true rfl) (fun q2 => ?_)
  refine z_dup C dL_law_11 rfl ?_
  refine z_cIuN (S := (Nat → Nat) × (Nat → Nat) × (Nat → Nat) × (Nat → Nat)) (As := []) (rest := [.ref q2]) C (mX5_init l X q2) gL_law_X5_init rfl hnw (by decide +kernel) (by decide +kernel) (by decide +kernel) rfl ⟨by decide, by decide, (by decide : (parseMethodDescriptor yX5_init.desc).map (fun d => d.parameters.length) = some 0)⟩ ⟨by decide, by decide⟩ ⟨by decide, by decide⟩ [37] [0, 1, 2, 3, 4, 5, 6, 7, 8, 9, 10, 11, 12, 13, 14, 15, 16, 17, 18, 19, 20, 21, 22, 23, 24, 25, 26, 27, 28, 29, 30, 31, 32, 33, 34, 35, 36] [0, 1, 2, 3, 4, 5, 6, 7, 8, 9, 10, 11, 12, 13, 14, 15, 16, 17, 18, 19, 20, 21, 22, 23, 24, 25, 26, 27, 28, 29, 30, 31, 32, 33, 34, 35, 36, 37, 38, 39, 40, 41, 42, 43, 44, 45, 46, 47, 48, 49, 50, 51, 52, 53, 54, 55, 56, 57, 58, 59, 60, 61, 62, 63, 64, 65, 66, 67, 68, 69, 70, 71, 72, 73] rfl rfl (by decide) (by decide) (by decide) (by decide) (fun w => (QW (ad0 q0 (fun _ => 0)) u.1 u.2.1 u.2.2.1 u.2.2.2 (ad0 q2 (fun _ => 0)) w.1 w.2.1 w.2.2.1 w.2.2.2 X gL0 gL0 gA0 gF0 gL0 gL0 gA0 gF0)) (fun _ => rfl) (Nat.le_of_ble_eq_true rfl) dL_law_12 rfl (fun w => ?_)
  refine z_asn C 2 [(2, .ref q2), (1, .ref q0), (0, .ref b0)] dL_law_15 rfl (by decide) rfl ?_
  refine z_ic C dL_law_16 0 (by decide) ?_
  refine z_isn C 3 [(3, .int 0), (2, .ref q2), (1, .ref q0), (0, .ref b0)] dL_law_17 rfl (by decide) rfl ?_
  refine z_ic C dL_law_18 0 (by decide) ?_
  refine z_is C [(4, .int 0), (3, .int 0), (2, .ref q2), (1, .ref q0), (0, .ref b0)] dL_law_19 (by decide) rfl ?_
  refine z_ic C dL_law_21 1 (by decide) ?_
  refine z_is C [(5, .int 1), (4, .int 0), (3, .int 0), (2, .ref q2), (1, .ref q0), (0, .ref b0)] dL_law_22 (by decide) rfl ?_
  refine z_ic C dL_law_24 0 (by decide) ?_
  refine z_is C [(6, .int 0), (5, .int 1), (4, .int 0), (3, .int 0), (2, .ref q2), (1, .ref q0), (0, .ref b0)] dL_law_25 (by decide) rfl ?_
  refine z_lv [6, 5, 4, 3, 2, 1, 0] [(0, .ref b0), (1, .ref q0), (2, .ref q2), (3, .int 0), (4, .int 0), (5, .int 1), (6, .int (nI 0))] rfl ?_
  refine z_wide 100 9000 (Nat.le_of_ble_eq_true rfl) (Nat.le_of_ble_eq_true rfl) ?_
  exact law_beds C hxw hxs hl hX hbl hbA hL (ad0 q0 (fun _ => 0)) u.1 u.2.1 u.2.2.1 u.2.2.2 (ad0 q2 (fun _ => 0)) w.1 w.2.1 w.2.2.1 w.2.2.2 hEnd 12 0 gL0 rfl iv_init (fun c hc => ⟨l0_z (by decide) (by decide) (by decide) c, l0_z (by decide) (by decide) (by decide) c⟩) (fun c _ hc => l0_h (Or.inl rfl) hc)
