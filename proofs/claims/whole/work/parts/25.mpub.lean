set_option maxHeartbeats 4000000 in
set_option maxRecDepth 100000 in
theorem mX6_pass (l : Launch) (X : zX) (a : Nat → Nat) (g : zG) (pa : Int32) (b yr : Nat) (hy0 : MP g b yr (12 * yr) yr) (hy1 : b + 4800 ≤ 1000000) (hy2 : ∃ fl, fl ≤ 10 ∧ g 10 5 = nI fl) : CI l yX6_pass wsX6_pass 5 117 0 0 X (MW a X g) [.ref (a 0), .int pa] ((fX6_pass g pa).1) (MW a X ((fX6_pass g pa).2)) := by
  obtain ⟨res, hF⟩ : ∃ z9r, z9r = fX6_pass g pa := ⟨_, rfl⟩
  rw [← hF]
  refine ci_intro (cc := cX6_pass) (ret := (some .int)) (maxL := 6) (by decide +kernel) rfl (Nat.le_of_ble_eq_true rfl) ?_
  intro p e s m args below meth c A Q C hQ
  have hX6 : ∀ w ∈ wsX60, w ∈ wsX6_pass := by decide +kernel
  show Z p l e { frames := 5, cells := 0, slots := 0, locals := 117 } s m args below meth c X A 6 Q 0 0 (MW a X g) [(0, .ref (a 0)), (1, .int pa)] 0 []
  refine z_iln C dX6_pass_0 1 rfl ?_
  refine z_ic C dX6_pass_1 1 (by decide) ?_
  refine z_bp C dX6_pass_2 20 (by decide) ?_
  refine z_cSi0 (As := [.int pa, .int 1, .int 20]) (rest := []) C (mX6_in l X pa 1 20 ) gX6_pass_X6_in rfl ⟨by decide, by decide, (by decide : (parseMethodDescriptor yX6_in.desc).map (fun d => d.parameters.length) = some 3)⟩ ⟨by decide, by decide⟩ ⟨by decide, by decide⟩ (Nat.le_of_ble_eq_true rfl) dX6_pass_4 rfl ?_
  obtain ⟨v1, hv1⟩ : ∃ z9v, z9v = ((fX6_in pa 1 20) : Int32) := ⟨_, rfl⟩
  have hF := hF.trans (jn_at hv1)
  refine z_nm hv1 ?_
  refine z_isn C 2 [(2, .int v1), (0, .ref (a 0)), (1, .int pa)] dX6_pass_7 rfl (by decide) rfl ?_
  refine z_aln C dX6_pass_8 1 rfl ?_
  refine z_iln C dX6_pass_9 0 rfl ?_
  obtain ⟨v2, hv2⟩ : ∃ z9v, z9v = ((if v1 = 0 then 0 else (if 60 < (((g 0) 89) + pa) then 0 else 1)) : Int32) := ⟨_, rfl⟩
  have hF := hF.trans (jn_at hv2)
  have Jv2 : Z p l e { frames := 5, cells := 0, slots := 0, locals := 117 } s m args below meth c X A 6 Q 0 0 (MW a X g) [(0, .ref (a 0)), (1, .int pa), (2, .int v1)] 33 [.int v2, .int v1, .ref (a 0)] := by
    refine z_cVi0 (As := [.int v1, .int v2]) (rest := []) C (mX6_asked_ l X a g v1 v2 ) gX6_pass_X6_asked_ rfl ⟨rfl, by decide, by decide, (by decide : (parseMethodDescriptor yX6_asked_.desc).map (fun d => d.parameters.length) = some 2)⟩ ⟨by decide, by decide⟩ ⟨by decide, by decide⟩ 0 6 rfl rfl (Nat.le_of_ble_eq_true rfl) dX6_pass_33 rfl ?_
    obtain ⟨u5, hu5⟩ : ∃ z9u, z9u = (fX6_asked_ g v1 v2) := ⟨_, rfl⟩
    rw [← hu5]
    have hF := hF.trans (jn_at hu5)
    refine z_if_ne C 41 dX6_pass_36 (by decide) (fun c6 => ?_) (fun c6 => ?_)
    · have hF := hF.trans (if_neg c6)
      have hp := fc_p hv1 (asked2 hu5 c6).1
      have hpl := zn_lt hp
      have hpy := year_le (mp_year hy0) (mp_yr hy0) hp hv2 (asked2 hu5 c6).2
      have hfc := fc_in hy2
      have hf10 := zn_lt hfc
      have hf1 : u5.2 10 5 = g 10 5 := asked2_r hu5
      have hmk0 := mp_asked2 hy0 hu5
      refine z_ic C dX6_pass_41 0 (by decide) ?_
      refine z_isn C 3 [(3, .int 0), (0, .ref (a 0)), (1, .int pa), (2, .int v1)] dX6_pass_42 rfl (by decide) rfl ?_
      refine z_lv [1, 2, 3, 0] [(0, .ref (a 0)), (1, .int pa), (2, .int v1), (3, .int 0)] rfl ?_
      have LPk8 : ∀ (nk8 k8 : Nat) (x7 : zG), k8 + nk8 = pa.toNatClampNeg → (MP x7 (b + 240 * k8) (yr + k8) (12 * (yr + k8)) (yr + k8) ∧ x7 10 5 = u5.2 10 5) → res = fX6_pass_L43 nk8 k8 x7 → Z p l e { frames := 5, cells := 0, slots := 0, locals := 117 } s m args below meth c X A 6 Q 0 0 (MW a X x7) [(0, .ref (a 0)), (1, .int pa), (2, .int v1), (3, .int (nI k8))] 43 [] := by
        intro nk8
        induction nk8 with
        | zero =>
          intro k8 x7 hkk8 hik8 hF
          refine z_iln C dX6_pass_43 3 rfl ?_
          refine z_iln C dX6_pass_44 1 rfl ?_
          refine z_nm (show nI pa.toNatClampNeg = pa from (zn_in hp)) ?_
          refine z_ic_geN C k8 pa.toNatClampNeg 138 dX6_pass_45 (by decide) rfl rfl (by omega) (by omega) (fun c9 => ?_) (fun c9 => ?_)
          rotate_left
          · exact absurd c9 (by omega)
          refine z_aln C dX6_pass_138 0 rfl ?_
          refine z_get (v := .ref (a 1)) C 0 5 dX6_pass_139 rfl rfl rfl hX6 (by decide) (by decide +kernel) rfl ?_
          refine z_bp C dX6_pass_142 89 (by decide) ?_
          refine z_iald (f := (x7 0)) C 1 89 dX6_pass_144 rfl (by decide) rfl (by omega) ?_
          exact z_iret C hQ dX6_pass_145 (by rw [hF]; first | done | rfl) (by rw [hF]; first | done | rfl) (by decide) (by decide)
        | succ nk8 ihk8 =>
          intro k8 x7 hkk8 hik8 hF
          refine z_iln C dX6_pass_43 3 rfl ?_
          refine z_iln C dX6_pass_44 1 rfl ?_
          refine z_nm (show nI pa.toNatClampNeg = pa from (zn_in hp)) ?_
          refine z_ic_geN C k8 pa.toNatClampNeg 138 dX6_pass_45 (by decide) rfl rfl (by omega) (by omega) (fun c10 => ?_) (fun c10 => ?_)
          · exact absurd c10 (by omega)
          refine z_aln C dX6_pass_48 0 rfl ?_
          refine z_ic C dX6_pass_49 1 (by decide) ?_
          refine z_cVv0 (As := [.int 1]) (rest := []) C (mX6_passes l X a x7 1 _ _ _ _ hik8.1 (by omega) (by omega) (by omega) (by omega)) gX6_pass_X6_passes rfl ⟨rfl, by decide, by decide, (by decide : (parseMethodDescriptor yX6_passes.desc).map (fun d => d.parameters.length) = some 1)⟩ ⟨by decide, by decide⟩ ⟨by decide, by decide⟩ 0 6 rfl rfl (Nat.le_of_ble_eq_true rfl) dX6_pass_50 rfl ?_
          obtain ⟨u11, hu11⟩ : ∃ z9u, z9u = (fX6_passes x7 1) := ⟨_, rfl⟩
          rw [← hu11]
          have hF := hF.trans (jn_at hu11)
          have hf : u11 10 5 = g 10 5 := by rw [hu11, passes_10, hik8.2]; exact hf1
          have hfn : (u11 10 5).toNatClampNeg < 11 := by rw [hf]; exact hf10
          refine z_ic C dX6_pass_53 0 (by decide) ?_
          refine z_is C [(4, .int 0), (0, .ref (a 0)), (1, .int pa), (2, .int v1), (3, .int (nI k8))] dX6_pass_54 (by decide) rfl ?_
          obtain ⟨v12, hv12⟩ : ∃ z9v, z9v = ((fX6_pass_L56 (u11 10 5).toNatClampNeg 0 u11) : zG) := ⟨_, rfl⟩
          have hF := hF.trans (jn_at hv12)
          have Jv12 : Z p l e { frames := 5, cells := 0, slots := 0, locals := 117 } s m args below meth c X A 6 Q 0 0 (MW a X v12) [(0, .ref (a 0)), (1, .int pa), (2, .int v1), (3, .int (nI k8))] 132 [] := by
            refine z_inc C 3 (nI (k8 + 1)) [(3, .int (nI (k8 + 1))), (0, .ref (a 0)), (1, .int pa), (2, .int v1)] dX6_pass_132 rfl (nI_add k8 1) (by decide) rfl ?_
            refine z_go C 43 dX6_pass_135 (by decide) ?_
            refine z_lv [1, 2, 3, 0] [(0, .ref (a 0)), (1, .int pa), (2, .int v1), (3, .int (nI (k8 + 1)))] rfl ?_
            exact ihk8 (k8 + 1) v12 (by omega) (pass_keep hik8 (by omega) (by omega) hu11 hv12) hF
          refine z_lv [1, 2, 3, 4, 0] [(0, .ref (a 0)), (1, .int pa), (2, .int v1), (3, .int (nI k8)), (4, .int 0)] rfl ?_
          have LPk14 : ∀ (nk14 k14 : Nat) (x13 : zG), k14 + nk14 = (u11 10 5).toNatClampNeg → (x13 10 5 = u11 10 5) → v12 = fX6_pass_L56 nk14 k14 x13 → Z p l e { frames := 5, cells := 0, slots := 0, locals := 117 } s m args below meth c X A 6 Q 0 0 (MW a X x13) [(0, .ref (a 0)), (1, .int pa), (2, .int v1), (3, .int (nI k8)), (4, .int (nI k14))] 56 [] := by
            intro nk14
            induction nk14 with
            | zero =>
              intro k14 x13 hkk14 hik14 hv12
              refine z_il C dX6_pass_56 4 rfl ?_
              have hfx : (x13 10 5).toNatClampNeg < 11 := by rw [hik14]; exact hfn
              refine z_aln C dX6_pass_58 0 rfl ?_
              refine z_get (v := .int (x13 10 5)) C 0 11 dX6_pass_59 rfl rfl rfl hX6 (by decide) (by decide +kernel) rfl ?_
              refine z_nm (show nI ((x13 10 5).toNatClampNeg) = (x13 10 5) from (by rw [hik14, hf]; exact zn_in hfc)) ?_
              refine z_ic_geN C k14 ((x13 10 5).toNatClampNeg) 132 dX6_pass_62 (by decide) rfl rfl (by omega) (by omega) (fun c15 => ?_) (fun c15 => ?_)
              rotate_left
              · rw [hik14] at c15; exact absurd c15 (by omega)
              refine z_lv [0, 1, 2, 3] [(0, .ref (a 0)), (1, .int pa), (2, .int v1), (3, .int (nI k8))] rfl ?_
              rw [hv12] at Jv12
              exact Jv12
            | succ nk14 ihk14 =>
              intro k14 x13 hkk14 hik14 hv12
              refine z_il C dX6_pass_56 4 rfl ?_
              have hfx : (x13 10 5).toNatClampNeg < 11 := by rw [hik14]; exact hfn
              refine z_aln C dX6_pass_58 0 rfl ?_
              refine z_get (v := .int (x13 10 5)) C 0 11 dX6_pass_59 rfl rfl rfl hX6 (by decide) (by decide +kernel) rfl ?_
              refine z_nm (show nI ((x13 10 5).toNatClampNeg) = (x13 10 5) from (by rw [hik14, hf]; exact zn_in hfc)) ?_
              refine z_ic_geN C k14 ((x13 10 5).toNatClampNeg) 132 dX6_pass_62 (by decide) rfl rfl (by omega) (by omega) (fun c16 => ?_) (fun c16 => ?_)
              · rw [hik14] at c16; exact absurd c16 (by omega)
              rw [hik14, hf] at c16
              refine z_aln C dX6_pass_65 0 rfl ?_
              refine z_cVi0 (As := []) (rest := []) C (mX6_allIce l X a x13 ) gX6_pass_X6_allIce rfl ⟨rfl, by decide, by decide, (by decide : (parseMethodDescriptor yX6_allIce.desc).map (fun d => d.parameters.length) = some 0)⟩ ⟨by decide, by decide⟩ ⟨by decide, by decide⟩ 0 6 rfl rfl (Nat.le_of_ble_eq_true rfl) dX6_pass_66 rfl ?_
              refine z_aln C dX6_pass_69 0 rfl ?_
              refine z_get (v := .ref (a 8)) C 0 13 dX6_pass_70 rfl rfl rfl hX6 (by decide) (by decide +kernel) rfl ?_
              refine z_il C dX6_pass_73 4 rfl ?_
              refine z_iald (f := (x13 7)) C 8 k14 dX6_pass_75 rfl (by decide) rfl (by omega) ?_
              refine z_isub C dX6_pass_76 ((fX6_allIce x13) - ((x13 7) k14)) rfl ?_
              obtain ⟨v17, hv17⟩ : ∃ z9v, z9v = (((fX6_allIce x13) - ((x13 7) k14)) : Int32) := ⟨_, rfl⟩
              have hv12 := hv12.trans (jn_at hv17)
              refine z_nm hv17 ?_
              refine z_is C [(5, .int v17), (0, .ref (a 0)), (1, .int pa), (2, .int v1), (3, .int (nI k8)), (4, .int (nI k14))] dX6_pass_77 (by decide) rfl ?_
              refine z_aln C dX6_pass_79 1 rfl ?_
              refine z_get (v := .ref (a 9)) C 0 14 dX6_pass_80 rfl rfl rfl hX6 (by decide) (by decide +kernel) rfl ?_
              refine z_il C dX6_pass_83 5 rfl ?_
              obtain ⟨v18, hv18⟩ : ∃ z9v, z9v = ((if ((x13 6) k14) = ((x13 0) 89) then (if 0 ≤ v17 then v17 else (-v17)) else ((x13 8) k14)) : Int32) := ⟨_, rfl⟩
              have hv12 := hv12.trans (jn_at hv18)
              have Jv18 : Z p l e { frames := 5, cells := 0, slots := 0, locals := 117 } s m args below meth c X A 6 Q 0 0 (MW a X x13) [(0, .ref (a 0)), (1, .int pa), (2, .int v1), (3, .int (nI k8)), (4, .int (nI k14)), (5, .int v17)] 125 [.int v18, .int (nI k14), .ref (a 9)] := by
                refine z_iast (f := (x13 8)) C 9 k14 (MW a X (va_up x13 8 (upd (x13 8) k14 v18))) dX6_pass_125 rfl (by decide) rfl (by omega) rfl ?_
                refine z_inc C 4 (nI (k14 + 1)) [(4, .int (nI (k14 + 1))), (0, .ref (a 0)), (1, .int pa), (2, .int v1), (3, .int (nI k8)), (5, .int v17)] dX6_pass_126 rfl (nI_add k14 1) (by decide) rfl ?_
                refine z_go C 56 dX6_pass_129 (by decide) ?_
                refine z_lv [1, 2, 3, 4, 0] [(0, .ref (a 0)), (1, .int pa), (2, .int v1), (3, .int (nI k8)), (4, .int (nI (k14 + 1)))] rfl ?_
                exact ihk14 (k14 + 1) (va_up x13 8 (upd (x13 8) k14 v18)) (by omega) hik14 hv12
              refine z_aln C dX6_pass_85 1 rfl ?_
              refine z_get (v := .ref (a 7)) C 0 12 dX6_pass_86 rfl rfl rfl hX6 (by decide) (by decide +kernel) rfl ?_
              refine z_il C dX6_pass_89 5 rfl ?_
              refine z_iald (f := (x13 6)) C 7 k14 dX6_pass_91 rfl (by decide) rfl (by omega) ?_
              refine z_aln C dX6_pass_92 1 rfl ?_
              refine z_get (v := .ref (a 1)) C 0 5 dX6_pass_93 rfl rfl rfl hX6 (by decide) (by decide +kernel) rfl ?_
              refine z_bp C dX6_pass_96 89 (by decide) ?_
              refine z_iald (f := (x13 0)) C 1 89 dX6_pass_98 rfl (by decide) rfl (by omega) ?_
              refine z_ic_ne C 118 dX6_pass_99 (by decide) (fun c19 => ?_) (fun c19 => ?_)
              · have hv18 := hv18.trans (if_neg c19)
                refine z_aln C dX6_pass_118 1 rfl ?_
                refine z_get (v := .ref (a 9)) C 0 14 dX6_pass_119 rfl rfl rfl hX6 (by decide) (by decide +kernel) rfl ?_
                refine z_il C dX6_pass_122 5 rfl ?_
                refine z_iald (f := (x13 8)) C 9 k14 dX6_pass_124 rfl (by decide) rfl (by omega) ?_
                refine z_lv [1, 2, 3, 4, 5, 0] [(0, .ref (a 0)), (1, .int pa), (2, .int v1), (3, .int (nI k8)), (4, .int (nI k14)), (5, .int v17)] rfl ?_
                rw [hv18] at Jv18
                exact Jv18
              · have hv18 := hv18.trans (if_pos c19)
                refine z_il C dX6_pass_102 0 rfl ?_
                refine z_if_ge C 113 dX6_pass_104 (by decide) (fun c20 => ?_) (fun c20 => ?_)
                · have hv18 := hv18.trans (if_pos c20)
                  refine z_il C dX6_pass_113 0 rfl ?_
                  refine z_go C 125 dX6_pass_115 (by decide) ?_
                  refine z_lv [1, 2, 3, 4, 5, 0] [(0, .ref (a 0)), (1, .int pa), (2, .int v1), (3, .int (nI k8)), (4, .int (nI k14)), (5, .int v17)] rfl ?_
                  rw [hv18] at Jv18
                  exact Jv18
                · have hv18 := hv18.trans (if_neg c20)
                  refine z_il C dX6_pass_107 0 rfl ?_
                  refine z_ineg C dX6_pass_109 (-v17) rfl ?_
                  refine z_go C 125 dX6_pass_110 (by decide) ?_
                  refine z_lv [1, 2, 3, 4, 5, 0] [(0, .ref (a 0)), (1, .int pa), (2, .int v1), (3, .int (nI k8)), (4, .int (nI k14)), (5, .int v17)] rfl ?_
                  rw [hv18] at Jv18
                  exact Jv18
          exact LPk14 (u11 10 5).toNatClampNeg 0 u11 (by omega) rfl hv12
      exact LPk8 pa.toNatClampNeg 0 u5.2 (by omega) ⟨hmk0, rfl⟩ hF
    · have hF := hF.trans (if_pos c6)
      refine z_ic C dX6_pass_39 0 (by decide) ?_
      exact z_iret C hQ dX6_pass_40 (by rw [hF]; first | done | rfl) (by rw [hF]; first | done | rfl) (by decide) (by decide)
  refine z_iln C dX6_pass_10 0 rfl ?_
  refine z_if_eq C 32 dX6_pass_11 (by decide) (fun c3 => ?_) (fun c3 => ?_)
  · have hv2 := hv2.trans (if_pos c3)
    refine z_ic C dX6_pass_32 0 (by decide) ?_
    refine z_lv [1, 2, 0] [(0, .ref (a 0)), (1, .int pa), (2, .int v1)] rfl ?_
    rw [hv2] at Jv2
    exact Jv2
  · have hv2 := hv2.trans (if_neg c3)
    refine z_aln C dX6_pass_14 1 rfl ?_
    refine z_get (v := .ref (a 1)) C 0 5 dX6_pass_15 rfl rfl rfl hX6 (by decide) (by decide +kernel) rfl ?_
    refine z_bp C dX6_pass_18 89 (by decide) ?_
    refine z_iald (f := (g 0)) C 1 89 dX6_pass_20 rfl (by decide) rfl (by omega) ?_
    refine z_iln C dX6_pass_21 2 rfl ?_
    refine z_iadd C dX6_pass_22 (((g 0) 89) + pa) rfl ?_
    refine z_bp C dX6_pass_23 60 (by decide) ?_
    refine z_ic_gt C 32 dX6_pass_25 (by decide) (fun c4 => ?_) (fun c4 => ?_)
    · have hv2 := hv2.trans (if_pos c4)
      refine z_ic C dX6_pass_32 0 (by decide) ?_
      refine z_lv [1, 2, 0] [(0, .ref (a 0)), (1, .int pa), (2, .int v1)] rfl ?_
      rw [hv2] at Jv2
      exact Jv2
    · have hv2 := hv2.trans (if_neg c4)
      refine z_ic C dX6_pass_28 1 (by decide) ?_
      refine z_go C 33 dX6_pass_29 (by decide) ?_
      refine z_lv [1, 2, 0] [(0, .ref (a 0)), (1, .int pa), (2, .int v1)] rfl ?_
      rw [hv2] at Jv2
      exact Jv2
set_option maxHeartbeats 4000000 in
set_option maxRecDepth 100000 in
theorem mX6_land (l : Launch) (X : zX) (a : Nat → Nat) (g : zG) (ka : Int32) (ba : Int32) : CI l yX6_land wsX6_land 2 42 0 0 X (MW a X g) [.ref (a 0), .int ka, .int ba] ((fX6_land g ka ba).1) (MW a X ((fX6_land g ka ba).2)) := by
  obtain ⟨res, hF⟩ : ∃ z9r, z9r = fX6_land g ka ba := ⟨_, rfl⟩
  rw [← hF]
  refine ci_intro (cc := cX6_land) (ret := (some .int)) (maxL := 5) (by decide +kernel) rfl (Nat.le_of_ble_eq_true rfl) ?_
  intro p e s m args below meth c A Q C hQ
  have hX6 : ∀ w ∈ wsX60, w ∈ wsX6_land := by decide +kernel
  show Z p l e { frames := 2, cells := 0, slots := 0, locals := 42 } s m args below meth c X A 5 Q 0 0 (MW a X g) [(0, .ref (a 0)), (1, .int ka), (2, .int ba)] 0 []
  refine z_iln C dX6_land_0 1 rfl ?_
  refine z_cSi0 (As := [.int ka]) (rest := []) C (mX6_isCell l X ka ) gX6_land_X6_isCell rfl ⟨by decide, by decide, (by decide : (parseMethodDescriptor yX6_isCell.desc).map (fun d => d.parameters.length) = some 1)⟩ ⟨by decide, by decide⟩ ⟨by decide, by decide⟩ (Nat.le_of_ble_eq_true rfl) dX6_land_1 rfl ?_
  refine z_isn C 3 [(3, .int (fX6_isCell ka)), (0, .ref (a 0)), (1, .int ka), (2, .int ba)] dX6_land_4 rfl (by decide) rfl ?_
  refine z_aln C dX6_land_5 1 rfl ?_
  refine z_iln C dX6_land_6 0 rfl ?_
  refine z_iln C dX6_land_7 3 rfl ?_
  refine z_ic C dX6_land_8 0 (by decide) ?_
  refine z_sp C dX6_land_9 500 (by decide) ?_
  refine z_cSi0 (As := [.int ba, .int 0, .int 500]) (rest := [.int (fX6_isCell ka), .ref (a 0)]) C (mX6_in l X ba 0 500 ) gX6_land_X6_in rfl ⟨by decide, by decide, (by decide : (parseMethodDescriptor yX6_in.desc).map (fun d => d.parameters.length) = some 3)⟩ ⟨by decide, by decide⟩ ⟨by decide, by decide⟩ (Nat.le_of_ble_eq_true rfl) dX6_land_12 rfl ?_
  obtain ⟨v1, hv1⟩ : ∃ z9v, z9v = ((if (fX6_isCell ka) = 0 then 0 else (if (fX6_iceOf g ka.toNatClampNeg) = 0 then (if ((g 0) (24 + ka.toNatClampNeg)) = 0 then 1 else 0) else 0)) : Int32) := ⟨_, rfl⟩
  have hF := hF.trans (jn_at hv1)
  have Jv1 : Z p l e { frames := 2, cells := 0, slots := 0, locals := 42 } s m args below meth c X A 5 Q 0 0 (MW a X g) [(0, .ref (a 0)), (1, .int ka), (2, .int ba), (3, .int (fX6_isCell ka))] 44 [.int v1, .int (fX6_in ba 0 500), .int (fX6_isCell ka), .ref (a 0)] := by
    refine z_cVi0 (As := [.int (fX6_isCell ka), .int (fX6_in ba 0 500), .int v1]) (rest := []) C (mX6_asked__ l X a g (fX6_isCell ka) (fX6_in ba 0 500) v1 ) gX6_land_X6_asked__ rfl ⟨rfl, by decide, by decide, (by decide : (parseMethodDescriptor yX6_asked__.desc).map (fun d => d.parameters.length) = some 3)⟩ ⟨by decide, by decide⟩ ⟨by decide, by decide⟩ 0 6 rfl rfl (Nat.le_of_ble_eq_true rfl) dX6_land_44 rfl ?_
    obtain ⟨u5, hu5⟩ : ∃ z9u, z9u = (fX6_asked__ g (fX6_isCell ka) (fX6_in ba 0 500) v1) := ⟨_, rfl⟩
    rw [← hu5]
    have hF := hF.trans (jn_at hu5)
    refine z_if_ne C 52 dX6_land_47 (by decide) (fun c6 => ?_) (fun c6 => ?_)
    · have hF := hF.trans (if_neg c6)
      have hk := isCell_in ((asked3 hu5 c6).1)
      have hk12 := zn_lt hk
      refine z_aln C dX6_land_52 0 rfl ?_
      refine z_get (v := .ref (a 1)) C 0 5 dX6_land_53 rfl rfl rfl hX6 (by decide) (by decide +kernel) rfl ?_
      refine z_ic C dX6_land_56 0 (by decide) ?_
      refine z_iln C dX6_land_57 1 rfl ?_
      refine z_nm (show nI ka.toNatClampNeg = ka from (zn_in hk)) ?_
      refine z_iadd C dX6_land_58 (nI (0 + ka.toNatClampNeg)) (nI_add 0 ka.toNatClampNeg) ?_
      refine z_iald (f := (u5.2 0)) C 1 (0 + ka.toNatClampNeg) dX6_land_59 rfl (by decide) rfl (by omega) ?_
      refine z_is C [(4, .int ((u5.2 0) (0 + ka.toNatClampNeg))), (0, .ref (a 0)), (1, .int ka), (2, .int ba), (3, .int (fX6_isCell ka))] dX6_land_60 (by decide) rfl ?_
      refine z_aln C dX6_land_62 1 rfl ?_
      refine z_get (v := .ref (a 1)) C 0 5 dX6_land_63 rfl rfl rfl hX6 (by decide) (by decide +kernel) rfl ?_
      refine z_ic C dX6_land_66 0 (by decide) ?_
      refine z_iln C dX6_land_67 2 rfl ?_
      refine z_nm (show nI ka.toNatClampNeg = ka from (zn_in hk)) ?_
      refine z_iadd C dX6_land_68 (nI (0 + ka.toNatClampNeg)) (nI_add 0 ka.toNatClampNeg) ?_
      refine z_iln C dX6_land_69 3 rfl ?_
      refine z_iast (f := (u5.2 0)) C 1 (0 + ka.toNatClampNeg) (MW a X (va_up u5.2 0 (upd (u5.2 0) (0 + ka.toNatClampNeg) ba))) dX6_land_70 rfl (by decide) rfl (by omega) rfl ?_
      refine z_aln C dX6_land_71 1 rfl ?_
      refine z_get (v := .ref (a 1)) C 0 5 dX6_land_72 rfl rfl rfl hX6 (by decide) (by decide +kernel) rfl ?_
      refine z_bp C dX6_land_75 12 (by decide) ?_
      refine z_iln C dX6_land_77 2 rfl ?_
      refine z_nm (show nI ka.toNatClampNeg = ka from (zn_in hk)) ?_
      refine z_iadd C dX6_land_78 (nI (12 + ka.toNatClampNeg)) (nI_add 12 ka.toNatClampNeg) ?_
      refine z_iln C dX6_land_79 3 rfl ?_
      refine z_iast (f := (upd (u5.2 0) (0 + ka.toNatClampNeg) ba)) C 1 (12 + ka.toNatClampNeg) (MW a X (va_up (va_up u5.2 0 (upd (u5.2 0) (0 + ka.toNatClampNeg) ba)) 0 (upd (upd (u5.2 0) (0 + ka.toNatClampNeg) ba) (12 + ka.toNatClampNeg) ba))) dX6_land_80 rfl (by decide) rfl (by omega) rfl ?_
      refine z_il C dX6_land_81 0 rfl ?_
      exact z_iret C hQ dX6_land_83 (by rw [hF]; first | done | rfl) (by rw [hF]; first | done | rfl) (by decide) (by decide)
    · have hF := hF.trans (if_pos c6)
      refine z_ic C dX6_land_50 0 (by decide) ?_
      exact z_iret C hQ dX6_land_51 (by rw [hF]; first | done | rfl) (by rw [hF]; first | done | rfl) (by decide) (by decide)
  refine z_iln C dX6_land_15 0 rfl ?_
  refine z_if_eq C 43 dX6_land_16 (by decide) (fun c2 => ?_) (fun c2 => ?_)
  · have hv1 := hv1.trans (if_pos c2)
    refine z_ic C dX6_land_43 0 (by decide) ?_
    refine z_lv [1, 2, 3, 0] [(0, .ref (a 0)), (1, .int ka), (2, .int ba), (3, .int (fX6_isCell ka))] rfl ?_
    rw [hv1] at Jv1
    exact Jv1
  · have hv1 := hv1.trans (if_neg c2)
    have hk := isCell_in (c2)
    have hk12 := zn_lt hk
    refine z_aln C dX6_land_19 1 rfl ?_
    refine z_iln C dX6_land_20 2 rfl ?_
    refine z_nm (show nI ka.toNatClampNeg = ka from (zn_in hk)) ?_
    refine z_cVi0 (As := [.int (nI ka.toNatClampNeg)]) (rest := [.int (fX6_in ba 0 500), .int (fX6_isCell ka), .ref (a 0)]) C (mX6_iceOf l X a g ka.toNatClampNeg hk12) gX6_land_X6_iceOf rfl ⟨rfl, by decide, by decide, (by decide : (parseMethodDescriptor yX6_iceOf.desc).map (fun d => d.parameters.length) = some 1)⟩ ⟨by decide, by decide⟩ ⟨by decide, by decide⟩ 0 6 rfl rfl (Nat.le_of_ble_eq_true rfl) dX6_land_21 rfl ?_
    refine z_if_ne C 43 dX6_land_24 (by decide) (fun c3 => ?_) (fun c3 => ?_)
    · have hv1 := hv1.trans (if_neg c3)
      refine z_ic C dX6_land_43 0 (by decide) ?_
      refine z_lv [1, 2, 3, 0] [(0, .ref (a 0)), (1, .int ka), (2, .int ba), (3, .int (fX6_isCell ka))] rfl ?_
      rw [hv1] at Jv1
      exact Jv1
    · have hv1 := hv1.trans (if_pos c3)
      refine z_aln C dX6_land_27 1 rfl ?_
      refine z_get (v := .ref (a 1)) C 0 5 dX6_land_28 rfl rfl rfl hX6 (by decide) (by decide +kernel) rfl ?_
      refine z_bp C dX6_land_31 24 (by decide) ?_
      refine z_iln C dX6_land_33 2 rfl ?_
      refine z_nm (show nI ka.toNatClampNeg = ka from (zn_in hk)) ?_
      refine z_iadd C dX6_land_34 (nI (24 + ka.toNatClampNeg)) (nI_add 24 ka.toNatClampNeg) ?_
      refine z_iald (f := (g 0)) C 1 (24 + ka.toNatClampNeg) dX6_land_35 rfl (by decide) rfl (by omega) ?_
      refine z_if_ne C 43 dX6_land_36 (by decide) (fun c4 => ?_) (fun c4 => ?_)
      · have hv1 := hv1.trans (if_neg c4)
        refine z_ic C dX6_land_43 0 (by decide) ?_
        refine z_lv [1, 2, 3, 0] [(0, .ref (a 0)), (1, .int ka), (2, .int ba), (3, .int (fX6_isCell ka))] rfl ?_
        rw [hv1] at Jv1
        exact Jv1
      · have hv1 := hv1.trans (if_pos c4)
        refine z_ic C dX6_land_39 1 (by decide) ?_
        refine z_go C 44 dX6_land_40 (by decide) ?_
        refine z_lv [1, 2, 3, 0] [(0, .ref (a 0)), (1, .int ka), (2, .int ba), (3, .int (fX6_isCell ka))] rfl ?_
        rw [hv1] at Jv1
        exact Jv1
set_option maxHeartbeats 4000000 in
set_option maxRecDepth 100000 in
theorem mX6_sea (l : Launch) (X : zX) (a : Nat → Nat) (g : zG) (va : Int32) : CI l yX6_sea wsX6_sea 1 22 0 0 X (MW a X g) [.ref (a 0), .int va] ((fX6_sea g va).1) (MW a X ((fX6_sea g va).2)) := by
  obtain ⟨res, hF⟩ : ∃ z9r, z9r = fX6_sea g va := ⟨_, rfl⟩
  rw [← hF]
  refine ci_intro (cc := cX6_sea) (ret := (some .int)) (maxL := 3) (by decide +kernel) rfl (Nat.le_of_ble_eq_true rfl) ?_
  intro p e s m args below meth c A Q C hQ
  have hX6 : ∀ w ∈ wsX60, w ∈ wsX6_sea := by decide +kernel
  show Z p l e { frames := 1, cells := 0, slots := 0, locals := 22 } s m args below meth c X A 3 Q 0 0 (MW a X g) [(0, .ref (a 0)), (1, .int va)] 0 []
  refine z_aln C dX6_sea_0 0 rfl ?_
  refine z_iln C dX6_sea_1 1 rfl ?_
  refine z_ic C dX6_sea_2 0 (by decide) ?_
  refine z_sp C dX6_sea_3 500 (by decide) ?_
  refine z_cSi0 (As := [.int va, .int 0, .int 500]) (rest := [.ref (a 0)]) C (mX6_in l X va 0 500 ) gX6_sea_X6_in rfl ⟨by decide, by decide, (by decide : (parseMethodDescriptor yX6_in.desc).map (fun d => d.parameters.length) = some 3)⟩ ⟨by decide, by decide⟩ ⟨by decide, by decide⟩ (Nat.le_of_ble_eq_true rfl) dX6_sea_6 rfl ?_
  refine z_cVi0 (As := [.int (fX6_in va 0 500)]) (rest := []) C (mX6_asked l X a g (fX6_in va 0 500) (in_01 _ _ _)) gX6_sea_X6_asked rfl ⟨rfl, by decide, by decide, (by decide : (parseMethodDescriptor yX6_asked.desc).map (fun d => d.parameters.length) = some 1)⟩ ⟨by decide, by decide⟩ ⟨by decide, by decide⟩ 0 6 rfl rfl (Nat.le_of_ble_eq_true rfl) dX6_sea_9 rfl ?_
  obtain ⟨u1, hu1⟩ : ∃ z9u, z9u = (fX6_asked g (fX6_in va 0 500)) := ⟨_, rfl⟩
  rw [← hu1]
  have hF := hF.trans (jn_at hu1)
  refine z_if_ne C 17 dX6_sea_12 (by decide) (fun c2 => ?_) (fun c2 => ?_)
  · have hF := hF.trans (if_neg c2)
    refine z_aln C dX6_sea_17 0 rfl ?_
    refine z_get (v := .int (u1.2 10 1)) C 0 1 dX6_sea_18 rfl rfl rfl hX6 (by decide) (by decide +kernel) rfl ?_
    refine z_isn C 2 [(2, .int (u1.2 10 1)), (0, .ref (a 0)), (1, .int va)] dX6_sea_21 rfl (by decide) rfl ?_
    refine z_aln C dX6_sea_22 1 rfl ?_
    refine z_iln C dX6_sea_23 2 rfl ?_
    refine z_put C 0 1 (MW a X (va_up u1.2 10 (upd (u1.2 10) 1 va))) dX6_sea_24 rfl rfl hX6 tyX6_ok nmX6 (by decide) (by decide +kernel) rfl rfl rfl rfl rfl (Nat.le_of_ble_eq_true rfl) rfl ?_
    refine z_iln C dX6_sea_27 0 rfl ?_
    exact z_iret C hQ dX6_sea_28 (by rw [hF]; first | done | rfl) (by rw [hF]; first | done | rfl) (by decide) (by decide)
  · have hF := hF.trans (if_pos c2)
    refine z_ic C dX6_sea_15 0 (by decide) ?_
    exact z_iret C hQ dX6_sea_16 (by rw [hF]; first | done | rfl) (by rw [hF]; first | done | rfl) (by decide) (by decide)
set_option maxHeartbeats 4000000 in
set_option maxRecDepth 100000 in
theorem mX6_climate (l : Launch) (X : zX) (a : Nat → Nat) (g : zG) (va : Int32) (vb : Int32) (vc : Int32) : CV l yX6_climate wsX6_climate 1 22 0 0 X (MW a X g) [.ref (a 0), .int va, .int vb, .int vc] (MW a X (fX6_climate g va vb vc)) := by
  obtain ⟨res, hF⟩ : ∃ z9r, z9r = fX6_climate g va vb vc := ⟨_, rfl⟩
  rw [← hF]
  refine cu_intro (cc := cX6_climate) (ret := none) (maxL := 4) (by decide +kernel) rfl (Nat.le_of_ble_eq_true rfl) ?_
  intro p e s m args below meth c A Q C hQ
  have hX6 : ∀ w ∈ wsX60, w ∈ wsX6_climate := by decide +kernel
  show Z p l e { frames := 1, cells := 0, slots := 0, locals := 22 } s m args below meth c X A 4 Q 0 0 (MW a X g) [(0, .ref (a 0)), (1, .int va), (2, .int vb), (3, .int vc)] 0 []
  refine z_aln C dX6_climate_0 0 rfl ?_
  obtain ⟨v1, hv1⟩ : ∃ z9v, z9v = ((if (fX6_in va (-300) 300) = 0 then 0 else (if (fX6_in vb 0 20) = 0 then 0 else (if (fX6_in vc 0 9) = 0 then 0 else 1))) : Int32) := ⟨_, rfl⟩
  have hF := hF.trans (jn_at hv1)
  have Jv1 : Z p l e { frames := 1, cells := 0, slots := 0, locals := 22 } s m args below meth c X A 4 Q 0 0 (MW a X g) [(0, .ref (a 0)), (1, .int va), (2, .int vb), (3, .int vc)] 39 [.int v1, .ref (a 0)] := by
    refine z_cVi0 (As := [.int v1]) (rest := []) C (mX6_asked l X a g v1 (by rw [hv1]; (repeat' split) <;> first | exact Or.inl rfl | exact Or.inr rfl)) gX6_climate_X6_asked rfl ⟨rfl, by decide, by decide, (by decide : (parseMethodDescriptor yX6_asked.desc).map (fun d => d.parameters.length) = some 1)⟩ ⟨by decide, by decide⟩ ⟨by decide, by decide⟩ 0 6 rfl rfl (Nat.le_of_ble_eq_true rfl) dX6_climate_39 rfl ?_
    obtain ⟨u5, hu5⟩ : ∃ z9u, z9u = (fX6_asked g v1) := ⟨_, rfl⟩
    rw [← hu5]
    have hF := hF.trans (jn_at hu5)
    refine z_if_eq C 60 dX6_climate_42 (by decide) (fun c6 => ?_) (fun c6 => ?_)
    · have hF := hF.trans (if_pos c6)
      exact z_vret C hQ () dX6_climate_60 (by rw [hF]; first | done | rfl) (by decide) (by decide)
    · have hF := hF.trans (if_neg c6)
      refine z_aln C dX6_climate_45 0 rfl ?_
      refine z_iln C dX6_climate_46 1 rfl ?_
      refine z_put C 0 2 (MW a X (va_up u5.2 10 (upd (u5.2 10) 2 va))) dX6_climate_47 rfl rfl hX6 tyX6_ok nmX6 (by decide) (by decide +kernel) rfl rfl rfl rfl rfl (Nat.le_of_ble_eq_true rfl) rfl ?_
      refine z_aln C dX6_climate_50 0 rfl ?_
      refine z_iln C dX6_climate_51 2 rfl ?_
      refine z_put C 0 3 (MW a X (va_up (va_up u5.2 10 (upd (u5.2 10) 2 va)) 10 (upd (upd (u5.2 10) 2 va) 3 vb))) dX6_climate_52 rfl rfl hX6 tyX6_ok nmX6 (by decide) (by decide +kernel) rfl rfl rfl rfl rfl (Nat.le_of_ble_eq_true rfl) rfl ?_
      refine z_aln C dX6_climate_55 0 rfl ?_
      refine z_iln C dX6_climate_56 3 rfl ?_
      refine z_put C 0 4 (MW a X (va_up (va_up (va_up u5.2 10 (upd (u5.2 10) 2 va)) 10 (upd (upd (u5.2 10) 2 va) 3 vb)) 10 (upd (upd (upd (u5.2 10) 2 va) 3 vb) 4 vc))) dX6_climate_57 rfl rfl hX6 tyX6_ok nmX6 (by decide) (by decide +kernel) rfl rfl rfl rfl rfl (Nat.le_of_ble_eq_true rfl) rfl ?_
      exact z_vret C hQ () dX6_climate_60 (by rw [hF]; first | done | rfl) (by decide) (by decide)
  refine z_iln C dX6_climate_1 1 rfl ?_
  refine z_sp C dX6_climate_2 (-300) (by decide) ?_
  refine z_sp C dX6_climate_5 300 (by decide) ?_
  refine z_cSi0 (As := [.int va, .int (-300), .int 300]) (rest := [.ref (a 0)]) C (mX6_in l X va (-300) 300 ) gX6_climate_X6_in rfl ⟨by decide, by decide, (by decide : (parseMethodDescriptor yX6_in.desc).map (fun d => d.parameters.length) = some 3)⟩ ⟨by decide, by decide⟩ ⟨by decide, by decide⟩ (Nat.le_of_ble_eq_true rfl) dX6_climate_8 rfl ?_
  refine z_if_eq C 38 dX6_climate_11 (by decide) (fun c2 => ?_) (fun c2 => ?_)
  · have hv1 := hv1.trans (if_pos c2)
    refine z_ic C dX6_climate_38 0 (by decide) ?_
    rw [hv1] at Jv1
    exact Jv1
  · have hv1 := hv1.trans (if_neg c2)
    refine z_iln C dX6_climate_14 2 rfl ?_
    refine z_ic C dX6_climate_15 0 (by decide) ?_
    refine z_bp C dX6_climate_16 20 (by decide) ?_
    refine z_cSi0 (As := [.int vb, .int 0, .int 20]) (rest := [.ref (a 0)]) C (mX6_in l X vb 0 20 ) gX6_climate_X6_in rfl ⟨by decide, by decide, (by decide : (parseMethodDescriptor yX6_in.desc).map (fun d => d.parameters.length) = some 3)⟩ ⟨by decide, by decide⟩ ⟨by decide, by decide⟩ (Nat.le_of_ble_eq_true rfl) dX6_climate_18 rfl ?_
    refine z_if_eq C 38 dX6_climate_21 (by decide) (fun c3 => ?_) (fun c3 => ?_)
    · have hv1 := hv1.trans (if_pos c3)
      refine z_ic C dX6_climate_38 0 (by decide) ?_
      rw [hv1] at Jv1
      exact Jv1
    · have hv1 := hv1.trans (if_neg c3)
      refine z_iln C dX6_climate_24 3 rfl ?_
      refine z_ic C dX6_climate_25 0 (by decide) ?_
      refine z_bp C dX6_climate_26 9 (by decide) ?_
      refine z_cSi0 (As := [.int vc, .int 0, .int 9]) (rest := [.ref (a 0)]) C (mX6_in l X vc 0 9 ) gX6_climate_X6_in rfl ⟨by decide, by decide, (by decide : (parseMethodDescriptor yX6_in.desc).map (fun d => d.parameters.length) = some 3)⟩ ⟨by decide, by decide⟩ ⟨by decide, by decide⟩ (Nat.le_of_ble_eq_true rfl) dX6_climate_28 rfl ?_
      refine z_if_eq C 38 dX6_climate_31 (by decide) (fun c4 => ?_) (fun c4 => ?_)
      · have hv1 := hv1.trans (if_pos c4)
        refine z_ic C dX6_climate_38 0 (by decide) ?_
        rw [hv1] at Jv1
        exact Jv1
      · have hv1 := hv1.trans (if_neg c4)
        refine z_ic C dX6_climate_34 1 (by decide) ?_
        refine z_go C 39 dX6_climate_35 (by decide) ?_
        rw [hv1] at Jv1
        exact Jv1
set_option maxHeartbeats 4000000 in
set_option maxRecDepth 100000 in
theorem mX6_ice (l : Launch) (X : zX) (a : Nat → Nat) (g : zG) (ka : Int32) (va : Int32) (hy0 : vp_in (g 0 89) 61) : CI l yX6_ice wsX6_ice 2 42 0 0 X (MW a X g) [.ref (a 0), .int ka, .int va] ((fX6_ice g ka va).1) (MW a X ((fX6_ice g ka va).2)) := by
  obtain ⟨res, hF⟩ : ∃ z9r, z9r = fX6_ice g ka va := ⟨_, rfl⟩
  rw [← hF]
  refine ci_intro (cc := cX6_ice) (ret := (some .int)) (maxL := 5) (by decide +kernel) rfl (Nat.le_of_ble_eq_true rfl) ?_
  intro p e s m args below meth c A Q C hQ
  have hX6 : ∀ w ∈ wsX60, w ∈ wsX6_ice := by decide +kernel
  show Z p l e { frames := 2, cells := 0, slots := 0, locals := 42 } s m args below meth c X A 5 Q 0 0 (MW a X g) [(0, .ref (a 0)), (1, .int ka), (2, .int va)] 0 []
  refine z_iln C dX6_ice_0 1 rfl ?_
  refine z_cSi0 (As := [.int ka]) (rest := []) C (mX6_isCell l X ka ) gX6_ice_X6_isCell rfl ⟨by decide, by decide, (by decide : (parseMethodDescriptor yX6_isCell.desc).map (fun d => d.parameters.length) = some 1)⟩ ⟨by decide, by decide⟩ ⟨by decide, by decide⟩ (Nat.le_of_ble_eq_true rfl) dX6_ice_1 rfl ?_
  refine z_isn C 3 [(3, .int (fX6_isCell ka)), (0, .ref (a 0)), (1, .int ka), (2, .int va)] dX6_ice_4 rfl (by decide) rfl ?_
  refine z_iln C dX6_ice_5 3 rfl ?_
  refine z_ic C dX6_ice_6 1 (by decide) ?_
  refine z_sp C dX6_ice_7 999 (by decide) ?_
  refine z_cSi0 (As := [.int va, .int 1, .int 999]) (rest := []) C (mX6_in l X va 1 999 ) gX6_ice_X6_in rfl ⟨by decide, by decide, (by decide : (parseMethodDescriptor yX6_in.desc).map (fun d => d.parameters.length) = some 3)⟩ ⟨by decide, by decide⟩ ⟨by decide, by decide⟩ (Nat.le_of_ble_eq_true rfl) dX6_ice_10 rfl ?_
  refine z_is C [(4, .int (fX6_in va 1 999)), (3, .int (fX6_isCell ka)), (0, .ref (a 0)), (1, .int ka), (2, .int va)] dX6_ice_13 (by decide) rfl ?_
  refine z_aln C dX6_ice_15 2 rfl ?_
  refine z_iln C dX6_ice_16 1 rfl ?_
  refine z_il C dX6_ice_17 0 rfl ?_
  obtain ⟨v1, hv1⟩ : ∃ z9v, z9v = ((if (fX6_isCell ka) = 0 then 0 else (if (fX6_in va 1 999) = 0 then 0 else (if 9999 < ((fX6_iceOf g ka.toNatClampNeg) + va) then 0 else 1))) : Int32) := ⟨_, rfl⟩
  have hF := hF.trans (jn_at hv1)
  have Jv1 : Z p l e { frames := 2, cells := 0, slots := 0, locals := 42 } s m args below meth c X A 5 Q 0 0 (MW a X g) [(0, .ref (a 0)), (1, .int ka), (2, .int va), (3, .int (fX6_isCell ka)), (4, .int (fX6_in va 1 999))] 46 [.int v1, .int (fX6_in va 1 999), .int (fX6_isCell ka), .ref (a 0)] := by
    refine z_cVi0 (As := [.int (fX6_isCell ka), .int (fX6_in va 1 999), .int v1]) (rest := []) C (mX6_asked__ l X a g (fX6_isCell ka) (fX6_in va 1 999) v1 ) gX6_ice_X6_asked__ rfl ⟨rfl, by decide, by decide, (by decide : (parseMethodDescriptor yX6_asked__.desc).map (fun d => d.parameters.length) = some 3)⟩ ⟨by decide, by decide⟩ ⟨by decide, by decide⟩ 0 6 rfl rfl (Nat.le_of_ble_eq_true rfl) dX6_ice_46 rfl ?_
    obtain ⟨u5, hu5⟩ : ∃ z9u, z9u = (fX6_asked__ g (fX6_isCell ka) (fX6_in va 1 999) v1) := ⟨_, rfl⟩
    rw [← hu5]
    have hF := hF.trans (jn_at hu5)
    refine z_if_ne C 54 dX6_ice_49 (by decide) (fun c6 => ?_) (fun c6 => ?_)
    · have hF := hF.trans (if_neg c6)
      have hk := isCell_in ((asked3 hu5 c6).1)
      have hk12 := zn_lt hk
      have hs := asked3_s hu5
      have hyl : (u5.2 0 89).toNatClampNeg < 61 := by rw [hs]; exact zn_lt hy0
      refine z_aln C dX6_ice_54 0 rfl ?_
      refine z_get (v := .ref (a 1)) C 0 5 dX6_ice_55 rfl rfl rfl hX6 (by decide) (by decide +kernel) rfl ?_
      refine z_bp C dX6_ice_58 100 (by decide) ?_
      refine z_bp C dX6_ice_60 61 (by decide) ?_
      refine z_iln C dX6_ice_62 1 rfl ?_
      refine z_nm (show nI ka.toNatClampNeg = ka from (zn_in hk)) ?_
      refine z_imul C dX6_ice_63 (nI (61 * ka.toNatClampNeg)) (pk_mul 61 ka.toNatClampNeg) ?_
      refine z_iadd C dX6_ice_64 (nI (100 + (61 * ka.toNatClampNeg))) (nI_add 100 (61 * ka.toNatClampNeg)) ?_
      refine z_aln C dX6_ice_65 0 rfl ?_
      refine z_get (v := .ref (a 1)) C 0 5 dX6_ice_66 rfl rfl rfl hX6 (by decide) (by decide +kernel) rfl ?_
      refine z_bp C dX6_ice_69 89 (by decide) ?_
      refine z_iald (f := (u5.2 0)) C 1 89 dX6_ice_71 rfl (by decide) rfl (by omega) ?_
      refine z_nm (show nI (((u5.2 0) 89).toNatClampNeg) = ((u5.2 0) 89) from (by rw [hs]; exact zn_in hy0)) ?_
      refine z_iadd C dX6_ice_72 (nI ((100 + (61 * ka.toNatClampNeg)) + ((u5.2 0) 89).toNatClampNeg)) (nI_add (100 + (61 * ka.toNatClampNeg)) (((u5.2 0) 89).toNatClampNeg)) ?_
      refine z_dup2 C dX6_ice_73 rfl rfl ?_
      refine z_iald (f := (u5.2 0)) C 1 ((100 + (61 * ka.toNatClampNeg)) + ((u5.2 0) 89).toNatClampNeg) dX6_ice_74 rfl (by decide) rfl (by omega) ?_
      refine z_iln C dX6_ice_75 2 rfl ?_
      refine z_iadd C dX6_ice_76 (((u5.2 0) ((100 + (61 * ka.toNatClampNeg)) + ((u5.2 0) 89).toNatClampNeg)) + va) rfl ?_
      refine z_iast (f := (u5.2 0)) C 1 ((100 + (61 * ka.toNatClampNeg)) + ((u5.2 0) 89).toNatClampNeg) (MW a X (va_up u5.2 0 (upd (u5.2 0) ((100 + (61 * ka.toNatClampNeg)) + ((u5.2 0) 89).toNatClampNeg) (((u5.2 0) ((100 + (61 * ka.toNatClampNeg)) + ((u5.2 0) 89).toNatClampNeg)) + va)))) dX6_ice_77 rfl (by decide) rfl (by omega) rfl ?_
      refine z_aln C dX6_ice_78 0 rfl ?_
      refine z_get (v := .ref (a 1)) C 0 5 dX6_ice_79 rfl rfl rfl hX6 (by decide) (by decide +kernel) rfl ?_
      refine z_bp C dX6_ice_82 87 (by decide) ?_
      refine z_dup2 C dX6_ice_84 rfl rfl ?_
      refine z_iald (f := (upd (u5.2 0) ((100 + (61 * ka.toNatClampNeg)) + ((u5.2 0) 89).toNatClampNeg) (((u5.2 0) ((100 + (61 * ka.toNatClampNeg)) + ((u5.2 0) 89).toNatClampNeg)) + va))) C 1 87 dX6_ice_85 rfl (by decide) rfl (by omega) ?_
      refine z_iln C dX6_ice_86 2 rfl ?_
      refine z_iadd C dX6_ice_87 (((upd (u5.2 0) ((100 + (61 * ka.toNatClampNeg)) + ((u5.2 0) 89).toNatClampNeg) (((u5.2 0) ((100 + (61 * ka.toNatClampNeg)) + ((u5.2 0) 89).toNatClampNeg)) + va)) 87) + va) rfl ?_
      refine z_iast (f := (upd (u5.2 0) ((100 + (61 * ka.toNatClampNeg)) + ((u5.2 0) 89).toNatClampNeg) (((u5.2 0) ((100 + (61 * ka.toNatClampNeg)) + ((u5.2 0) 89).toNatClampNeg)) + va))) C 1 87 (MW a X (va_up (va_up u5.2 0 (upd (u5.2 0) ((100 + (61 * ka.toNatClampNeg)) + ((u5.2 0) 89).toNatClampNeg) (((u5.2 0) ((100 + (61 * ka.toNatClampNeg)) + ((u5.2 0) 89).toNatClampNeg)) + va))) 0 (upd (upd (u5.2 0) ((100 + (61 * ka.toNatClampNeg)) + ((u5.2 0) 89).toNatClampNeg) (((u5.2 0) ((100 + (61 * ka.toNatClampNeg)) + ((u5.2 0) 89).toNatClampNeg)) + va)) 87 (((upd (u5.2 0) ((100 + (61 * ka.toNatClampNeg)) + ((u5.2 0) 89).toNatClampNeg) (((u5.2 0) ((100 + (61 * ka.toNatClampNeg)) + ((u5.2 0) 89).toNatClampNeg)) + va)) 87) + va)))) dX6_ice_88 rfl (by decide) rfl (by omega) rfl ?_
      refine z_aln C dX6_ice_89 0 rfl ?_
      refine z_iln C dX6_ice_90 1 rfl ?_
      refine z_nm (show nI ka.toNatClampNeg = ka from (zn_in hk)) ?_
      refine z_cVi0 (As := [.int (nI ka.toNatClampNeg)]) (rest := []) C (mX6_iceOf l X a (va_up (va_up u5.2 0 (upd (u5.2 0) ((100 + (61 * ka.toNatClampNeg)) + ((u5.2 0) 89).toNatClampNeg) (((u5.2 0) ((100 + (61 * ka.toNatClampNeg)) + ((u5.2 0) 89).toNatClampNeg)) + va))) 0 (upd (upd (u5.2 0) ((100 + (61 * ka.toNatClampNeg)) + ((u5.2 0) 89).toNatClampNeg) (((u5.2 0) ((100 + (61 * ka.toNatClampNeg)) + ((u5.2 0) 89).toNatClampNeg)) + va)) 87 (((upd (u5.2 0) ((100 + (61 * ka.toNatClampNeg)) + ((u5.2 0) 89).toNatClampNeg) (((u5.2 0) ((100 + (61 * ka.toNatClampNeg)) + ((u5.2 0) 89).toNatClampNeg)) + va)) 87) + va))) ka.toNatClampNeg hk12) gX6_ice_X6_iceOf rfl ⟨rfl, by decide, by decide, (by decide : (parseMethodDescriptor yX6_iceOf.desc).map (fun d => d.parameters.length) = some 1)⟩ ⟨by decide, by decide⟩ ⟨by decide, by decide⟩ 0 6 rfl rfl (Nat.le_of_ble_eq_true rfl) dX6_ice_91 rfl ?_
      exact z_iret C hQ dX6_ice_94 (by rw [hF]; first | done | rfl) (by rw [hF]; first | done | rfl) (by decide) (by decide)
    · have hF := hF.trans (if_pos c6)
      refine z_ic C dX6_ice_52 0 (by decide) ?_
      exact z_iret C hQ dX6_ice_53 (by rw [hF]; first | done | rfl) (by rw [hF]; first | done | rfl) (by decide) (by decide)
  refine z_iln C dX6_ice_19 1 rfl ?_
  refine z_if_eq C 45 dX6_ice_20 (by decide) (fun c2 => ?_) (fun c2 => ?_)
  · have hv1 := hv1.trans (if_pos c2)
    refine z_ic C dX6_ice_45 0 (by decide) ?_
    refine z_lv [2, 3, 4, 1, 0] [(0, .ref (a 0)), (1, .int ka), (2, .int va), (3, .int (fX6_isCell ka)), (4, .int (fX6_in va 1 999))] rfl ?_
    rw [hv1] at Jv1
    exact Jv1
  · have hv1 := hv1.trans (if_neg c2)
    have hk := isCell_in (c2)
    have hk12 := zn_lt hk
    refine z_il C dX6_ice_23 0 rfl ?_
    refine z_if_eq C 45 dX6_ice_25 (by decide) (fun c3 => ?_) (fun c3 => ?_)
    · have hv1 := hv1.trans (if_pos c3)
      refine z_ic C dX6_ice_45 0 (by decide) ?_
      refine z_lv [2, 3, 4, 1, 0] [(0, .ref (a 0)), (1, .int ka), (2, .int va), (3, .int (fX6_isCell ka)), (4, .int (fX6_in va 1 999))] rfl ?_
      rw [hv1] at Jv1
      exact Jv1
    · have hv1 := hv1.trans (if_neg c3)
      refine z_aln C dX6_ice_28 2 rfl ?_
      refine z_iln C dX6_ice_29 3 rfl ?_
      refine z_nm (show nI ka.toNatClampNeg = ka from (zn_in hk)) ?_
      refine z_cVi0 (As := [.int (nI ka.toNatClampNeg)]) (rest := [.int (fX6_in va 1 999), .int (fX6_isCell ka), .ref (a 0)]) C (mX6_iceOf l X a g ka.toNatClampNeg hk12) gX6_ice_X6_iceOf rfl ⟨rfl, by decide, by decide, (by decide : (parseMethodDescriptor yX6_iceOf.desc).map (fun d => d.parameters.length) = some 1)⟩ ⟨by decide, by decide⟩ ⟨by decide, by decide⟩ 0 6 rfl rfl (Nat.le_of_ble_eq_true rfl) dX6_ice_30 rfl ?_
      refine z_iln C dX6_ice_33 4 rfl ?_
      refine z_iadd C dX6_ice_34 ((fX6_iceOf g ka.toNatClampNeg) + va) rfl ?_
      refine z_sp C dX6_ice_35 9999 (by decide) ?_
      refine z_ic_gt C 45 dX6_ice_38 (by decide) (fun c4 => ?_) (fun c4 => ?_)
      · have hv1 := hv1.trans (if_pos c4)
        refine z_ic C dX6_ice_45 0 (by decide) ?_
        refine z_lv [2, 3, 4, 1, 0] [(0, .ref (a 0)), (1, .int ka), (2, .int va), (3, .int (fX6_isCell ka)), (4, .int (fX6_in va 1 999))] rfl ?_
        rw [hv1] at Jv1
        exact Jv1
      · have hv1 := hv1.trans (if_neg c4)
        refine z_ic C dX6_ice_41 1 (by decide) ?_
        refine z_go C 46 dX6_ice_42 (by decide) ?_
        refine z_lv [2, 3, 4, 1, 0] [(0, .ref (a 0)), (1, .int ka), (2, .int va), (3, .int (fX6_isCell ka)), (4, .int (fX6_in va 1 999))] rfl ?_
        rw [hv1] at Jv1
        exact Jv1
set_option maxHeartbeats 4000000 in
set_option maxRecDepth 100000 in
theorem mX6_ash (l : Launch) (X : zX) (a : Nat → Nat) (g : zG) (hy0 : vp_in (g 0 89) 61) (hy1 : ∀ i, i < 61 → g 2 i = 0 ∨ g 2 i = 1) : CI l yX6_ash wsX6_ash 0 0 0 0 X (MW a X g) [.ref (a 0)] ((fX6_ash g).1) (MW a X ((fX6_ash g).2)) := by
  obtain ⟨res, hF⟩ : ∃ z9r, z9r = fX6_ash g := ⟨_, rfl⟩
  rw [← hF]
  refine ci_intro (cc := cX6_ash) (ret := (some .boolean)) (maxL := 2) (by decide +kernel) rfl (Nat.le_of_ble_eq_true rfl) ?_
  intro p e s m args below meth c A Q C hQ
  have hX6 : ∀ w ∈ wsX60, w ∈ wsX6_ash := by decide +kernel
  show Z p l e { frames := 0, cells := 0, slots := 0, locals := 0 } s m args below meth c X A 2 Q 0 0 (MW a X g) [(0, .ref (a 0))] 0 []
  have hyl := zn_lt hy0
  refine z_aln C dX6_ash_0 0 rfl ?_
  refine z_ic C dX6_ash_1 0 (by decide) ?_
  refine z_put C 0 0 (MW a X (va_up g 10 (upd (g 10) 0 0))) dX6_ash_2 rfl rfl hX6 tyX6_ok nmX6 (by decide) (by decide +kernel) rfl rfl rfl rfl rfl (Nat.le_of_ble_eq_true rfl) rfl ?_
  refine z_aln C dX6_ash_5 0 rfl ?_
  refine z_get (v := .ref (a 3)) C 0 7 dX6_ash_6 rfl rfl rfl hX6 (by decide) (by decide +kernel) rfl ?_
  refine z_aln C dX6_ash_9 0 rfl ?_
  refine z_get (v := .ref (a 1)) C 0 5 dX6_ash_10 rfl rfl rfl hX6 (by decide) (by decide +kernel) rfl ?_
  refine z_bp C dX6_ash_13 89 (by decide) ?_
  refine z_iald (f := (g 0)) C 1 89 dX6_ash_15 rfl (by decide) rfl (by omega) ?_
  refine z_nm (show nI ((g 0 89).toNatClampNeg) = ((g 0) 89) from zn_in hy0) ?_
  refine z_zald (f := (g 2)) C 3 ((g 0 89).toNatClampNeg) dX6_ash_16 rfl (by decide) rfl (by omega) ?_
  refine z_isn C 1 [(1, .int ((g 2) ((g 0 89).toNatClampNeg))), (0, .ref (a 0))] dX6_ash_17 rfl (by decide) rfl ?_
  refine z_aln C dX6_ash_18 1 rfl ?_
  refine z_get (v := .ref (a 3)) C 0 7 dX6_ash_19 rfl rfl rfl hX6 (by decide) (by decide +kernel) rfl ?_
  refine z_aln C dX6_ash_22 1 rfl ?_
  refine z_get (v := .ref (a 1)) C 0 5 dX6_ash_23 rfl rfl rfl hX6 (by decide) (by decide +kernel) rfl ?_
  refine z_bp C dX6_ash_26 89 (by decide) ?_
  refine z_iald (f := (g 0)) C 1 89 dX6_ash_28 rfl (by decide) rfl (by omega) ?_
  refine z_nm (show nI ((g 0 89).toNatClampNeg) = ((g 0) 89) from zn_in hy0) ?_
  refine z_ic C dX6_ash_29 1 (by decide) ?_
  refine z_zast (f := (g 2)) C 3 ((g 0 89).toNatClampNeg) (MW a X (va_up (va_up g 10 (upd (g 10) 0 0)) 2 (upd (g 2) ((g 0 89).toNatClampNeg) (vp_nar .boolean 1)))) dX6_ash_30 rfl (by decide) rfl (by omega) rfl ?_
  refine z_iln C dX6_ash_31 0 rfl ?_
  exact z_zret C hQ dX6_ash_32 (hy1 _ hyl) (by rw [hF]; first | done | rfl) (by rw [hF]; first | done | rfl) (by decide) (by decide)
set_option maxHeartbeats 4000000 in
set_option maxRecDepth 100000 in
theorem mX6_cellIs (l : Launch) (X : zX) (a : Nat → Nat) (g : zG) (ka : Int32) (wa : Int32) : CI l yX6_cellIs wsX6_cellIs 3 68 0 0 X (MW a X g) [.ref (a 0), .int ka, .int wa] ((fX6_cellIs g ka wa).1) (MW a X ((fX6_cellIs g ka wa).2)) := by
  obtain ⟨res, hF⟩ : ∃ z9r, z9r = fX6_cellIs g ka wa := ⟨_, rfl⟩
  rw [← hF]
  refine ci_intro (cc := cX6_cellIs) (ret := (some .int)) (maxL := 3) (by decide +kernel) rfl (Nat.le_of_ble_eq_true rfl) ?_
  intro p e s m args below meth c A Q C hQ
  show Z p l e { frames := 3, cells := 0, slots := 0, locals := 68 } s m args below meth c X A 3 Q 0 0 (MW a X g) [(0, .ref (a 0)), (1, .int ka), (2, .int wa)] 0 []
  refine z_aln C dX6_cellIs_0 0 rfl ?_
  refine z_iln C dX6_cellIs_1 1 rfl ?_
  refine z_cSi0 (As := [.int ka]) (rest := [.ref (a 0)]) C (mX6_isCell l X ka ) gX6_cellIs_X6_isCell rfl ⟨by decide, by decide, (by decide : (parseMethodDescriptor yX6_isCell.desc).map (fun d => d.parameters.length) = some 1)⟩ ⟨by decide, by decide⟩ ⟨by decide, by decide⟩ (Nat.le_of_ble_eq_true rfl) dX6_cellIs_2 rfl ?_
  refine z_iln C dX6_cellIs_5 2 rfl ?_
  refine z_ic C dX6_cellIs_6 0 (by decide) ?_
  refine z_bp C dX6_cellIs_7 9 (by decide) ?_
  refine z_cSi0 (As := [.int wa, .int 0, .int 9]) (rest := [.int (fX6_isCell ka), .ref (a 0)]) C (mX6_in l X wa 0 9 ) gX6_cellIs_X6_in rfl ⟨by decide, by decide, (by decide : (parseMethodDescriptor yX6_in.desc).map (fun d => d.parameters.length) = some 3)⟩ ⟨by decide, by decide⟩ ⟨by decide, by decide⟩ (Nat.le_of_ble_eq_true rfl) dX6_cellIs_9 rfl ?_
  refine z_cVi0 (As := [.int (fX6_isCell ka), .int (fX6_in wa 0 9)]) (rest := []) C (mX6_asked_ l X a g (fX6_isCell ka) (fX6_in wa 0 9) ) gX6_cellIs_X6_asked_ rfl ⟨rfl, by decide, by decide, (by decide : (parseMethodDescriptor yX6_asked_.desc).map (fun d => d.parameters.length) = some 2)⟩ ⟨by decide, by decide⟩ ⟨by decide, by decide⟩ 0 6 rfl rfl (Nat.le_of_ble_eq_true rfl) dX6_cellIs_12 rfl ?_
  obtain ⟨u1, hu1⟩ : ∃ z9u, z9u = (fX6_asked_ g (fX6_isCell ka) (fX6_in wa 0 9)) := ⟨_, rfl⟩
  rw [← hu1]
  have hF := hF.trans (jn_at hu1)
  refine z_if_eq C 27 dX6_cellIs_15 (by decide) (fun c2 => ?_) (fun c2 => ?_)
  · have hF := hF.trans (if_pos c2)
    refine z_ic C dX6_cellIs_27 0 (by decide) ?_
    exact z_iret C hQ dX6_cellIs_28 (by rw [hF]; first | done | rfl) (by rw [hF]; first | done | rfl) (by decide) (by decide)
  · have hF := hF.trans (if_neg c2)
    have hk := isCell_in ((asked2 hu1 c2).1)
    have hk12 := zn_lt hk
    refine z_aln C dX6_cellIs_18 0 rfl ?_
    refine z_iln C dX6_cellIs_19 1 rfl ?_
    refine z_nm (show nI ka.toNatClampNeg = ka from (zn_in hk)) ?_
    refine z_iln C dX6_cellIs_20 2 rfl ?_
    refine z_cVi0 (As := [.int (nI ka.toNatClampNeg), .int wa]) (rest := []) C (mX6_tells l X a u1.2 ka.toNatClampNeg wa hk12) gX6_cellIs_X6_tells rfl ⟨rfl, by decide, by decide, (by decide : (parseMethodDescriptor yX6_tells.desc).map (fun d => d.parameters.length) = some 2)⟩ ⟨by decide, by decide⟩ ⟨by decide, by decide⟩ 0 6 rfl rfl (Nat.le_of_ble_eq_true rfl) dX6_cellIs_21 rfl ?_
    refine z_go C 28 dX6_cellIs_24 (by decide) ?_
    exact z_iret C hQ dX6_cellIs_28 (by rw [hF]; first | done | rfl) (by rw [hF]; first | done | rfl) (by decide) (by decide)
set_option maxHeartbeats 4000000 in
set_option maxRecDepth 100000 in
theorem mX6_layer (l : Launch) (X : zX) (a : Nat → Nat) (g : zG) (ka : Int32) (ya : Int32) : CI l yX6_layer wsX6_layer 2 42 0 0 X (MW a X g) [.ref (a 0), .int ka, .int ya] ((fX6_layer g ka ya).1) (MW a X ((fX6_layer g ka ya).2)) := by
  obtain ⟨res, hF⟩ : ∃ z9r, z9r = fX6_layer g ka ya := ⟨_, rfl⟩
  rw [← hF]
  refine ci_intro (cc := cX6_layer) (ret := (some .int)) (maxL := 3) (by decide +kernel) rfl (Nat.le_of_ble_eq_true rfl) ?_
  intro p e s m args below meth c A Q C hQ
  have hX6 : ∀ w ∈ wsX60, w ∈ wsX6_layer := by decide +kernel
  show Z p l e { frames := 2, cells := 0, slots := 0, locals := 42 } s m args below meth c X A 3 Q 0 0 (MW a X g) [(0, .ref (a 0)), (1, .int ka), (2, .int ya)] 0 []
  refine z_aln C dX6_layer_0 0 rfl ?_
  refine z_iln C dX6_layer_1 1 rfl ?_
  refine z_cSi0 (As := [.int ka]) (rest := [.ref (a 0)]) C (mX6_isCell l X ka ) gX6_layer_X6_isCell rfl ⟨by decide, by decide, (by decide : (parseMethodDescriptor yX6_isCell.desc).map (fun d => d.parameters.length) = some 1)⟩ ⟨by decide, by decide⟩ ⟨by decide, by decide⟩ (Nat.le_of_ble_eq_true rfl) dX6_layer_2 rfl ?_
  refine z_iln C dX6_layer_5 2 rfl ?_
  refine z_ic C dX6_layer_6 0 (by decide) ?_
  refine z_bp C dX6_layer_7 60 (by decide) ?_
  refine z_cSi0 (As := [.int ya, .int 0, .int 60]) (rest := [.int (fX6_isCell ka), .ref (a 0)]) C (mX6_in l X ya 0 60 ) gX6_layer_X6_in rfl ⟨by decide, by decide, (by decide : (parseMethodDescriptor yX6_in.desc).map (fun d => d.parameters.length) = some 3)⟩ ⟨by decide, by decide⟩ ⟨by decide, by decide⟩ (Nat.le_of_ble_eq_true rfl) dX6_layer_9 rfl ?_
  refine z_cVi0 (As := [.int (fX6_isCell ka), .int (fX6_in ya 0 60)]) (rest := []) C (mX6_asked_ l X a g (fX6_isCell ka) (fX6_in ya 0 60) ) gX6_layer_X6_asked_ rfl ⟨rfl, by decide, by decide, (by decide : (parseMethodDescriptor yX6_asked_.desc).map (fun d => d.parameters.length) = some 2)⟩ ⟨by decide, by decide⟩ ⟨by decide, by decide⟩ 0 6 rfl rfl (Nat.le_of_ble_eq_true rfl) dX6_layer_12 rfl ?_
  obtain ⟨u1, hu1⟩ : ∃ z9u, z9u = (fX6_asked_ g (fX6_isCell ka) (fX6_in ya 0 60)) := ⟨_, rfl⟩
  rw [← hu1]
  have hF := hF.trans (jn_at hu1)
  refine z_if_eq C 35 dX6_layer_15 (by decide) (fun c2 => ?_) (fun c2 => ?_)
  · have hF := hF.trans (if_pos c2)
    refine z_ic C dX6_layer_35 0 (by decide) ?_
    exact z_iret C hQ dX6_layer_36 (by rw [hF]; first | done | rfl) (by rw [hF]; first | done | rfl) (by decide) (by decide)
  · have hF := hF.trans (if_neg c2)
    have hk := isCell_in ((asked2 hu1 c2).1)
    have hk12 := zn_lt hk
    have hw := in_vp (n := 61) (asked2 hu1 c2).2 (by decide) (by decide)
    have hw61 := zn_lt hw
    refine z_aln C dX6_layer_18 0 rfl ?_
    refine z_get (v := .ref (a 1)) C 0 5 dX6_layer_19 rfl rfl rfl hX6 (by decide) (by decide +kernel) rfl ?_
    refine z_bp C dX6_layer_22 100 (by decide) ?_
    refine z_bp C dX6_layer_24 61 (by decide) ?_
    refine z_iln C dX6_layer_26 1 rfl ?_
    refine z_nm (show nI ka.toNatClampNeg = ka from (zn_in hk)) ?_
    refine z_imul C dX6_layer_27 (nI (61 * ka.toNatClampNeg)) (pk_mul 61 ka.toNatClampNeg) ?_
    refine z_iadd C dX6_layer_28 (nI (100 + (61 * ka.toNatClampNeg))) (nI_add 100 (61 * ka.toNatClampNeg)) ?_
    refine z_iln C dX6_layer_29 2 rfl ?_
    refine z_nm (show nI ya.toNatClampNeg = ya from (zn_in hw)) ?_
    refine z_iadd C dX6_layer_30 (nI ((100 + (61 * ka.toNatClampNeg)) + ya.toNatClampNeg)) (nI_add (100 + (61 * ka.toNatClampNeg)) ya.toNatClampNeg) ?_
    refine z_iald (f := (u1.2 0)) C 1 ((100 + (61 * ka.toNatClampNeg)) + ya.toNatClampNeg) dX6_layer_31 rfl (by decide) rfl (by omega) ?_
    refine z_go C 36 dX6_layer_32 (by decide) ?_
    exact z_iret C hQ dX6_layer_36 (by rw [hF]; first | done | rfl) (by rw [hF]; first | done | rfl) (by decide) (by decide)
set_option maxHeartbeats 4000000 in
set_option maxRecDepth 100000 in
theorem mX6_yearAt (l : Launch) (X : zX) (a : Nat → Nat) (g : zG) (ka : Int32) (da : Int32) : CI l yX6_yearAt wsX6_yearAt 2 42 0 0 X (MW a X g) [.ref (a 0), .int ka, .int da] ((fX6_yearAt g ka da).1) (MW a X ((fX6_yearAt g ka da).2)) := by
  obtain ⟨res, hF⟩ : ∃ z9r, z9r = fX6_yearAt g ka da := ⟨_, rfl⟩
  rw [← hF]
  refine ci_intro (cc := cX6_yearAt) (ret := (some .int)) (maxL := 5) (by decide +kernel) rfl (Nat.le_of_ble_eq_true rfl) ?_
  intro p e s m args below meth c A Q C hQ
  have hX6 : ∀ w ∈ wsX60, w ∈ wsX6_yearAt := by decide +kernel
  show Z p l e { frames := 2, cells := 0, slots := 0, locals := 42 } s m args below meth c X A 5 Q 0 0 (MW a X g) [(0, .ref (a 0)), (1, .int ka), (2, .int da)] 0 []
  refine z_aln C dX6_yearAt_0 0 rfl ?_
  refine z_iln C dX6_yearAt_1 1 rfl ?_
  refine z_cSi0 (As := [.int ka]) (rest := [.ref (a 0)]) C (mX6_isCell l X ka ) gX6_yearAt_X6_isCell rfl ⟨by decide, by decide, (by decide : (parseMethodDescriptor yX6_isCell.desc).map (fun d => d.parameters.length) = some 1)⟩ ⟨by decide, by decide⟩ ⟨by decide, by decide⟩ (Nat.le_of_ble_eq_true rfl) dX6_yearAt_2 rfl ?_
  obtain ⟨v1, hv1⟩ : ∃ z9v, z9v = ((if da < 0 then 0 else 1) : Int32) := ⟨_, rfl⟩
  have hF := hF.trans (jn_at hv1)
  have Jv1 : Z p l e { frames := 2, cells := 0, slots := 0, locals := 42 } s m args below meth c X A 5 Q 0 0 (MW a X g) [(0, .ref (a 0)), (1, .int ka), (2, .int da)] 14 [.int v1, .int (fX6_isCell ka), .ref (a 0)] := by
    refine z_cVi0 (As := [.int (fX6_isCell ka), .int v1]) (rest := []) C (mX6_asked_ l X a g (fX6_isCell ka) v1 ) gX6_yearAt_X6_asked_ rfl ⟨rfl, by decide, by decide, (by decide : (parseMethodDescriptor yX6_asked_.desc).map (fun d => d.parameters.length) = some 2)⟩ ⟨by decide, by decide⟩ ⟨by decide, by decide⟩ 0 6 rfl rfl (Nat.le_of_ble_eq_true rfl) dX6_yearAt_14 rfl ?_
    obtain ⟨u3, hu3⟩ : ∃ z9u, z9u = (fX6_asked_ g (fX6_isCell ka) v1) := ⟨_, rfl⟩
    rw [← hu3]
    have hF := hF.trans (jn_at hu3)
    refine z_if_ne C 22 dX6_yearAt_17 (by decide) (fun c4 => ?_) (fun c4 => ?_)
    · have hF := hF.trans (if_neg c4)
      have hk := isCell_in ((asked2 hu3 c4).1)
      have hk12 := zn_lt hk
      refine z_iln C dX6_yearAt_22 2 rfl ?_
      refine z_isn C 3 [(3, .int da), (0, .ref (a 0)), (1, .int ka), (2, .int da)] dX6_yearAt_23 rfl (by decide) rfl ?_
      refine z_bp C dX6_yearAt_24 60 (by decide) ?_
      refine z_is C [(4, .int 60), (3, .int da), (0, .ref (a 0)), (1, .int ka), (2, .int da)] dX6_yearAt_26 (by decide) rfl ?_
      refine z_lv [2, 3, 1, 0] [(0, .ref (a 0)), (1, .int ka), (3, .int da), (4, .int 60)] rfl ?_
      have LPk6 : ∀ (nk6 : Nat) (x5 : Int32), nk6 ≤ 61 → res = fX6_yearAt_L28 ka u3 nk6 x5 → Z p l e { frames := 2, cells := 0, slots := 0, locals := 42 } s m args below meth c X A 5 Q 0 0 (MW a X u3.2) [(0, .ref (a 0)), (1, .int ka), (3, .int x5), (4, .int (nI nk6 - 1))] 28 [] := by
        intro nk6
        induction nk6 with
        | zero =>
          intro x5 hkk6 hF
          show Z p l e { frames := 2, cells := 0, slots := 0, locals := 42 } s m args below meth c X A 5 Q 0 0 (MW a X u3.2) [(0, .ref (a 0)), (1, .int ka), (3, .int x5), (4, .int (-1))] 28 []
          refine z_il C dX6_yearAt_28 3 rfl ?_
          refine z_if_lt C 79 dX6_yearAt_30 (by decide) (fun c7 => ?_) (fun c7 => ?_)
          rotate_left
          · exact absurd (by decide) c7
          refine z_ic C dX6_yearAt_79 (-1) (by decide) ?_
          exact z_iret C hQ dX6_yearAt_80 (by rw [hF]; first | done | rfl) (by rw [hF]; first | done | rfl) (by decide) (by decide)
        | succ nk6 ihk6 =>
          intro x5 hkk6 hF
          rw [nI_pred]
          refine z_il C dX6_yearAt_28 3 rfl ?_
          refine z_if_lt C 79 dX6_yearAt_30 (by decide) (fun c8 => ?_) (fun c8 => ?_)
          · exact absurd c8 (nI_pos (by omega))
          refine z_iln C dX6_yearAt_33 2 rfl ?_
          refine z_aln C dX6_yearAt_34 0 rfl ?_
          refine z_get (v := .ref (a 1)) C 0 5 dX6_yearAt_35 rfl rfl rfl hX6 (by decide) (by decide +kernel) rfl ?_
          refine z_bp C dX6_yearAt_38 100 (by decide) ?_
          refine z_bp C dX6_yearAt_40 61 (by decide) ?_
          refine z_iln C dX6_yearAt_42 1 rfl ?_
          refine z_nm (show nI ka.toNatClampNeg = ka from (zn_in hk)) ?_
          refine z_imul C dX6_yearAt_43 (nI (61 * ka.toNatClampNeg)) (pk_mul 61 ka.toNatClampNeg) ?_
          refine z_iadd C dX6_yearAt_44 (nI (100 + (61 * ka.toNatClampNeg))) (nI_add 100 (61 * ka.toNatClampNeg)) ?_
          refine z_il C dX6_yearAt_45 3 rfl ?_
          refine z_iadd C dX6_yearAt_47 (nI ((100 + (61 * ka.toNatClampNeg)) + nk6)) (nI_add (100 + (61 * ka.toNatClampNeg)) nk6) ?_
          refine z_iald (f := (u3.2 0)) C 1 ((100 + (61 * ka.toNatClampNeg)) + nk6) dX6_yearAt_48 rfl (by decide) rfl (by omega) ?_
          refine z_ic_ge C 55 dX6_yearAt_49 (by decide) (fun c9 => ?_) (fun c9 => ?_)
          · have hF := hF.trans (if_pos c9)
            refine z_iln C dX6_yearAt_55 2 rfl ?_
            refine z_aln C dX6_yearAt_56 0 rfl ?_
            refine z_get (v := .ref (a 1)) C 0 5 dX6_yearAt_57 rfl rfl rfl hX6 (by decide) (by decide +kernel) rfl ?_
            refine z_bp C dX6_yearAt_60 100 (by decide) ?_
            refine z_bp C dX6_yearAt_62 61 (by decide) ?_
            refine z_iln C dX6_yearAt_64 1 rfl ?_
            refine z_nm (show nI ka.toNatClampNeg = ka from (zn_in hk)) ?_
            refine z_imul C dX6_yearAt_65 (nI (61 * ka.toNatClampNeg)) (pk_mul 61 ka.toNatClampNeg) ?_
            refine z_iadd C dX6_yearAt_66 (nI (100 + (61 * ka.toNatClampNeg))) (nI_add 100 (61 * ka.toNatClampNeg)) ?_
            refine z_il C dX6_yearAt_67 3 rfl ?_
            refine z_iadd C dX6_yearAt_69 (nI ((100 + (61 * ka.toNatClampNeg)) + nk6)) (nI_add (100 + (61 * ka.toNatClampNeg)) nk6) ?_
            refine z_iald (f := (u3.2 0)) C 1 ((100 + (61 * ka.toNatClampNeg)) + nk6) dX6_yearAt_70 rfl (by decide) rfl (by omega) ?_
            refine z_isub C dX6_yearAt_71 (x5 - ((u3.2 0) ((100 + (61 * ka.toNatClampNeg)) + nk6))) rfl ?_
            refine z_isn C 3 [(3, .int (x5 - ((u3.2 0) ((100 + (61 * ka.toNatClampNeg)) + nk6)))), (0, .ref (a 0)), (1, .int ka), (4, .int (nI nk6))] dX6_yearAt_72 rfl (by decide) rfl ?_
            refine z_inc C 3 (nI nk6 - 1) [(4, .int (nI nk6 - 1)), (3, .int (x5 - ((u3.2 0) ((100 + (61 * ka.toNatClampNeg)) + nk6)))), (0, .ref (a 0)), (1, .int ka)] dX6_yearAt_73 rfl (zn_dn nk6) (by decide) rfl ?_
            refine z_go C 28 dX6_yearAt_76 (by decide) ?_
            refine z_lv [2, 3, 1, 0] [(0, .ref (a 0)), (1, .int ka), (3, .int (x5 - ((u3.2 0) ((100 + (61 * ka.toNatClampNeg)) + nk6)))), (4, .int (nI nk6 - 1))] rfl ?_
            exact ihk6 (x5 - ((u3.2 0) ((100 + (61 * ka.toNatClampNeg)) + nk6))) (by omega) hF
          · have hF := hF.trans (if_neg c9)
            refine z_il C dX6_yearAt_52 3 rfl ?_
            exact z_iret C hQ dX6_yearAt_54 (by rw [hF]; first | done | rfl) (by rw [hF]; first | done | rfl) (by decide) (by decide)
      exact LPk6 61 da (by omega) hF
    · have hF := hF.trans (if_pos c4)
      refine z_ic C dX6_yearAt_20 0 (by decide) ?_
      exact z_iret C hQ dX6_yearAt_21 (by rw [hF]; first | done | rfl) (by rw [hF]; first | done | rfl) (by decide) (by decide)
  refine z_iln C dX6_yearAt_5 2 rfl ?_
  refine z_if_lt C 13 dX6_yearAt_6 (by decide) (fun c2 => ?_) (fun c2 => ?_)
  · have hv1 := hv1.trans (if_pos c2)
    refine z_ic C dX6_yearAt_13 0 (by decide) ?_
    rw [hv1] at Jv1
    exact Jv1
  · have hv1 := hv1.trans (if_neg c2)
    refine z_ic C dX6_yearAt_9 1 (by decide) ?_
    refine z_go C 14 dX6_yearAt_10 (by decide) ?_
    rw [hv1] at Jv1
    exact Jv1
set_option maxHeartbeats 4000000 in
set_option maxRecDepth 100000 in
theorem mX6_common (l : Launch) (X : zX) (a : Nat → Nat) (g : zG) (ka : Int32) (kb : Int32) : CI l yX6_common wsX6_common 2 42 0 0 X (MW a X g) [.ref (a 0), .int ka, .int kb] ((fX6_common g ka kb).1) (MW a X ((fX6_common g ka kb).2)) := by
  obtain ⟨res, hF⟩ : ∃ z9r, z9r = fX6_common g ka kb := ⟨_, rfl⟩
  rw [← hF]
  refine ci_intro (cc := cX6_common) (ret := (some .int)) (maxL := 5) (by decide +kernel) rfl (Nat.le_of_ble_eq_true rfl) ?_
  intro p e s m args below meth c A Q C hQ
  have hX6 : ∀ w ∈ wsX60, w ∈ wsX6_common := by decide +kernel
  show Z p l e { frames := 2, cells := 0, slots := 0, locals := 42 } s m args below meth c X A 5 Q 0 0 (MW a X g) [(0, .ref (a 0)), (1, .int ka), (2, .int kb)] 0 []
  refine z_aln C dX6_common_0 0 rfl ?_
  obtain ⟨v1, hv1⟩ : ∃ z9v, z9v = ((if (fX6_isCell ka) = 0 then 0 else (if (fX6_isCell kb) = 0 then 0 else 1)) : Int32) := ⟨_, rfl⟩
  have hF := hF.trans (jn_at hv1)
  have Jv1 : Z p l e { frames := 2, cells := 0, slots := 0, locals := 42 } s m args below meth c X A 5 Q 0 0 (MW a X g) [(0, .ref (a 0)), (1, .int ka), (2, .int kb)] 20 [.int v1, .ref (a 0)] := by
    refine z_cVi0 (As := [.int v1]) (rest := []) C (mX6_asked l X a g v1 (by rw [hv1]; (repeat' split) <;> first | exact Or.inl rfl | exact Or.inr rfl)) gX6_common_X6_asked rfl ⟨rfl, by decide, by decide, (by decide : (parseMethodDescriptor yX6_asked.desc).map (fun d => d.parameters.length) = some 1)⟩ ⟨by decide, by decide⟩ ⟨by decide, by decide⟩ 0 6 rfl rfl (Nat.le_of_ble_eq_true rfl) dX6_common_20 rfl ?_
    obtain ⟨u4, hu4⟩ : ∃ z9u, z9u = (fX6_asked g v1) := ⟨_, rfl⟩
    rw [← hu4]
    have hF := hF.trans (jn_at hu4)
    refine z_if_ne C 28 dX6_common_23 (by decide) (fun c5 => ?_) (fun c5 => ?_)
    · have hF := hF.trans (if_neg c5)
      have hc2 := com_in hv1 (asked1 hu4 c5)
      have hk := isCell_in hc2.1
      have hk12 := zn_lt hk
      have hj := isCell_in hc2.2
      have hj12 := zn_lt hj
      refine z_ic C dX6_common_28 0 (by decide) ?_
      refine z_isn C 3 [(3, .int 0), (0, .ref (a 0)), (1, .int ka), (2, .int kb)] dX6_common_29 rfl (by decide) rfl ?_
      refine z_ic C dX6_common_30 0 (by decide) ?_
      refine z_is C [(4, .int 0), (3, .int 0), (0, .ref (a 0)), (1, .int ka), (2, .int kb)] dX6_common_31 (by decide) rfl ?_
      refine z_lv [2, 3, 4, 1, 0] [(0, .ref (a 0)), (1, .int ka), (2, .int kb), (3, .int 0), (4, .int 0)] rfl ?_
      have LPk7 : ∀ (nk7 k7 : Nat) (x6 : Int32), k7 + nk7 = 61 → res = fX6_common_L33 ka kb u4 nk7 k7 x6 → Z p l e { frames := 2, cells := 0, slots := 0, locals := 42 } s m args below meth c X A 5 Q 0 0 (MW a X u4.2) [(0, .ref (a 0)), (1, .int ka), (2, .int kb), (3, .int x6), (4, .int (nI k7))] 33 [] := by
        intro nk7
        induction nk7 with
        | zero =>
          intro k7 x6 hkk7 hF
          refine z_il C dX6_common_33 4 rfl ?_
          refine z_bp C dX6_common_35 61 (by decide) ?_
          refine z_ic_geN C k7 61 100 dX6_common_37 (by decide) rfl rfl (by omega) (by omega) (fun c8 => ?_) (fun c8 => ?_)
          rotate_left
          · exact absurd c8 (by omega)
          refine z_iln C dX6_common_100 3 rfl ?_
          exact z_iret C hQ dX6_common_101 (by rw [hF]; first | done | rfl) (by rw [hF]; first | done | rfl) (by decide) (by decide)
        | succ nk7 ihk7 =>
          intro k7 x6 hkk7 hF
          refine z_il C dX6_common_33 4 rfl ?_
          refine z_bp C dX6_common_35 61 (by decide) ?_
          refine z_ic_geN C k7 61 100 dX6_common_37 (by decide) rfl rfl (by omega) (by omega) (fun c9 => ?_) (fun c9 => ?_)
          · exact absurd c9 (by omega)
          refine z_iln C dX6_common_40 3 rfl ?_
          obtain ⟨v10, hv10⟩ : ∃ z9v, z9v = ((if ((u4.2 2) k7) = 0 then 0 else (if ((u4.2 0) ((100 + (61 * ka.toNatClampNeg)) + k7)) ≤ 0 then 0 else (if ((u4.2 0) ((100 + (61 * kb.toNatClampNeg)) + k7)) ≤ 0 then 0 else 1))) : Int32) := ⟨_, rfl⟩
          have hF := hF.trans (jn_at hv10)
          have Jv10 : Z p l e { frames := 2, cells := 0, slots := 0, locals := 42 } s m args below meth c X A 5 Q 0 0 (MW a X u4.2) [(0, .ref (a 0)), (1, .int ka), (2, .int kb), (3, .int x6), (4, .int (nI k7))] 92 [.int v10, .int x6] := by
            refine z_iadd C dX6_common_92 (x6 + v10) rfl ?_
            refine z_isn C 3 [(3, .int (x6 + v10)), (0, .ref (a 0)), (1, .int ka), (2, .int kb), (4, .int (nI k7))] dX6_common_93 rfl (by decide) rfl ?_
            refine z_inc C 4 (nI (k7 + 1)) [(4, .int (nI (k7 + 1))), (3, .int (x6 + v10)), (0, .ref (a 0)), (1, .int ka), (2, .int kb)] dX6_common_94 rfl (nI_add k7 1) (by decide) rfl ?_
            refine z_go C 33 dX6_common_97 (by decide) ?_
            refine z_lv [2, 3, 4, 1, 0] [(0, .ref (a 0)), (1, .int ka), (2, .int kb), (3, .int (x6 + v10)), (4, .int (nI (k7 + 1)))] rfl ?_
            exact ihk7 (k7 + 1) (x6 + v10) (by omega) hF
          refine z_aln C dX6_common_41 0 rfl ?_
          refine z_get (v := .ref (a 3)) C 0 7 dX6_common_42 rfl rfl rfl hX6 (by decide) (by decide +kernel) rfl ?_
          refine z_il C dX6_common_45 4 rfl ?_
          refine z_zald (f := (u4.2 2)) C 3 k7 dX6_common_47 rfl (by decide) rfl (by omega) ?_
          refine z_if_eq C 91 dX6_common_48 (by decide) (fun c11 => ?_) (fun c11 => ?_)
          · have hv10 := hv10.trans (if_pos c11)
            refine z_ic C dX6_common_91 0 (by decide) ?_
            rw [hv10] at Jv10
            exact Jv10
          · have hv10 := hv10.trans (if_neg c11)
            refine z_aln C dX6_common_51 0 rfl ?_
            refine z_get (v := .ref (a 1)) C 0 5 dX6_common_52 rfl rfl rfl hX6 (by decide) (by decide +kernel) rfl ?_
            refine z_bp C dX6_common_55 100 (by decide) ?_
            refine z_bp C dX6_common_57 61 (by decide) ?_
            refine z_iln C dX6_common_59 1 rfl ?_
            refine z_nm (show nI ka.toNatClampNeg = ka from (zn_in hk)) ?_
            refine z_imul C dX6_common_60 (nI (61 * ka.toNatClampNeg)) (pk_mul 61 ka.toNatClampNeg) ?_
            refine z_iadd C dX6_common_61 (nI (100 + (61 * ka.toNatClampNeg))) (nI_add 100 (61 * ka.toNatClampNeg)) ?_
            refine z_il C dX6_common_62 4 rfl ?_
            refine z_iadd C dX6_common_64 (nI ((100 + (61 * ka.toNatClampNeg)) + k7)) (nI_add (100 + (61 * ka.toNatClampNeg)) k7) ?_
            refine z_iald (f := (u4.2 0)) C 1 ((100 + (61 * ka.toNatClampNeg)) + k7) dX6_common_65 rfl (by decide) rfl (by omega) ?_
            refine z_if_le C 91 dX6_common_66 (by decide) (fun c12 => ?_) (fun c12 => ?_)
            · have hv10 := hv10.trans (if_pos c12)
              refine z_ic C dX6_common_91 0 (by decide) ?_
              rw [hv10] at Jv10
              exact Jv10
            · have hv10 := hv10.trans (if_neg c12)
              refine z_aln C dX6_common_69 0 rfl ?_
              refine z_get (v := .ref (a 1)) C 0 5 dX6_common_70 rfl rfl rfl hX6 (by decide) (by decide +kernel) rfl ?_
              refine z_bp C dX6_common_73 100 (by decide) ?_
              refine z_bp C dX6_common_75 61 (by decide) ?_
              refine z_iln C dX6_common_77 2 rfl ?_
              refine z_nm (show nI kb.toNatClampNeg = kb from (zn_in hj)) ?_
              refine z_imul C dX6_common_78 (nI (61 * kb.toNatClampNeg)) (pk_mul 61 kb.toNatClampNeg) ?_
              refine z_iadd C dX6_common_79 (nI (100 + (61 * kb.toNatClampNeg))) (nI_add 100 (61 * kb.toNatClampNeg)) ?_
              refine z_il C dX6_common_80 4 rfl ?_
              refine z_iadd C dX6_common_82 (nI ((100 + (61 * kb.toNatClampNeg)) + k7)) (nI_add (100 + (61 * kb.toNatClampNeg)) k7) ?_
              refine z_iald (f := (u4.2 0)) C 1 ((100 + (61 * kb.toNatClampNeg)) + k7) dX6_common_83 rfl (by decide) rfl (by omega) ?_
              refine z_if_le C 91 dX6_common_84 (by decide) (fun c13 => ?_) (fun c13 => ?_)
              · have hv10 := hv10.trans (if_pos c13)
                refine z_ic C dX6_common_91 0 (by decide) ?_
                rw [hv10] at Jv10
                exact Jv10
              · have hv10 := hv10.trans (if_neg c13)
                refine z_ic C dX6_common_87 1 (by decide) ?_
                refine z_go C 92 dX6_common_88 (by decide) ?_
                rw [hv10] at Jv10
                exact Jv10
      exact LPk7 61 0 0 (by omega) hF
    · have hF := hF.trans (if_pos c5)
      refine z_ic C dX6_common_26 0 (by decide) ?_
      exact z_iret C hQ dX6_common_27 (by rw [hF]; first | done | rfl) (by rw [hF]; first | done | rfl) (by decide) (by decide)
  refine z_iln C dX6_common_1 1 rfl ?_
  refine z_cSi0 (As := [.int ka]) (rest := [.ref (a 0)]) C (mX6_isCell l X ka ) gX6_common_X6_isCell rfl ⟨by decide, by decide, (by decide : (parseMethodDescriptor yX6_isCell.desc).map (fun d => d.parameters.length) = some 1)⟩ ⟨by decide, by decide⟩ ⟨by decide, by decide⟩ (Nat.le_of_ble_eq_true rfl) dX6_common_2 rfl ?_
  refine z_if_eq C 19 dX6_common_5 (by decide) (fun c2 => ?_) (fun c2 => ?_)
  · have hv1 := hv1.trans (if_pos c2)
    refine z_ic C dX6_common_19 0 (by decide) ?_
    rw [hv1] at Jv1
    exact Jv1
  · have hv1 := hv1.trans (if_neg c2)
    refine z_iln C dX6_common_8 2 rfl ?_
    refine z_cSi0 (As := [.int kb]) (rest := [.ref (a 0)]) C (mX6_isCell l X kb ) gX6_common_X6_isCell rfl ⟨by decide, by decide, (by decide : (parseMethodDescriptor yX6_isCell.desc).map (fun d => d.parameters.length) = some 1)⟩ ⟨by decide, by decide⟩ ⟨by decide, by decide⟩ (Nat.le_of_ble_eq_true rfl) dX6_common_9 rfl ?_
    refine z_if_eq C 19 dX6_common_12 (by decide) (fun c3 => ?_) (fun c3 => ?_)
    · have hv1 := hv1.trans (if_pos c3)
      refine z_ic C dX6_common_19 0 (by decide) ?_
      rw [hv1] at Jv1
      exact Jv1
    · have hv1 := hv1.trans (if_neg c3)
      refine z_ic C dX6_common_15 1 (by decide) ?_
      refine z_go C 20 dX6_common_16 (by decide) ?_
      rw [hv1] at Jv1
      exact Jv1
set_option maxHeartbeats 4000000 in
set_option maxRecDepth 100000 in
theorem mX6_floods (l : Launch) (X : zX) (a : Nat → Nat) (g : zG) : CI l yX6_floods wsX6_floods 0 0 0 0 X (MW a X g) [.ref (a 0)] ((fX6_floods g).1) (MW a X ((fX6_floods g).2)) := by
  obtain ⟨res, hF⟩ : ∃ z9r, z9r = fX6_floods g := ⟨_, rfl⟩
  rw [← hF]
  refine ci_intro (cc := cX6_floods) (ret := (some .int)) (maxL := 1) (by decide +kernel) rfl (Nat.le_of_ble_eq_true rfl) ?_
  intro p e s m args below meth c A Q C hQ
  have hX6 : ∀ w ∈ wsX60, w ∈ wsX6_floods := by decide +kernel
  show Z p l e { frames := 0, cells := 0, slots := 0, locals := 0 } s m args below meth c X A 1 Q 0 0 (MW a X g) [(0, .ref (a 0))] 0 []
  refine z_aln C dX6_floods_0 0 rfl ?_
  refine z_ic C dX6_floods_1 0 (by decide) ?_
  refine z_put C 0 0 (MW a X (va_up g 10 (upd (g 10) 0 0))) dX6_floods_2 rfl rfl hX6 tyX6_ok nmX6 (by decide) (by decide +kernel) rfl rfl rfl rfl rfl (Nat.le_of_ble_eq_true rfl) rfl ?_
  refine z_aln C dX6_floods_5 0 rfl ?_
  refine z_get (v := .ref (a 1)) C 0 5 dX6_floods_6 rfl rfl rfl hX6 (by decide) (by decide +kernel) rfl ?_
  refine z_bp C dX6_floods_9 90 (by decide) ?_
  refine z_iald (f := (g 0)) C 1 90 dX6_floods_11 rfl (by decide) rfl (by omega) ?_
  exact z_iret C hQ dX6_floods_12 (by rw [hF]; first | done | rfl) (by rw [hF]; first | done | rfl) (by decide) (by decide)
set_option maxHeartbeats 4000000 in
set_option maxRecDepth 100000 in
theorem mX6_flood (l : Launch) (X : zX) (a : Nat → Nat) (g : zG) (fa : Int32) (wa : Int32) (hy0 : ∃ fl, fl ≤ 720 ∧ g 0 90 = nI fl) : CI l yX6_flood wsX6_flood 1 22 0 0 X (MW a X g) [.ref (a 0), .int fa, .int wa] ((fX6_flood g fa wa).1) (MW a X ((fX6_flood g fa wa).2)) := by
  obtain ⟨res, hF⟩ : ∃ z9r, z9r = fX6_flood g fa wa := ⟨_, rfl⟩
  rw [← hF]
  refine ci_intro (cc := cX6_flood) (ret := (some .int)) (maxL := 3) (by decide +kernel) rfl (Nat.le_of_ble_eq_true rfl) ?_
  intro p e s m args below meth c A Q C hQ
  have hX6 : ∀ w ∈ wsX60, w ∈ wsX6_flood := by decide +kernel
  show Z p l e { frames := 1, cells := 0, slots := 0, locals := 22 } s m args below meth c X A 3 Q 0 0 (MW a X g) [(0, .ref (a 0)), (1, .int fa), (2, .int wa)] 0 []
  refine z_aln C dX6_flood_0 0 rfl ?_
  refine z_iln C dX6_flood_1 1 rfl ?_
  refine z_ic C dX6_flood_2 0 (by decide) ?_
  refine z_aln C dX6_flood_3 0 rfl ?_
  refine z_get (v := .ref (a 1)) C 0 5 dX6_flood_4 rfl rfl rfl hX6 (by decide) (by decide +kernel) rfl ?_
  refine z_bp C dX6_flood_7 90 (by decide) ?_
  refine z_iald (f := (g 0)) C 1 90 dX6_flood_9 rfl (by decide) rfl (by omega) ?_
  refine z_ic C dX6_flood_10 1 (by decide) ?_
  refine z_isub C dX6_flood_11 (((g 0) 90) - 1) rfl ?_
  refine z_cSi0 (As := [.int fa, .int 0, .int (((g 0) 90) - 1)]) (rest := [.ref (a 0)]) C (mX6_in l X fa 0 (((g 0) 90) - 1) ) gX6_flood_X6_in rfl ⟨by decide, by decide, (by decide : (parseMethodDescriptor yX6_in.desc).map (fun d => d.parameters.length) = some 3)⟩ ⟨by decide, by decide⟩ ⟨by decide, by decide⟩ (Nat.le_of_ble_eq_true rfl) dX6_flood_12 rfl ?_
  refine z_iln C dX6_flood_15 2 rfl ?_
  refine z_ic C dX6_flood_16 0 (by decide) ?_
  refine z_ic C dX6_flood_17 2 (by decide) ?_
  refine z_cSi0 (As := [.int wa, .int 0, .int 2]) (rest := [.int (fX6_in fa 0 (((g 0) 90) - 1)), .ref (a 0)]) C (mX6_in l X wa 0 2 ) gX6_flood_X6_in rfl ⟨by decide, by decide, (by decide : (parseMethodDescriptor yX6_in.desc).map (fun d => d.parameters.length) = some 3)⟩ ⟨by decide, by decide⟩ ⟨by decide, by decide⟩ (Nat.le_of_ble_eq_true rfl) dX6_flood_18 rfl ?_
  refine z_cVi0 (As := [.int (fX6_in fa 0 (((g 0) 90) - 1)), .int (fX6_in wa 0 2)]) (rest := []) C (mX6_asked_ l X a g (fX6_in fa 0 (((g 0) 90) - 1)) (fX6_in wa 0 2) ) gX6_flood_X6_asked_ rfl ⟨rfl, by decide, by decide, (by decide : (parseMethodDescriptor yX6_asked_.desc).map (fun d => d.parameters.length) = some 2)⟩ ⟨by decide, by decide⟩ ⟨by decide, by decide⟩ 0 6 rfl rfl (Nat.le_of_ble_eq_true rfl) dX6_flood_21 rfl ?_
  obtain ⟨u1, hu1⟩ : ∃ z9u, z9u = (fX6_asked_ g (fX6_in fa 0 (((g 0) 90) - 1)) (fX6_in wa 0 2)) := ⟨_, rfl⟩
  rw [← hu1]
  have hF := hF.trans (jn_at hu1)
  refine z_if_ne C 29 dX6_flood_24 (by decide) (fun c2 => ?_) (fun c2 => ?_)
  · have hF := hF.trans (if_neg c2)
    have hk := in_fl hy0 (asked2 hu1 c2).1
    have hk12 := zn_lt hk
    refine z_iln C dX6_flood_29 2 rfl ?_
    refine z_if_ne C 42 dX6_flood_30 (by decide) (fun c3 => ?_) (fun c3 => ?_)
    · have hF := hF.trans (if_neg c3)
      refine z_iln C dX6_flood_42 2 rfl ?_
      refine z_ic C dX6_flood_43 1 (by decide) ?_
      refine z_ic_ne C 56 dX6_flood_44 (by decide) (fun c4 => ?_) (fun c4 => ?_)
      · have hF := hF.trans (if_neg c4)
        refine z_aln C dX6_flood_56 0 rfl ?_
        refine z_get (v := .ref (a 6)) C 0 10 dX6_flood_57 rfl rfl rfl hX6 (by decide) (by decide +kernel) rfl ?_
        refine z_iln C dX6_flood_60 1 rfl ?_
        refine z_nm (show nI fa.toNatClampNeg = fa from (zn_in hk)) ?_
        refine z_iald (f := (u1.2 5)) C 6 fa.toNatClampNeg dX6_flood_61 rfl (by decide) rfl (by omega) ?_
        exact z_iret C hQ dX6_flood_62 (by rw [hF]; first | done | rfl) (by rw [hF]; first | done | rfl) (by decide) (by decide)
      · have hF := hF.trans (if_pos c4)
        refine z_aln C dX6_flood_47 0 rfl ?_
        refine z_get (v := .ref (a 5)) C 0 9 dX6_flood_48 rfl rfl rfl hX6 (by decide) (by decide +kernel) rfl ?_
        refine z_iln C dX6_flood_51 1 rfl ?_
        refine z_nm (show nI fa.toNatClampNeg = fa from (zn_in hk)) ?_
        refine z_iald (f := (u1.2 4)) C 5 fa.toNatClampNeg dX6_flood_52 rfl (by decide) rfl (by omega) ?_
        refine z_go C 62 dX6_flood_53 (by decide) ?_
        exact z_iret C hQ dX6_flood_62 (by rw [hF]; first | done | rfl) (by rw [hF]; first | done | rfl) (by decide) (by decide)
    · have hF := hF.trans (if_pos c3)
      refine z_aln C dX6_flood_33 0 rfl ?_
      refine z_get (v := .ref (a 4)) C 0 8 dX6_flood_34 rfl rfl rfl hX6 (by decide) (by decide +kernel) rfl ?_
      refine z_iln C dX6_flood_37 1 rfl ?_
      refine z_nm (show nI fa.toNatClampNeg = fa from (zn_in hk)) ?_
      refine z_iald (f := (u1.2 3)) C 4 fa.toNatClampNeg dX6_flood_38 rfl (by decide) rfl (by omega) ?_
      refine z_go C 62 dX6_flood_39 (by decide) ?_
      exact z_iret C hQ dX6_flood_62 (by rw [hF]; first | done | rfl) (by rw [hF]; first | done | rfl) (by decide) (by decide)
  · have hF := hF.trans (if_pos c2)
    refine z_ic C dX6_flood_27 0 (by decide) ?_
    exact z_iret C hQ dX6_flood_28 (by rw [hF]; first | done | rfl) (by rw [hF]; first | done | rfl) (by decide) (by decide)
set_option maxHeartbeats 4000000 in
set_option maxRecDepth 100000 in
theorem mX6_front (l : Launch) (X : zX) (a : Nat → Nat) (g : zG) (ya : Int32) (hy0 : vp_in (g 0 89) 61) : CI l yX6_front wsX6_front 1 22 0 0 X (MW a X g) [.ref (a 0), .int ya] ((fX6_front g ya).1) (MW a X ((fX6_front g ya).2)) := by
  obtain ⟨res, hF⟩ : ∃ z9r, z9r = fX6_front g ya := ⟨_, rfl⟩
  rw [← hF]
  refine ci_intro (cc := cX6_front) (ret := (some .int)) (maxL := 2) (by decide +kernel) rfl (Nat.le_of_ble_eq_true rfl) ?_
  intro p e s m args below meth c A Q C hQ
  have hX6 : ∀ w ∈ wsX60, w ∈ wsX6_front := by decide +kernel
  show Z p l e { frames := 1, cells := 0, slots := 0, locals := 22 } s m args below meth c X A 2 Q 0 0 (MW a X g) [(0, .ref (a 0)), (1, .int ya)] 0 []
  refine z_aln C dX6_front_0 0 rfl ?_
  refine z_iln C dX6_front_1 1 rfl ?_
  refine z_ic C dX6_front_2 0 (by decide) ?_
  refine z_aln C dX6_front_3 0 rfl ?_
  refine z_get (v := .ref (a 1)) C 0 5 dX6_front_4 rfl rfl rfl hX6 (by decide) (by decide +kernel) rfl ?_
  refine z_bp C dX6_front_7 89 (by decide) ?_
  refine z_iald (f := (g 0)) C 1 89 dX6_front_9 rfl (by decide) rfl (by omega) ?_
  refine z_cSi0 (As := [.int ya, .int 0, .int ((g 0) 89)]) (rest := [.ref (a 0)]) C (mX6_in l X ya 0 ((g 0) 89) ) gX6_front_X6_in rfl ⟨by decide, by decide, (by decide : (parseMethodDescriptor yX6_in.desc).map (fun d => d.parameters.length) = some 3)⟩ ⟨by decide, by decide⟩ ⟨by decide, by decide⟩ (Nat.le_of_ble_eq_true rfl) dX6_front_10 rfl ?_
  refine z_cVi0 (As := [.int (fX6_in ya 0 ((g 0) 89))]) (rest := []) C (mX6_asked l X a g (fX6_in ya 0 ((g 0) 89)) (in_01 _ _ _)) gX6_front_X6_asked rfl ⟨rfl, by decide, by decide, (by decide : (parseMethodDescriptor yX6_asked.desc).map (fun d => d.parameters.length) = some 1)⟩ ⟨by decide, by decide⟩ ⟨by decide, by decide⟩ 0 6 rfl rfl (Nat.le_of_ble_eq_true rfl) dX6_front_13 rfl ?_
  obtain ⟨u1, hu1⟩ : ∃ z9u, z9u = (fX6_asked g (fX6_in ya 0 ((g 0) 89))) := ⟨_, rfl⟩
  rw [← hu1]
  have hF := hF.trans (jn_at hu1)
  refine z_if_eq C 32 dX6_front_16 (by decide) (fun c2 => ?_) (fun c2 => ?_)
  · have hF := hF.trans (if_pos c2)
    refine z_ic C dX6_front_32 0 (by decide) ?_
    exact z_iret C hQ dX6_front_33 (by rw [hF]; first | done | rfl) (by rw [hF]; first | done | rfl) (by decide) (by decide)
  · have hF := hF.trans (if_neg c2)
    have hk := in_yr hy0 (asked1 hu1 c2)
    have hk12 := zn_lt hk
    refine z_aln C dX6_front_19 0 rfl ?_
    refine z_get (v := .ref (a 1)) C 0 5 dX6_front_20 rfl rfl rfl hX6 (by decide) (by decide +kernel) rfl ?_
    refine z_sp C dX6_front_23 900 (by decide) ?_
    refine z_iln C dX6_front_26 1 rfl ?_
    refine z_nm (show nI ya.toNatClampNeg = ya from (zn_in hk)) ?_
    refine z_iadd C dX6_front_27 (nI (900 + ya.toNatClampNeg)) (nI_add 900 ya.toNatClampNeg) ?_
    refine z_iald (f := (u1.2 0)) C 1 (900 + ya.toNatClampNeg) dX6_front_28 rfl (by decide) rfl (by omega) ?_
    refine z_go C 33 dX6_front_29 (by decide) ?_
    exact z_iret C hQ dX6_front_33 (by rw [hF]; first | done | rfl) (by rw [hF]; first | done | rfl) (by decide) (by decide)
set_option maxHeartbeats 4000000 in
set_option maxRecDepth 100000 in
theorem mX6_total (l : Launch) (X : zX) (a : Nat → Nat) (g : zG) (wa : Int32) : CI l yX6_total wsX6_total 2 45 0 0 X (MW a X g) [.ref (a 0), .int wa] ((fX6_total g wa).1) (MW a X ((fX6_total g wa).2)) := by
  obtain ⟨res, hF⟩ : ∃ z9r, z9r = fX6_total g wa := ⟨_, rfl⟩
  rw [← hF]
  refine ci_intro (cc := cX6_total) (ret := (some .int)) (maxL := 4) (by decide +kernel) rfl (Nat.le_of_ble_eq_true rfl) ?_
  intro p e s m args below meth c A Q C hQ
  have hX6 : ∀ w ∈ wsX60, w ∈ wsX6_total := by decide +kernel
  show Z p l e { frames := 2, cells := 0, slots := 0, locals := 45 } s m args below meth c X A 4 Q 0 0 (MW a X g) [(0, .ref (a 0)), (1, .int wa)] 0 []
  refine z_aln C dX6_total_0 0 rfl ?_
  refine z_iln C dX6_total_1 1 rfl ?_
  refine z_ic C dX6_total_2 0 (by decide) ?_
  refine z_ic C dX6_total_3 5 (by decide) ?_
  refine z_cSi0 (As := [.int wa, .int 0, .int 5]) (rest := [.ref (a 0)]) C (mX6_in l X wa 0 5 ) gX6_total_X6_in rfl ⟨by decide, by decide, (by decide : (parseMethodDescriptor yX6_in.desc).map (fun d => d.parameters.length) = some 3)⟩ ⟨by decide, by decide⟩ ⟨by decide, by decide⟩ (Nat.le_of_ble_eq_true rfl) dX6_total_4 rfl ?_
  refine z_cVi0 (As := [.int (fX6_in wa 0 5)]) (rest := []) C (mX6_asked l X a g (fX6_in wa 0 5) (in_01 _ _ _)) gX6_total_X6_asked rfl ⟨rfl, by decide, by decide, (by decide : (parseMethodDescriptor yX6_asked.desc).map (fun d => d.parameters.length) = some 1)⟩ ⟨by decide, by decide⟩ ⟨by decide, by decide⟩ 0 6 rfl rfl (Nat.le_of_ble_eq_true rfl) dX6_total_7 rfl ?_
  obtain ⟨u1, hu1⟩ : ∃ z9u, z9u = (fX6_asked g (fX6_in wa 0 5)) := ⟨_, rfl⟩
  rw [← hu1]
  have hF := hF.trans (jn_at hu1)
  refine z_if_ne C 15 dX6_total_10 (by decide) (fun c2 => ?_) (fun c2 => ?_)
  · have hF := hF.trans (if_neg c2)
    have hk := in_vp (n := 6) (asked1 hu1 c2) (by decide) (by decide)
    have hk12 := zn_lt hk
    refine z_ic C dX6_total_15 0 (by decide) ?_
    refine z_isn C 2 [(2, .int 0), (0, .ref (a 0)), (1, .int wa)] dX6_total_16 rfl (by decide) rfl ?_
    refine z_ic C dX6_total_17 0 (by decide) ?_
    refine z_isn C 3 [(3, .int 0), (2, .int 0), (0, .ref (a 0)), (1, .int wa)] dX6_total_18 rfl (by decide) rfl ?_
    refine z_lv [2, 3, 1, 0] [(0, .ref (a 0)), (1, .int wa), (2, .int 0), (3, .int 0)] rfl ?_
    have LPk4 : ∀ (nk4 k4 : Nat) (x3 : Int32), k4 + nk4 = 12 → res = fX6_total_L19 wa u1 nk4 k4 x3 → Z p l e { frames := 2, cells := 0, slots := 0, locals := 45 } s m args below meth c X A 4 Q 0 0 (MW a X u1.2) [(0, .ref (a 0)), (1, .int wa), (2, .int x3), (3, .int (nI k4))] 19 [] := by
      intro nk4
      induction nk4 with
      | zero =>
        intro k4 x3 hkk4 hF
        refine z_iln C dX6_total_19 3 rfl ?_
        refine z_bp C dX6_total_20 12 (by decide) ?_
        refine z_ic_geN C k4 12 43 dX6_total_22 (by decide) rfl rfl (by omega) (by omega) (fun c5 => ?_) (fun c5 => ?_)
        rotate_left
        · exact absurd c5 (by omega)
        refine z_iln C dX6_total_43 1 rfl ?_
        refine z_if_ne C 54 dX6_total_44 (by decide) (fun c6 => ?_) (fun c6 => ?_)
        · have hF := hF.trans (if_neg c6)
          refine z_iln C dX6_total_54 1 rfl ?_
          refine z_ic C dX6_total_55 1 (by decide) ?_
          refine z_ic_ne C 63 dX6_total_56 (by decide) (fun c7 => ?_) (fun c7 => ?_)
          · have hF := hF.trans (if_neg c7)
            refine z_aln C dX6_total_63 0 rfl ?_
            refine z_get (v := .ref (a 1)) C 0 5 dX6_total_64 rfl rfl rfl hX6 (by decide) (by decide +kernel) rfl ?_
            refine z_bp C dX6_total_67 84 (by decide) ?_
            refine z_iln C dX6_total_69 1 rfl ?_
            refine z_nm (show nI wa.toNatClampNeg = wa from (zn_in hk)) ?_
            refine z_iadd C dX6_total_70 (nI (84 + wa.toNatClampNeg)) (nI_add 84 wa.toNatClampNeg) ?_
            refine z_ic C dX6_total_71 2 (by decide) ?_
            refine z_isub C dX6_total_72 (nI ((84 + wa.toNatClampNeg) - 2)) (pk_sub (a := (84 + wa.toNatClampNeg)) (b := 2) (by omega)) ?_
            refine z_iald (f := (u1.2 0)) C 1 ((84 + wa.toNatClampNeg) - 2) dX6_total_73 rfl (by decide) rfl (by omega) ?_
            exact z_iret C hQ dX6_total_74 (by rw [hF]; first | done | rfl) (by rw [hF]; first | done | rfl) (by decide) (by decide)
          · have hF := hF.trans (if_pos c7)
            refine z_iln C dX6_total_59 2 rfl ?_
            refine z_go C 74 dX6_total_60 (by decide) ?_
            exact z_iret C hQ dX6_total_74 (by rw [hF]; first | done | rfl) (by rw [hF]; first | done | rfl) (by decide) (by decide)
        · have hF := hF.trans (if_pos c6)
          refine z_aln C dX6_total_47 0 rfl ?_
          refine z_cVi0 (As := []) (rest := []) C (mX6_allIce l X a u1.2 ) gX6_total_X6_allIce rfl ⟨rfl, by decide, by decide, (by decide : (parseMethodDescriptor yX6_allIce.desc).map (fun d => d.parameters.length) = some 0)⟩ ⟨by decide, by decide⟩ ⟨by decide, by decide⟩ 0 6 rfl rfl (Nat.le_of_ble_eq_true rfl) dX6_total_48 rfl ?_
          refine z_go C 74 dX6_total_51 (by decide) ?_
          exact z_iret C hQ dX6_total_74 (by rw [hF]; first | done | rfl) (by rw [hF]; first | done | rfl) (by decide) (by decide)
      | succ nk4 ihk4 =>
        intro k4 x3 hkk4 hF
        refine z_iln C dX6_total_19 3 rfl ?_
        refine z_bp C dX6_total_20 12 (by decide) ?_
        refine z_ic_geN C k4 12 43 dX6_total_22 (by decide) rfl rfl (by omega) (by omega) (fun c8 => ?_) (fun c8 => ?_)
        · exact absurd c8 (by omega)
        refine z_iln C dX6_total_25 2 rfl ?_
        refine z_aln C dX6_total_26 0 rfl ?_
        refine z_get (v := .ref (a 1)) C 0 5 dX6_total_27 rfl rfl rfl hX6 (by decide) (by decide +kernel) rfl ?_
        refine z_bp C dX6_total_30 24 (by decide) ?_
        refine z_iln C dX6_total_32 3 rfl ?_
        refine z_iadd C dX6_total_33 (nI (24 + k4)) (nI_add 24 k4) ?_
        refine z_iald (f := (u1.2 0)) C 1 (24 + k4) dX6_total_34 rfl (by decide) rfl (by omega) ?_
        refine z_iadd C dX6_total_35 (x3 + ((u1.2 0) (24 + k4))) rfl ?_
        refine z_isn C 2 [(2, .int (x3 + ((u1.2 0) (24 + k4)))), (0, .ref (a 0)), (1, .int wa), (3, .int (nI k4))] dX6_total_36 rfl (by decide) rfl ?_
        refine z_inc C 3 (nI (k4 + 1)) [(3, .int (nI (k4 + 1))), (2, .int (x3 + ((u1.2 0) (24 + k4)))), (0, .ref (a 0)), (1, .int wa)] dX6_total_37 rfl (nI_add k4 1) (by decide) rfl ?_
        refine z_go C 19 dX6_total_40 (by decide) ?_
        refine z_lv [2, 3, 1, 0] [(0, .ref (a 0)), (1, .int wa), (2, .int (x3 + ((u1.2 0) (24 + k4)))), (3, .int (nI (k4 + 1)))] rfl ?_
        exact ihk4 (k4 + 1) (x3 + ((u1.2 0) (24 + k4))) (by omega) hF
    exact LPk4 12 0 0 (by omega) hF
  · have hF := hF.trans (if_pos c2)
    refine z_ic C dX6_total_13 0 (by decide) ?_
    exact z_iret C hQ dX6_total_14 (by rw [hF]; first | done | rfl) (by rw [hF]; first | done | rfl) (by decide) (by decide)
set_option maxHeartbeats 4000000 in
set_option maxRecDepth 100000 in
theorem mX6_iceAnew (l : Launch) (X : zX) (a : Nat → Nat) (g : zG) : CI l yX6_iceAnew wsX6_iceAnew 0 0 0 0 X (MW a X g) [.ref (a 0)] ((fX6_iceAnew g).1) (MW a X ((fX6_iceAnew g).2)) := by
  obtain ⟨res, hF⟩ : ∃ z9r, z9r = fX6_iceAnew g := ⟨_, rfl⟩
  rw [← hF]
  refine ci_intro (cc := cX6_iceAnew) (ret := (some .int)) (maxL := 1) (by decide +kernel) rfl (Nat.le_of_ble_eq_true rfl) ?_
  intro p e s m args below meth c A Q C hQ
  have hX6 : ∀ w ∈ wsX60, w ∈ wsX6_iceAnew := by decide +kernel
  show Z p l e { frames := 0, cells := 0, slots := 0, locals := 0 } s m args below meth c X A 1 Q 0 0 (MW a X g) [(0, .ref (a 0))] 0 []
  refine z_aln C dX6_iceAnew_0 0 rfl ?_
  refine z_ic C dX6_iceAnew_1 0 (by decide) ?_
  refine z_put C 0 0 (MW a X (va_up g 10 (upd (g 10) 0 0))) dX6_iceAnew_2 rfl rfl hX6 tyX6_ok nmX6 (by decide) (by decide +kernel) rfl rfl rfl rfl rfl (Nat.le_of_ble_eq_true rfl) rfl ?_
  refine z_aln C dX6_iceAnew_5 0 rfl ?_
  refine z_get (v := .ref (a 1)) C 0 5 dX6_iceAnew_6 rfl rfl rfl hX6 (by decide) (by decide +kernel) rfl ?_
  refine z_bp C dX6_iceAnew_9 87 (by decide) ?_
  refine z_iald (f := (g 0)) C 1 87 dX6_iceAnew_11 rfl (by decide) rfl (by omega) ?_
  refine z_aln C dX6_iceAnew_12 0 rfl ?_
  refine z_get (v := .ref (a 1)) C 0 5 dX6_iceAnew_13 rfl rfl rfl hX6 (by decide) (by decide +kernel) rfl ?_
  refine z_bp C dX6_iceAnew_16 86 (by decide) ?_
  refine z_iald (f := (g 0)) C 1 86 dX6_iceAnew_18 rfl (by decide) rfl (by omega) ?_
  refine z_iadd C dX6_iceAnew_19 (((g 0) 87) + ((g 0) 86)) rfl ?_
  refine z_aln C dX6_iceAnew_20 0 rfl ?_
  refine z_get (v := .ref (a 1)) C 0 5 dX6_iceAnew_21 rfl rfl rfl hX6 (by decide) (by decide +kernel) rfl ?_
  refine z_bp C dX6_iceAnew_24 88 (by decide) ?_
  refine z_iald (f := (g 0)) C 1 88 dX6_iceAnew_26 rfl (by decide) rfl (by omega) ?_
  refine z_isub C dX6_iceAnew_27 ((((g 0) 87) + ((g 0) 86)) - ((g 0) 88)) rfl ?_
  refine z_aln C dX6_iceAnew_28 0 rfl ?_
  refine z_get (v := .ref (a 1)) C 0 5 dX6_iceAnew_29 rfl rfl rfl hX6 (by decide) (by decide +kernel) rfl ?_
  refine z_bp C dX6_iceAnew_32 85 (by decide) ?_
  refine z_iald (f := (g 0)) C 1 85 dX6_iceAnew_34 rfl (by decide) rfl (by omega) ?_
  refine z_isub C dX6_iceAnew_35 (((((g 0) 87) + ((g 0) 86)) - ((g 0) 88)) - ((g 0) 85)) rfl ?_
  exact z_iret C hQ dX6_iceAnew_36 (by rw [hF]; first | done | rfl) (by rw [hF]; first | done | rfl) (by decide) (by decide)
set_option maxHeartbeats 4000000 in
set_option maxRecDepth 100000 in
theorem mX6_miss (l : Launch) (X : zX) (a : Nat → Nat) (g : zG) (fa : Int32) (hy0 : ∃ fl, fl ≤ 10 ∧ g 10 5 = nI fl) : CI l yX6_miss wsX6_miss 1 22 0 0 X (MW a X g) [.ref (a 0), .int fa] ((fX6_miss g fa).1) (MW a X ((fX6_miss g fa).2)) := by
  obtain ⟨res, hF⟩ : ∃ z9r, z9r = fX6_miss g fa := ⟨_, rfl⟩
  rw [← hF]
  refine ci_intro (cc := cX6_miss) (ret := (some .int)) (maxL := 2) (by decide +kernel) rfl (Nat.le_of_ble_eq_true rfl) ?_
  intro p e s m args below meth c A Q C hQ
  have hX6 : ∀ w ∈ wsX60, w ∈ wsX6_miss := by decide +kernel
  show Z p l e { frames := 1, cells := 0, slots := 0, locals := 22 } s m args below meth c X A 2 Q 0 0 (MW a X g) [(0, .ref (a 0)), (1, .int fa)] 0 []
  refine z_aln C dX6_miss_0 0 rfl ?_
  refine z_iln C dX6_miss_1 1 rfl ?_
  refine z_ic C dX6_miss_2 0 (by decide) ?_
  refine z_aln C dX6_miss_3 0 rfl ?_
  refine z_get (v := .int (g 10 5)) C 0 11 dX6_miss_4 rfl rfl rfl hX6 (by decide) (by decide +kernel) rfl ?_
  refine z_ic C dX6_miss_7 1 (by decide) ?_
  refine z_isub C dX6_miss_8 ((g 10 5) - 1) rfl ?_
  refine z_cSi0 (As := [.int fa, .int 0, .int ((g 10 5) - 1)]) (rest := [.ref (a 0)]) C (mX6_in l X fa 0 ((g 10 5) - 1) ) gX6_miss_X6_in rfl ⟨by decide, by decide, (by decide : (parseMethodDescriptor yX6_in.desc).map (fun d => d.parameters.length) = some 3)⟩ ⟨by decide, by decide⟩ ⟨by decide, by decide⟩ (Nat.le_of_ble_eq_true rfl) dX6_miss_9 rfl ?_
  refine z_cVi0 (As := [.int (fX6_in fa 0 ((g 10 5) - 1))]) (rest := []) C (mX6_asked l X a g (fX6_in fa 0 ((g 10 5) - 1)) (in_01 _ _ _)) gX6_miss_X6_asked rfl ⟨rfl, by decide, by decide, (by decide : (parseMethodDescriptor yX6_asked.desc).map (fun d => d.parameters.length) = some 1)⟩ ⟨by decide, by decide⟩ ⟨by decide, by decide⟩ 0 6 rfl rfl (Nat.le_of_ble_eq_true rfl) dX6_miss_12 rfl ?_
  obtain ⟨u1, hu1⟩ : ∃ z9u, z9u = (fX6_asked g (fX6_in fa 0 ((g 10 5) - 1))) := ⟨_, rfl⟩
  rw [← hu1]
  have hF := hF.trans (jn_at hu1)
  refine z_if_eq C 27 dX6_miss_15 (by decide) (fun c2 => ?_) (fun c2 => ?_)
  · have hF := hF.trans (if_pos c2)
    refine z_ic C dX6_miss_27 0 (by decide) ?_
    exact z_iret C hQ dX6_miss_28 (by rw [hF]; first | done | rfl) (by rw [hF]; first | done | rfl) (by decide) (by decide)
  · have hF := hF.trans (if_neg c2)
    have hk := in_fc hy0 (asked1 hu1 c2)
    have hk12 := zn_lt hk
    refine z_aln C dX6_miss_18 0 rfl ?_
    refine z_get (v := .ref (a 9)) C 0 14 dX6_miss_19 rfl rfl rfl hX6 (by decide) (by decide +kernel) rfl ?_
    refine z_iln C dX6_miss_22 1 rfl ?_
    refine z_nm (show nI fa.toNatClampNeg = fa from (zn_in hk)) ?_
    refine z_iald (f := (u1.2 8)) C 9 fa.toNatClampNeg dX6_miss_23 rfl (by decide) rfl (by omega) ?_
    refine z_go C 28 dX6_miss_24 (by decide) ?_
    exact z_iret C hQ dX6_miss_28 (by rw [hF]; first | done | rfl) (by rw [hF]; first | done | rfl) (by decide) (by decide)
set_option maxHeartbeats 4000000 in
set_option maxRecDepth 100000 in
theorem mX6_would (l : Launch) (X : zX) (a : Nat → Nat) (g : zG) (pa : Int32) (ka : Int32) (wa : Int32) (b yr : Nat) (hy0 : MP g b yr (12 * yr) yr) (hy1 : b + 4800 ≤ 1000000) : CI l yX6_would wsX6_would 5 117 0 0 X (MW a X g) [.ref (a 0), .int pa, .int ka, .int wa] ((fX6_would g pa ka wa).1) (MW a X ((fX6_would g pa ka wa).2)) := by
  obtain ⟨res, hF⟩ : ∃ z9r, z9r = fX6_would g pa ka wa := ⟨_, rfl⟩
  rw [← hF]
  refine ci_intro (cc := cX6_would) (ret := (some .int)) (maxL := 6) (by decide +kernel) rfl (Nat.le_of_ble_eq_true rfl) ?_
  intro p e s m args below meth c A Q C hQ
  have hX6 : ∀ w ∈ wsX60, w ∈ wsX6_would := by decide +kernel
  show Z p l e { frames := 5, cells := 0, slots := 0, locals := 117 } s m args below meth c X A 6 Q 0 0 (MW a X g) [(0, .ref (a 0)), (1, .int pa), (2, .int ka), (3, .int wa)] 0 []
  obtain ⟨v1, hv1⟩ : ∃ z9v, z9v = ((if (fX6_in pa 1 20) = 0 then 0 else (if (fX6_in wa 0 9) = 0 then 0 else 1)) : Int32) := ⟨_, rfl⟩
  have hF := hF.trans (jn_at hv1)
  have Jv1 : Z p l e { frames := 5, cells := 0, slots := 0, locals := 117 } s m args below meth c X A 6 Q 0 0 (MW a X g) [(0, .ref (a 0)), (1, .int pa), (2, .int ka), (3, .int wa)] 25 [.int v1] := by
    refine z_is C [(4, .int v1), (0, .ref (a 0)), (1, .int pa), (2, .int ka), (3, .int wa)] dX6_would_25 (by decide) rfl ?_
    refine z_aln C dX6_would_27 1 rfl ?_
    refine z_iln C dX6_would_28 3 rfl ?_
    refine z_cSi0 (As := [.int ka]) (rest := [.ref (a 0)]) C (mX6_isCell l X ka ) gX6_would_X6_isCell rfl ⟨by decide, by decide, (by decide : (parseMethodDescriptor yX6_isCell.desc).map (fun d => d.parameters.length) = some 1)⟩ ⟨by decide, by decide⟩ ⟨by decide, by decide⟩ (Nat.le_of_ble_eq_true rfl) dX6_would_29 rfl ?_
    refine z_il C dX6_would_32 0 rfl ?_
    obtain ⟨v4, hv4⟩ : ∃ z9v, z9v = ((if v1 = 0 then 0 else (if 60 < (((g 0) 89) + pa) then 0 else 1)) : Int32) := ⟨_, rfl⟩
    have hF := hF.trans (jn_at hv4)
    have Jv4 : Z p l e { frames := 5, cells := 0, slots := 0, locals := 117 } s m args below meth c X A 6 Q 0 0 (MW a X g) [(0, .ref (a 0)), (1, .int pa), (2, .int ka), (3, .int wa), (4, .int v1)] 58 [.int v4, .int v1, .int (fX6_isCell ka), .ref (a 0)] := by
      refine z_cVi0 (As := [.int (fX6_isCell ka), .int v1, .int v4]) (rest := []) C (mX6_asked__ l X a g (fX6_isCell ka) v1 v4 ) gX6_would_X6_asked__ rfl ⟨rfl, by decide, by decide, (by decide : (parseMethodDescriptor yX6_asked__.desc).map (fun d => d.parameters.length) = some 3)⟩ ⟨by decide, by decide⟩ ⟨by decide, by decide⟩ 0 6 rfl rfl (Nat.le_of_ble_eq_true rfl) dX6_would_58 rfl ?_
      obtain ⟨u7, hu7⟩ : ∃ z9u, z9u = (fX6_asked__ g (fX6_isCell ka) v1 v4) := ⟨_, rfl⟩
      rw [← hu7]
      have hF := hF.trans (jn_at hu7)
      refine z_if_ne C 66 dX6_would_61 (by decide) (fun c8 => ?_) (fun c8 => ?_)
      · have hF := hF.trans (if_neg c8)
        have hk := isCell_in ((asked3 hu7 c8).1)
        have hk12 := zn_lt hk
        have hp := would_p hv1 (asked3 hu7 c8).2.1
        have hpl := zn_lt hp
        have hpy := year_le (mp_year hy0) (mp_yr hy0) hp hv4 (asked3 hu7 c8).2.2
        have hmk := mp_keeps0 (mp_asked3 hy0 hu7)
        refine z_aln C dX6_would_66 0 rfl ?_
        refine z_ic C dX6_would_67 0 (by decide) ?_
        refine z_cVv0 (As := [.int 0]) (rest := []) C (mX6_keeps l X a u7.2 0 ) gX6_would_X6_keeps rfl ⟨rfl, by decide, by decide, (by decide : (parseMethodDescriptor yX6_keeps.desc).map (fun d => d.parameters.length) = some 1)⟩ ⟨by decide, by decide⟩ ⟨by decide, by decide⟩ 0 6 rfl rfl (Nat.le_of_ble_eq_true rfl) dX6_would_68 rfl ?_
        obtain ⟨u9, hu9⟩ : ∃ z9u, z9u = (fX6_keeps u7.2 0) := ⟨_, rfl⟩
        rw [← hu9]
        have hF := hF.trans (jn_at hu9)
        rw [← hu9] at hmk
        refine z_aln C dX6_would_71 0 rfl ?_
        refine z_iln C dX6_would_72 1 rfl ?_
        refine z_nm (show nI pa.toNatClampNeg = pa from (zn_in hp)) ?_
        refine z_cVv0 (As := [.int (nI pa.toNatClampNeg)]) (rest := []) C (mX6_passes l X a u9 pa.toNatClampNeg _ _ _ _ hmk (by omega) (by omega) (by omega) (by omega)) gX6_would_X6_passes rfl ⟨rfl, by decide, by decide, (by decide : (parseMethodDescriptor yX6_passes.desc).map (fun d => d.parameters.length) = some 1)⟩ ⟨by decide, by decide⟩ ⟨by decide, by decide⟩ 0 6 rfl rfl (Nat.le_of_ble_eq_true rfl) dX6_would_73 rfl ?_
        obtain ⟨u10, hu10⟩ : ∃ z9u, z9u = (fX6_passes u9 pa.toNatClampNeg) := ⟨_, rfl⟩
        rw [← hu10]
        have hF := hF.trans (jn_at hu10)
        refine z_aln C dX6_would_76 0 rfl ?_
        refine z_iln C dX6_would_77 2 rfl ?_
        refine z_nm (show nI ka.toNatClampNeg = ka from (zn_in hk)) ?_
        refine z_iln C dX6_would_78 3 rfl ?_
        refine z_cVi0 (As := [.int (nI ka.toNatClampNeg), .int wa]) (rest := []) C (mX6_tells l X a u10 ka.toNatClampNeg wa hk12) gX6_would_X6_tells rfl ⟨rfl, by decide, by decide, (by decide : (parseMethodDescriptor yX6_tells.desc).map (fun d => d.parameters.length) = some 2)⟩ ⟨by decide, by decide⟩ ⟨by decide, by decide⟩ 0 6 rfl rfl (Nat.le_of_ble_eq_true rfl) dX6_would_79 rfl ?_
        refine z_is C [(5, .int (fX6_tells u10 ka.toNatClampNeg wa)), (0, .ref (a 0)), (1, .int pa), (2, .int ka), (3, .int wa), (4, .int v1)] dX6_would_82 (by decide) rfl ?_
        refine z_aln C dX6_would_84 1 rfl ?_
        refine z_ic C dX6_would_85 1 (by decide) ?_
        refine z_cVv0 (As := [.int 1]) (rest := []) C (mX6_keeps l X a u10 1 ) gX6_would_X6_keeps rfl ⟨rfl, by decide, by decide, (by decide : (parseMethodDescriptor yX6_keeps.desc).map (fun d => d.parameters.length) = some 1)⟩ ⟨by decide, by decide⟩ ⟨by decide, by decide⟩ 0 6 rfl rfl (Nat.le_of_ble_eq_true rfl) dX6_would_86 rfl ?_
        obtain ⟨u11, hu11⟩ : ∃ z9u, z9u = (fX6_keeps u10 1) := ⟨_, rfl⟩
        rw [← hu11]
        have hF := hF.trans (jn_at hu11)
        refine z_il C dX6_would_89 0 rfl ?_
        exact z_iret C hQ dX6_would_91 (by rw [hF]; first | done | rfl) (by rw [hF]; first | done | rfl) (by decide) (by decide)
      · have hF := hF.trans (if_pos c8)
        refine z_ic C dX6_would_64 0 (by decide) ?_
        exact z_iret C hQ dX6_would_65 (by rw [hF]; first | done | rfl) (by rw [hF]; first | done | rfl) (by decide) (by decide)
    refine z_il C dX6_would_34 0 rfl ?_
    refine z_if_eq C 57 dX6_would_36 (by decide) (fun c5 => ?_) (fun c5 => ?_)
    · have hv4 := hv4.trans (if_pos c5)
      refine z_ic C dX6_would_57 0 (by decide) ?_
      refine z_lv [1, 2, 3, 4, 0] [(0, .ref (a 0)), (1, .int pa), (2, .int ka), (3, .int wa), (4, .int v1)] rfl ?_
      rw [hv4] at Jv4
      exact Jv4
    · have hv4 := hv4.trans (if_neg c5)
      refine z_aln C dX6_would_39 1 rfl ?_
      refine z_get (v := .ref (a 1)) C 0 5 dX6_would_40 rfl rfl rfl hX6 (by decide) (by decide +kernel) rfl ?_
      refine z_bp C dX6_would_43 89 (by decide) ?_
      refine z_iald (f := (g 0)) C 1 89 dX6_would_45 rfl (by decide) rfl (by omega) ?_
      refine z_iln C dX6_would_46 2 rfl ?_
      refine z_iadd C dX6_would_47 (((g 0) 89) + pa) rfl ?_
      refine z_bp C dX6_would_48 60 (by decide) ?_
      refine z_ic_gt C 57 dX6_would_50 (by decide) (fun c6 => ?_) (fun c6 => ?_)
      · have hv4 := hv4.trans (if_pos c6)
        refine z_ic C dX6_would_57 0 (by decide) ?_
        refine z_lv [1, 2, 3, 4, 0] [(0, .ref (a 0)), (1, .int pa), (2, .int ka), (3, .int wa), (4, .int v1)] rfl ?_
        rw [hv4] at Jv4
        exact Jv4
      · have hv4 := hv4.trans (if_neg c6)
        refine z_ic C dX6_would_53 1 (by decide) ?_
        refine z_go C 58 dX6_would_54 (by decide) ?_
        refine z_lv [1, 2, 3, 4, 0] [(0, .ref (a 0)), (1, .int pa), (2, .int ka), (3, .int wa), (4, .int v1)] rfl ?_
        rw [hv4] at Jv4
        exact Jv4
  refine z_iln C dX6_would_0 1 rfl ?_
  refine z_ic C dX6_would_1 1 (by decide) ?_
  refine z_bp C dX6_would_2 20 (by decide) ?_
  refine z_cSi0 (As := [.int pa, .int 1, .int 20]) (rest := []) C (mX6_in l X pa 1 20 ) gX6_would_X6_in rfl ⟨by decide, by decide, (by decide : (parseMethodDescriptor yX6_in.desc).map (fun d => d.parameters.length) = some 3)⟩ ⟨by decide, by decide⟩ ⟨by decide, by decide⟩ (Nat.le_of_ble_eq_true rfl) dX6_would_4 rfl ?_
  refine z_if_eq C 24 dX6_would_7 (by decide) (fun c2 => ?_) (fun c2 => ?_)
  · have hv1 := hv1.trans (if_pos c2)
    refine z_ic C dX6_would_24 0 (by decide) ?_
    rw [hv1] at Jv1
    exact Jv1
  · have hv1 := hv1.trans (if_neg c2)
    refine z_iln C dX6_would_10 3 rfl ?_
    refine z_ic C dX6_would_11 0 (by decide) ?_
    refine z_bp C dX6_would_12 9 (by decide) ?_
    refine z_cSi0 (As := [.int wa, .int 0, .int 9]) (rest := []) C (mX6_in l X wa 0 9 ) gX6_would_X6_in rfl ⟨by decide, by decide, (by decide : (parseMethodDescriptor yX6_in.desc).map (fun d => d.parameters.length) = some 3)⟩ ⟨by decide, by decide⟩ ⟨by decide, by decide⟩ (Nat.le_of_ble_eq_true rfl) dX6_would_14 rfl ?_
    refine z_if_eq C 24 dX6_would_17 (by decide) (fun c3 => ?_) (fun c3 => ?_)
    · have hv1 := hv1.trans (if_pos c3)
      refine z_ic C dX6_would_24 0 (by decide) ?_
      rw [hv1] at Jv1
      exact Jv1
    · have hv1 := hv1.trans (if_neg c3)
      refine z_ic C dX6_would_20 1 (by decide) ?_
      refine z_go C 25 dX6_would_21 (by decide) ?_
      rw [hv1] at Jv1
      exact Jv1
set_option maxHeartbeats 4000000 in
set_option maxRecDepth 100000 in
theorem mX6_forecast (l : Launch) (X : zX) (a : Nat → Nat) (g : zG) (pa : Int32) (b yr : Nat) (hy0 : MP g b yr (12 * yr) yr) (hy1 : b + 4800 ≤ 1000000) (hy2 : ∃ fl, fl ≤ 10 ∧ g 10 5 = nI fl) : CI l yX6_forecast wsX6_forecast 5 117 0 0 X (MW a X g) [.ref (a 0), .int pa] ((fX6_forecast g pa).1) (MW a X ((fX6_forecast g pa).2)) := by
  obtain ⟨res, hF⟩ : ∃ z9r, z9r = fX6_forecast g pa := ⟨_, rfl⟩
  rw [← hF]
  refine ci_intro (cc := cX6_forecast) (ret := (some .int)) (maxL := 3) (by decide +kernel) rfl (Nat.le_of_ble_eq_true rfl) ?_
  intro p e s m args below meth c A Q C hQ
  have hX6 : ∀ w ∈ wsX60, w ∈ wsX6_forecast := by decide +kernel
  show Z p l e { frames := 5, cells := 0, slots := 0, locals := 117 } s m args below meth c X A 3 Q 0 0 (MW a X g) [(0, .ref (a 0)), (1, .int pa)] 0 []
  refine z_iln C dX6_forecast_0 1 rfl ?_
  refine z_ic C dX6_forecast_1 1 (by decide) ?_
  refine z_bp C dX6_forecast_2 20 (by decide) ?_
  refine z_cSi0 (As := [.int pa, .int 1, .int 20]) (rest := []) C (mX6_in l X pa 1 20 ) gX6_forecast_X6_in rfl ⟨by decide, by decide, (by decide : (parseMethodDescriptor yX6_in.desc).map (fun d => d.parameters.length) = some 3)⟩ ⟨by decide, by decide⟩ ⟨by decide, by decide⟩ (Nat.le_of_ble_eq_true rfl) dX6_forecast_4 rfl ?_
  obtain ⟨v1, hv1⟩ : ∃ z9v, z9v = ((fX6_in pa 1 20) : Int32) := ⟨_, rfl⟩
  have hF := hF.trans (jn_at hv1)
  refine z_nm hv1 ?_
  refine z_isn C 2 [(2, .int v1), (0, .ref (a 0)), (1, .int pa)] dX6_forecast_7 rfl (by decide) rfl ?_
  refine z_aln C dX6_forecast_8 1 rfl ?_
  refine z_iln C dX6_forecast_9 0 rfl ?_
  obtain ⟨v2, hv2⟩ : ∃ z9v, z9v = ((if v1 = 0 then 0 else (if 60 < (((g 0) 89) + pa) then 0 else (if 10 ≤ (g 10 5) then 0 else 1))) : Int32) := ⟨_, rfl⟩
  have hF := hF.trans (jn_at hv2)
  have Jv2 : Z p l e { frames := 5, cells := 0, slots := 0, locals := 117 } s m args below meth c X A 3 Q 0 0 (MW a X g) [(0, .ref (a 0)), (1, .int pa), (2, .int v1)] 42 [.int v2, .int v1, .ref (a 0)] := by
    refine z_cVi0 (As := [.int v1, .int v2]) (rest := []) C (mX6_asked_ l X a g v1 v2 ) gX6_forecast_X6_asked_ rfl ⟨rfl, by decide, by decide, (by decide : (parseMethodDescriptor yX6_asked_.desc).map (fun d => d.parameters.length) = some 2)⟩ ⟨by decide, by decide⟩ ⟨by decide, by decide⟩ 0 6 rfl rfl (Nat.le_of_ble_eq_true rfl) dX6_forecast_42 rfl ?_
    obtain ⟨u6, hu6⟩ : ∃ z9u, z9u = (fX6_asked_ g v1 v2) := ⟨_, rfl⟩
    rw [← hu6]
    have hF := hF.trans (jn_at hu6)
    refine z_if_ne C 50 dX6_forecast_45 (by decide) (fun c7 => ?_) (fun c7 => ?_)
    · have hF := hF.trans (if_neg c7)
      have hp := fc_p hv1 (asked2 hu6 c7).1
      have hpl := zn_lt hp
      have hpy := year_le2 (mp_year hy0) (mp_yr hy0) hp hv2 (asked2 hu6 c7).2
      have hfc := fc_lt hy2 hv2 (asked2 hu6 c7).2
      have hf1 : u6.2 10 5 = g 10 5 := asked2_r hu6
      have hmk0 := mp_asked2 hy0 hu6
      refine z_aln C dX6_forecast_50 0 rfl ?_
      refine z_get (v := .ref (a 7)) C 0 12 dX6_forecast_51 rfl rfl rfl hX6 (by decide) (by decide +kernel) rfl ?_
      refine z_aln C dX6_forecast_54 0 rfl ?_
      refine z_get (v := .int (u6.2 10 5)) C 0 11 dX6_forecast_55 rfl rfl rfl hX6 (by decide) (by decide +kernel) rfl ?_
      refine z_nm (show nI ((u6.2 10 5).toNatClampNeg) = (u6.2 10 5) from (by rw [hf1]; exact zn_in hfc)) ?_
      refine z_aln C dX6_forecast_58 0 rfl ?_
      refine z_get (v := .ref (a 1)) C 0 5 dX6_forecast_59 rfl rfl rfl hX6 (by decide) (by decide +kernel) rfl ?_
      refine z_bp C dX6_forecast_62 89 (by decide) ?_
      refine z_iald (f := (u6.2 0)) C 1 89 dX6_forecast_64 rfl (by decide) rfl (by omega) ?_
      refine z_iln C dX6_forecast_65 1 rfl ?_
      refine z_iadd C dX6_forecast_66 (((u6.2 0) 89) + pa) rfl ?_
      refine z_iast (f := (u6.2 6)) C 7 ((u6.2 10 5).toNatClampNeg) (MW a X (va_up u6.2 6 (upd (u6.2 6) ((u6.2 10 5).toNatClampNeg) (((u6.2 0) 89) + pa)))) dX6_forecast_67 rfl (by decide) rfl (by rw [hf1]; exact zn_lt hfc) rfl ?_
      obtain ⟨g8, hg8⟩ : ∃ z9v : zG, z9v = (va_up u6.2 6 (upd (u6.2 6) ((u6.2 10 5).toNatClampNeg) (((u6.2 0) 89) + pa))) := ⟨_, rfl⟩
      rw [← hg8]
      have hF := hF.trans (jn_at hg8)
      have hmk := mp_keeps0 (mp_aims hg8 hmk0)
      have hf2 : g8 10 5 = g 10 5 := by rw [hg8]; exact hf1
      refine z_aln C dX6_forecast_68 0 rfl ?_
      refine z_ic C dX6_forecast_69 0 (by decide) ?_
      refine z_cVv0 (As := [.int 0]) (rest := []) C (mX6_keeps l X a g8 0 ) gX6_forecast_X6_keeps rfl ⟨rfl, by decide, by decide, (by decide : (parseMethodDescriptor yX6_keeps.desc).map (fun d => d.parameters.length) = some 1)⟩ ⟨by decide, by decide⟩ ⟨by decide, by decide⟩ 0 6 rfl rfl (Nat.le_of_ble_eq_true rfl) dX6_forecast_70 rfl ?_
      obtain ⟨u9, hu9⟩ : ∃ z9u, z9u = (fX6_keeps g8 0) := ⟨_, rfl⟩
      rw [← hu9]
      have hF := hF.trans (jn_at hu9)
      rw [← hu9] at hmk
      refine z_aln C dX6_forecast_73 0 rfl ?_
      refine z_iln C dX6_forecast_74 1 rfl ?_
      refine z_nm (show nI pa.toNatClampNeg = pa from (zn_in hp)) ?_
      refine z_cVv0 (As := [.int (nI pa.toNatClampNeg)]) (rest := []) C (mX6_passes l X a u9 pa.toNatClampNeg _ _ _ _ hmk (by omega) (by omega) (by omega) (by omega)) gX6_forecast_X6_passes rfl ⟨rfl, by decide, by decide, (by decide : (parseMethodDescriptor yX6_passes.desc).map (fun d => d.parameters.length) = some 1)⟩ ⟨by decide, by decide⟩ ⟨by decide, by decide⟩ 0 6 rfl rfl (Nat.le_of_ble_eq_true rfl) dX6_forecast_75 rfl ?_
      obtain ⟨u10, hu10⟩ : ∃ z9u, z9u = (fX6_passes u9 pa.toNatClampNeg) := ⟨_, rfl⟩
      rw [← hu10]
      have hF := hF.trans (jn_at hu10)
      have hf3 : u10 10 5 = g 10 5 := by rw [hu10, passes_10, hu9, keeps_10]; exact hf2
      refine z_aln C dX6_forecast_78 0 rfl ?_
      refine z_get (v := .ref (a 8)) C 0 13 dX6_forecast_79 rfl rfl rfl hX6 (by decide) (by decide +kernel) rfl ?_
      refine z_aln C dX6_forecast_82 0 rfl ?_
      refine z_get (v := .int (u10 10 5)) C 0 11 dX6_forecast_83 rfl rfl rfl hX6 (by decide) (by decide +kernel) rfl ?_
      refine z_nm (show nI ((u10 10 5).toNatClampNeg) = (u10 10 5) from (by rw [hf3]; exact zn_in hfc)) ?_
      refine z_aln C dX6_forecast_86 0 rfl ?_
      refine z_cVi0 (As := []) (rest := [.int (nI ((u10 10 5).toNatClampNeg)), .ref (a 8)]) C (mX6_allIce l X a u10 ) gX6_forecast_X6_allIce rfl ⟨rfl, by decide, by decide, (by decide : (parseMethodDescriptor yX6_allIce.desc).map (fun d => d.parameters.length) = some 0)⟩ ⟨by decide, by decide⟩ ⟨by decide, by decide⟩ 0 6 rfl rfl (Nat.le_of_ble_eq_true rfl) dX6_forecast_87 rfl ?_
      refine z_iast (f := (u10 7)) C 8 ((u10 10 5).toNatClampNeg) (MW a X (va_up u10 7 (upd (u10 7) ((u10 10 5).toNatClampNeg) (fX6_allIce u10)))) dX6_forecast_90 rfl (by decide) rfl (by rw [hf3]; exact zn_lt hfc) rfl ?_
      obtain ⟨g11, hg11⟩ : ∃ z9v : zG, z9v = (va_up u10 7 (upd (u10 7) ((u10 10 5).toNatClampNeg) (fX6_allIce u10))) := ⟨_, rfl⟩
      rw [← hg11]
      have hF := hF.trans (jn_at hg11)
      refine z_aln C dX6_forecast_91 0 rfl ?_
      refine z_ic C dX6_forecast_92 1 (by decide) ?_
      refine z_cVv0 (As := [.int 1]) (rest := []) C (mX6_keeps l X a g11 1 ) gX6_forecast_X6_keeps rfl ⟨rfl, by decide, by decide, (by decide : (parseMethodDescriptor yX6_keeps.desc).map (fun d => d.parameters.length) = some 1)⟩ ⟨by decide, by decide⟩ ⟨by decide, by decide⟩ 0 6 rfl rfl (Nat.le_of_ble_eq_true rfl) dX6_forecast_93 rfl ?_
      obtain ⟨u12, hu12⟩ : ∃ z9u, z9u = (fX6_keeps g11 1) := ⟨_, rfl⟩
      rw [← hu12]
      have hF := hF.trans (jn_at hu12)
      have hf4 : u12 10 5 = g 10 5 := by rw [hu12, keeps_10, hg11]; exact hf3
      refine z_aln C dX6_forecast_96 0 rfl ?_
      refine z_get (v := .ref (a 9)) C 0 14 dX6_forecast_97 rfl rfl rfl hX6 (by decide) (by decide +kernel) rfl ?_
      refine z_aln C dX6_forecast_100 0 rfl ?_
      refine z_get (v := .int (u12 10 5)) C 0 11 dX6_forecast_101 rfl rfl rfl hX6 (by decide) (by decide +kernel) rfl ?_
      refine z_nm (show nI ((u12 10 5).toNatClampNeg) = (u12 10 5) from (by rw [hf4]; exact zn_in hfc)) ?_
      refine z_ic C dX6_forecast_104 (-1) (by decide) ?_
      refine z_iast (f := (u12 8)) C 9 ((u12 10 5).toNatClampNeg) (MW a X (va_up u12 8 (upd (u12 8) ((u12 10 5).toNatClampNeg) (-1)))) dX6_forecast_105 rfl (by decide) rfl (by rw [hf4]; exact zn_lt hfc) rfl ?_
      obtain ⟨g13, hg13⟩ : ∃ z9v : zG, z9v = (va_up u12 8 (upd (u12 8) ((u12 10 5).toNatClampNeg) (-1))) := ⟨_, rfl⟩
      rw [← hg13]
      have hF := hF.trans (jn_at hg13)
      have hf5 : g13 10 5 = g 10 5 := by rw [hg13]; exact hf4
      refine z_aln C dX6_forecast_106 0 rfl ?_
      refine z_dup C dX6_forecast_107 rfl ?_
      refine z_get (v := .int (g13 10 5)) C 0 11 dX6_forecast_108 rfl rfl rfl hX6 (by decide) (by decide +kernel) rfl ?_
      refine z_nm (show nI ((g13 10 5).toNatClampNeg) = (g13 10 5) from (by rw [hf5]; exact zn_in hfc)) ?_
      refine z_ic C dX6_forecast_111 1 (by decide) ?_
      refine z_iadd C dX6_forecast_112 (nI ((g13 10 5).toNatClampNeg + 1)) (nI_add ((g13 10 5).toNatClampNeg) 1) ?_
      refine z_put C 0 11 (MW a X (va_up g13 10 (upd (g13 10) 5 (nI ((g13 10 5).toNatClampNeg + 1))))) dX6_forecast_113 rfl rfl hX6 tyX6_ok nmX6 (by decide) (by decide +kernel) rfl rfl rfl rfl rfl (Nat.le_of_ble_eq_true rfl) rfl ?_
      refine z_aln C dX6_forecast_116 0 rfl ?_
      refine z_get (v := .ref (a 8)) C 0 13 dX6_forecast_117 rfl rfl rfl hX6 (by decide) (by decide +kernel) rfl ?_
      refine z_aln C dX6_forecast_120 0 rfl ?_
      refine z_get (v := .int (nI ((g13 10 5).toNatClampNeg + 1))) C 0 11 dX6_forecast_121 rfl rfl rfl hX6 (by decide) (by decide +kernel) rfl ?_
      refine z_ic C dX6_forecast_124 1 (by decide) ?_
      refine z_isub C dX6_forecast_125 (nI (((g13 10 5).toNatClampNeg + 1) - 1)) (pk_sub (a := ((g13 10 5).toNatClampNeg + 1)) (b := 1) (by omega)) ?_
      refine z_iald (f := (g13 7)) C 8 (((g13 10 5).toNatClampNeg + 1) - 1) dX6_forecast_126 rfl (by decide) rfl (by rw [hf5]; have := zn_lt hfc; omega) ?_
      exact z_iret C hQ dX6_forecast_127 (by rw [hF]; first | done | rfl) (by rw [hF]; first | done | rfl) (by decide) (by decide)
    · have hF := hF.trans (if_pos c7)
      refine z_ic C dX6_forecast_48 0 (by decide) ?_
      exact z_iret C hQ dX6_forecast_49 (by rw [hF]; first | done | rfl) (by rw [hF]; first | done | rfl) (by decide) (by decide)
  refine z_iln C dX6_forecast_10 0 rfl ?_
  refine z_if_eq C 41 dX6_forecast_11 (by decide) (fun c3 => ?_) (fun c3 => ?_)
  · have hv2 := hv2.trans (if_pos c3)
    refine z_ic C dX6_forecast_41 0 (by decide) ?_
    refine z_lv [1, 2, 0] [(0, .ref (a 0)), (1, .int pa), (2, .int v1)] rfl ?_
    rw [hv2] at Jv2
    exact Jv2
  · have hv2 := hv2.trans (if_neg c3)
    refine z_aln C dX6_forecast_14 1 rfl ?_
    refine z_get (v := .ref (a 1)) C 0 5 dX6_forecast_15 rfl rfl rfl hX6 (by decide) (by decide +kernel) rfl ?_
    refine z_bp C dX6_forecast_18 89 (by decide) ?_
    refine z_iald (f := (g 0)) C 1 89 dX6_forecast_20 rfl (by decide) rfl (by omega) ?_
    refine z_iln C dX6_forecast_21 2 rfl ?_
    refine z_iadd C dX6_forecast_22 (((g 0) 89) + pa) rfl ?_
    refine z_bp C dX6_forecast_23 60 (by decide) ?_
    refine z_ic_gt C 41 dX6_forecast_25 (by decide) (fun c4 => ?_) (fun c4 => ?_)
    · have hv2 := hv2.trans (if_pos c4)
      refine z_ic C dX6_forecast_41 0 (by decide) ?_
      refine z_lv [1, 2, 0] [(0, .ref (a 0)), (1, .int pa), (2, .int v1)] rfl ?_
      rw [hv2] at Jv2
      exact Jv2
    · have hv2 := hv2.trans (if_neg c4)
      refine z_aln C dX6_forecast_28 1 rfl ?_
      refine z_get (v := .int (g 10 5)) C 0 11 dX6_forecast_29 rfl rfl rfl hX6 (by decide) (by decide +kernel) rfl ?_
      refine z_bp C dX6_forecast_32 10 (by decide) ?_
      refine z_ic_ge C 41 dX6_forecast_34 (by decide) (fun c5 => ?_) (fun c5 => ?_)
      · have hv2 := hv2.trans (if_pos c5)
        refine z_ic C dX6_forecast_41 0 (by decide) ?_
        refine z_lv [1, 2, 0] [(0, .ref (a 0)), (1, .int pa), (2, .int v1)] rfl ?_
        rw [hv2] at Jv2
        exact Jv2
      · have hv2 := hv2.trans (if_neg c5)
        refine z_ic C dX6_forecast_37 1 (by decide) ?_
        refine z_go C 42 dX6_forecast_38 (by decide) ?_
        refine z_lv [1, 2, 0] [(0, .ref (a 0)), (1, .int pa), (2, .int v1)] rfl ?_
        rw [hv2] at Jv2
        exact Jv2
