def fJ9_floorDiv_7cf53 (x : Int32) (y : Int32) : Int32 := (if 0 ≤ (x ^^^ y) then (x / y) else (if ((x / y) * y) = x then (x / y) else ((x / y) - 1)))
set_option maxHeartbeats 4000000 in
set_option maxRecDepth 100000 in
theorem mJ9_floorDiv_7cf53 (l : Launch) (X : zX) (x : Int32) (y : Int32) (hy0 : ¬ y = 0) : CI l yJ9_floorDiv_7cf53 wsJ9_floorDiv_7cf53 0 0 0 0 X [] [.int x, .int y] (fJ9_floorDiv_7cf53 x y) [] := by
  obtain ⟨res, hF⟩ : ∃ z9r, z9r = fJ9_floorDiv_7cf53 x y := ⟨_, rfl⟩
  rw [← hF]
  refine ci_intro (cc := cJ9_floorDiv_7cf53) (ret := (some .int)) (maxL := 3) (by decide +kernel) rfl (Nat.le_of_ble_eq_true rfl) ?_
  intro p e s m args below meth c A Q C hQ
  show Z p l e { frames := 0, cells := 0, slots := 0, locals := 0 } s m args below meth c X A 3 Q 0 0 [] [(0, .int x), (1, .int y)] 0 []
  refine z_iln C dJ9_floorDiv_7cf53_0 0 rfl ?_
  refine z_iln C dJ9_floorDiv_7cf53_1 1 rfl ?_
  refine z_idiv C dJ9_floorDiv_7cf53_2 hy0 (x / y) rfl ?_
  refine z_isn C 2 [(2, .int (x / y)), (0, .int x), (1, .int y)] dJ9_floorDiv_7cf53_3 rfl (by decide) rfl ?_
  refine z_iln C dJ9_floorDiv_7cf53_4 1 rfl ?_
  refine z_iln C dJ9_floorDiv_7cf53_5 2 rfl ?_
  refine z_ixor C dJ9_floorDiv_7cf53_6 (x ^^^ y) rfl ?_
  refine z_if_ge C 21 dJ9_floorDiv_7cf53_7 (by decide) (fun c1 => ?_) (fun c1 => ?_)
  · have hF := hF.trans (if_pos c1)
    refine z_iln C dJ9_floorDiv_7cf53_21 0 rfl ?_
    exact z_iret C hQ dJ9_floorDiv_7cf53_22 (by rw [hF]; first | done | rfl) rfl (by decide) (by decide)
  · have hF := hF.trans (if_neg c1)
    refine z_iln C dJ9_floorDiv_7cf53_10 0 rfl ?_
    refine z_iln C dJ9_floorDiv_7cf53_11 2 rfl ?_
    refine z_imul C dJ9_floorDiv_7cf53_12 ((x / y) * y) rfl ?_
    refine z_iln C dJ9_floorDiv_7cf53_13 1 rfl ?_
    refine z_ic_eq C 21 dJ9_floorDiv_7cf53_14 (by decide) (fun c2 => ?_) (fun c2 => ?_)
    · have hF := hF.trans (if_pos c2)
      refine z_iln C dJ9_floorDiv_7cf53_21 0 rfl ?_
      exact z_iret C hQ dJ9_floorDiv_7cf53_22 (by rw [hF]; first | done | rfl) rfl (by decide) (by decide)
    · have hF := hF.trans (if_neg c2)
      refine z_iln C dJ9_floorDiv_7cf53_17 0 rfl ?_
      refine z_ic C dJ9_floorDiv_7cf53_18 1 (by decide) ?_
      refine z_isub C dJ9_floorDiv_7cf53_19 ((x / y) - 1) rfl ?_
      exact z_iret C hQ dJ9_floorDiv_7cf53_20 (by rw [hF]; first | done | rfl) rfl (by decide) (by decide)
def fJ9_floorDiv_f86c9 (x : Int64) (y : Int64) : Int64 := (if 0 ≤ (lg_cmp (x ^^^ y) 0) then (x / y) else (if (lg_cmp ((x / y) * y) x) = 0 then (x / y) else ((x / y) - 1)))
set_option maxHeartbeats 4000000 in
set_option maxRecDepth 100000 in
theorem mJ9_floorDiv_f86c9 (l : Launch) (X : zX) (x : Int64) (y : Int64) (hy0 : ¬ y = 0) : CL l yJ9_floorDiv_f86c9 wsJ9_floorDiv_f86c9 0 0 0 0 X [] [.long x, .long y] (fJ9_floorDiv_f86c9 x y) [] := by
  obtain ⟨res, hF⟩ : ∃ z9r, z9r = fJ9_floorDiv_f86c9 x y := ⟨_, rfl⟩
  rw [← hF]
  refine cl_intro (cc := cJ9_floorDiv_f86c9) (ret := (some .long)) (maxL := 6) (by decide +kernel) rfl (Nat.le_of_ble_eq_true rfl) ?_
  intro p e s m args below meth c A Q C hQ
  show Z p l e { frames := 0, cells := 0, slots := 0, locals := 0 } s m args below meth c X A 6 Q 0 0 [] [(0, .long x), (2, .long y)] 0 []
  refine z_lln C dJ9_floorDiv_f86c9_0 0 rfl ?_
  refine z_lln C dJ9_floorDiv_f86c9_1 1 rfl ?_
  refine z_ldiv C dJ9_floorDiv_f86c9_2 hy0 (x / y) rfl ?_
  refine z_ls C [(4, .long (x / y)), (0, .long x), (2, .long y)] dJ9_floorDiv_f86c9_3 (by decide) rfl ?_
  refine z_lln C dJ9_floorDiv_f86c9_5 1 rfl ?_
  refine z_lln C dJ9_floorDiv_f86c9_6 2 rfl ?_
  refine z_lxor C dJ9_floorDiv_f86c9_7 (x ^^^ y) rfl ?_
  refine z_lc C dJ9_floorDiv_f86c9_8 0 (by decide) ?_
  refine z_lcmp C dJ9_floorDiv_f86c9_9 ?_
  refine z_if_ge C 27 dJ9_floorDiv_f86c9_10 (by decide) (fun c1 => ?_) (fun c1 => ?_)
  · have hF := hF.trans (if_pos c1)
    refine z_ll C dJ9_floorDiv_f86c9_27 0 rfl ?_
    exact z_lret C hQ dJ9_floorDiv_f86c9_29 (by rw [hF]; first | done | rfl) rfl (by decide) (by decide)
  · have hF := hF.trans (if_neg c1)
    refine z_ll C dJ9_floorDiv_f86c9_13 0 rfl ?_
    refine z_lln C dJ9_floorDiv_f86c9_15 2 rfl ?_
    refine z_lmul C dJ9_floorDiv_f86c9_16 ((x / y) * y) rfl ?_
    refine z_lln C dJ9_floorDiv_f86c9_17 1 rfl ?_
    refine z_lcmp C dJ9_floorDiv_f86c9_18 ?_
    refine z_if_eq C 27 dJ9_floorDiv_f86c9_19 (by decide) (fun c2 => ?_) (fun c2 => ?_)
    · have hF := hF.trans (if_pos c2)
      refine z_ll C dJ9_floorDiv_f86c9_27 0 rfl ?_
      exact z_lret C hQ dJ9_floorDiv_f86c9_29 (by rw [hF]; first | done | rfl) rfl (by decide) (by decide)
    · have hF := hF.trans (if_neg c2)
      refine z_ll C dJ9_floorDiv_f86c9_22 0 rfl ?_
      refine z_lc C dJ9_floorDiv_f86c9_24 1 (by decide) ?_
      refine z_lsub C dJ9_floorDiv_f86c9_25 ((x / y) - 1) rfl ?_
      exact z_lret C hQ dJ9_floorDiv_f86c9_26 (by rw [hF]; first | done | rfl) rfl (by decide) (by decide)
def fX3_surface (g : zG) (k : Nat) : Int32 := (((g 0) k) + ((g 8) k))
set_option maxHeartbeats 4000000 in
set_option maxRecDepth 100000 in
theorem mX3_surface (l : Launch) (X : zX) (a : Nat → Nat) (g : zG) (k : Nat) (hy0 : k < 12) : CI l yX3_surface wsX3_surface 0 0 0 0 X (LW a X g) [.ref (a 0), .int (nI k)] (fX3_surface g k) (LW a X g) := by
  obtain ⟨res, hF⟩ : ∃ z9r, z9r = fX3_surface g k := ⟨_, rfl⟩
  rw [← hF]
  refine ci_intro (cc := cX3_surface) (ret := (some .int)) (maxL := 2) (by decide +kernel) rfl (Nat.le_of_ble_eq_true rfl) ?_
  intro p e s m args below meth c A Q C hQ
  have hX1 : ∀ w ∈ wsX10, w ∈ wsX3_surface := by decide +kernel
  have hX3 : ∀ w ∈ wsX30, w ∈ wsX3_surface := by decide +kernel
  show Z p l e { frames := 0, cells := 0, slots := 0, locals := 0 } s m args below meth c X A 2 Q 0 0 (LW a X g) [(0, .ref (a 0)), (1, .int (nI k))] 0 []
  refine z_aln C dX3_surface_0 0 rfl ?_
  refine z_get (v := .ref (a 3)) C 0 7 dX3_surface_1 rfl rfl rfl hX3 (by decide) (by decide +kernel) rfl ?_
  refine z_iln C dX3_surface_4 1 rfl ?_
  refine z_iald (f := (g 0)) C 3 k dX3_surface_5 rfl (by decide) rfl (by omega) ?_
  refine z_aln C dX3_surface_6 0 rfl ?_
  refine z_get (v := .ref (a 1)) C 0 5 dX3_surface_7 rfl rfl rfl hX3 (by decide) (by decide +kernel) rfl ?_
  refine z_get (v := .ref (a 11)) C 1 0 dX3_surface_10 rfl rfl rfl hX1 (by decide) (by decide +kernel) rfl ?_
  refine z_iln C dX3_surface_13 1 rfl ?_
  refine z_iald (f := (g 8)) C 11 k dX3_surface_14 rfl (by decide) rfl (by omega) ?_
  refine z_iadd C dX3_surface_15 (((g 0) k) + ((g 8) k)) rfl ?_
  exact z_iret C hQ dX3_surface_16 (by rw [hF]; first | done | rfl) rfl (by decide) (by decide)
def fX3_potential (g : zG) (k : Nat) : Int32 := ((10 * ((g 0) k)) + (9 * ((g 8) k)))
set_option maxHeartbeats 4000000 in
set_option maxRecDepth 100000 in
theorem mX3_potential (l : Launch) (X : zX) (a : Nat → Nat) (g : zG) (k : Nat) (hy0 : k < 12) : CI l yX3_potential wsX3_potential 0 0 0 0 X (LW a X g) [.ref (a 0), .int (nI k)] (fX3_potential g k) (LW a X g) := by
  obtain ⟨res, hF⟩ : ∃ z9r, z9r = fX3_potential g k := ⟨_, rfl⟩
  rw [← hF]
  refine ci_intro (cc := cX3_potential) (ret := (some .int)) (maxL := 2) (by decide +kernel) rfl (Nat.le_of_ble_eq_true rfl) ?_
  intro p e s m args below meth c A Q C hQ
  have hX1 : ∀ w ∈ wsX10, w ∈ wsX3_potential := by decide +kernel
  have hX3 : ∀ w ∈ wsX30, w ∈ wsX3_potential := by decide +kernel
  show Z p l e { frames := 0, cells := 0, slots := 0, locals := 0 } s m args below meth c X A 2 Q 0 0 (LW a X g) [(0, .ref (a 0)), (1, .int (nI k))] 0 []
  refine z_bp C dX3_potential_0 10 (by decide) ?_
  refine z_aln C dX3_potential_2 0 rfl ?_
  refine z_get (v := .ref (a 3)) C 0 7 dX3_potential_3 rfl rfl rfl hX3 (by decide) (by decide +kernel) rfl ?_
  refine z_iln C dX3_potential_6 1 rfl ?_
  refine z_iald (f := (g 0)) C 3 k dX3_potential_7 rfl (by decide) rfl (by omega) ?_
  refine z_imul C dX3_potential_8 (10 * ((g 0) k)) rfl ?_
  refine z_bp C dX3_potential_9 9 (by decide) ?_
  refine z_aln C dX3_potential_11 0 rfl ?_
  refine z_get (v := .ref (a 1)) C 0 5 dX3_potential_12 rfl rfl rfl hX3 (by decide) (by decide +kernel) rfl ?_
  refine z_get (v := .ref (a 11)) C 1 0 dX3_potential_15 rfl rfl rfl hX1 (by decide) (by decide +kernel) rfl ?_
  refine z_iln C dX3_potential_18 1 rfl ?_
  refine z_iald (f := (g 8)) C 11 k dX3_potential_19 rfl (by decide) rfl (by omega) ?_
  refine z_imul C dX3_potential_20 (9 * ((g 8) k)) rfl ?_
  refine z_iadd C dX3_potential_21 ((10 * ((g 0) k)) + (9 * ((g 8) k))) rfl ?_
  exact z_iret C hQ dX3_potential_22 (by rw [hF]; first | done | rfl) rfl (by decide) (by decide)
def fX3_standsInSea (g : zG) (k : Nat) : Int32 := (if (g 10 1) ≤ ((g 0) k) then 0 else 1)
set_option maxHeartbeats 4000000 in
set_option maxRecDepth 100000 in
theorem mX3_standsInSea (l : Launch) (X : zX) (a : Nat → Nat) (g : zG) (k : Nat) (hy0 : k < 12) : CI l yX3_standsInSea wsX3_standsInSea 0 0 0 0 X (LW a X g) [.ref (a 0), .int (nI k)] (fX3_standsInSea g k) (LW a X g) := by
  obtain ⟨res, hF⟩ : ∃ z9r, z9r = fX3_standsInSea g k := ⟨_, rfl⟩
  rw [← hF]
  refine ci_intro (cc := cX3_standsInSea) (ret := (some .boolean)) (maxL := 2) (by decide +kernel) rfl (Nat.le_of_ble_eq_true rfl) ?_
  intro p e s m args below meth c A Q C hQ
  have hX3 : ∀ w ∈ wsX30, w ∈ wsX3_standsInSea := by decide +kernel
  show Z p l e { frames := 0, cells := 0, slots := 0, locals := 0 } s m args below meth c X A 2 Q 0 0 (LW a X g) [(0, .ref (a 0)), (1, .int (nI k))] 0 []
  refine z_aln C dX3_standsInSea_0 0 rfl ?_
  refine z_get (v := .ref (a 3)) C 0 7 dX3_standsInSea_1 rfl rfl rfl hX3 (by decide) (by decide +kernel) rfl ?_
  refine z_iln C dX3_standsInSea_4 1 rfl ?_
  refine z_iald (f := (g 0)) C 3 k dX3_standsInSea_5 rfl (by decide) rfl (by omega) ?_
  refine z_aln C dX3_standsInSea_6 0 rfl ?_
  refine z_get (v := .int (g 10 1)) C 0 1 dX3_standsInSea_7 rfl rfl rfl hX3 (by decide) (by decide +kernel) rfl ?_
  refine z_ic_ge C 17 dX3_standsInSea_10 (by decide) (fun c1 => ?_) (fun c1 => ?_)
  · have hF := hF.trans (if_pos c1)
    refine z_ic C dX3_standsInSea_17 0 (by decide) ?_
    exact z_zret C hQ dX3_standsInSea_18 (Or.inl rfl) (by rw [hF]; first | done | rfl) rfl (by decide) (by decide)
  · have hF := hF.trans (if_neg c1)
    refine z_ic C dX3_standsInSea_13 1 (by decide) ?_
    refine z_go C 18 dX3_standsInSea_14 (by decide) ?_
    exact z_zret C hQ dX3_standsInSea_18 (Or.inr rfl) (by rw [hF]; first | done | rfl) rfl (by decide) (by decide)
def fX3_hasCrevasse (g : zG) (k : Nat) : Int32 := (if (if 0 ≤ ((g 5) k) then ((g 5) k) else 0 - ((g 5) k)) < 5 then 0 else 1)
set_option maxHeartbeats 4000000 in
set_option maxRecDepth 100000 in
theorem mX3_hasCrevasse (l : Launch) (X : zX) (a : Nat → Nat) (g : zG) (k : Nat) (hy0 : k < 12) : CI l yX3_hasCrevasse wsX3_hasCrevasse 1 23 0 0 X (LW a X g) [.ref (a 0), .int (nI k)] (fX3_hasCrevasse g k) (LW a X g) := by
  obtain ⟨res, hF⟩ : ∃ z9r, z9r = fX3_hasCrevasse g k := ⟨_, rfl⟩
  rw [← hF]
  refine ci_intro (cc := cX3_hasCrevasse) (ret := (some .boolean)) (maxL := 2) (by decide +kernel) rfl (Nat.le_of_ble_eq_true rfl) ?_
  intro p e s m args below meth c A Q C hQ
  have hX3 : ∀ w ∈ wsX30, w ∈ wsX3_hasCrevasse := by decide +kernel
  show Z p l e { frames := 1, cells := 0, slots := 0, locals := 23 } s m args below meth c X A 2 Q 0 0 (LW a X g) [(0, .ref (a 0)), (1, .int (nI k))] 0 []
  refine z_aln C dX3_hasCrevasse_0 0 rfl ?_
  refine z_get (v := .ref (a 8)) C 0 12 dX3_hasCrevasse_1 rfl rfl rfl hX3 (by decide) (by decide +kernel) rfl ?_
  refine z_iln C dX3_hasCrevasse_4 1 rfl ?_
  refine z_iald (f := (g 5)) C 8 k dX3_hasCrevasse_5 rfl (by decide) rfl (by omega) ?_
  refine z_mabs C dX3_hasCrevasse_6 (by decide +kernel) (by decide +kernel) (by decide +kernel) (by decide +kernel) (Nat.le_of_ble_eq_true rfl) (Nat.le_of_ble_eq_true rfl) (Nat.le_of_ble_eq_true rfl) (Nat.le_of_ble_eq_true rfl) ?_
  refine z_ic C dX3_hasCrevasse_9 5 (by decide) ?_
  refine z_ic_lt C 17 dX3_hasCrevasse_10 (by decide) (fun c1 => ?_) (fun c1 => ?_)
  · have hF := hF.trans (if_pos c1)
    refine z_ic C dX3_hasCrevasse_17 0 (by decide) ?_
    exact z_zret C hQ dX3_hasCrevasse_18 (Or.inl rfl) (by rw [hF]; first | done | rfl) rfl (by decide) (by decide)
  · have hF := hF.trans (if_neg c1)
    refine z_ic C dX3_hasCrevasse_13 1 (by decide) ?_
    refine z_go C 18 dX3_hasCrevasse_14 (by decide) ?_
    exact z_zret C hQ dX3_hasCrevasse_18 (Or.inr rfl) (by rw [hF]; first | done | rfl) rfl (by decide) (by decide)
def fX3_allWater_L4 (g : zG) : Nat → Nat → Int32 → Int32
  | 0, k2, x1 => x1
  | nk2 + 1, k2, x1 => (fX3_allWater_L4 g nk2 (k2 + 1) (x1 + ((g 2) k2)))
def fX3_allWater (g : zG) : Int32 := (fX3_allWater_L4 g 12 0 0)
set_option maxHeartbeats 4000000 in
set_option maxRecDepth 100000 in
theorem mX3_allWater (l : Launch) (X : zX) (a : Nat → Nat) (g : zG) : CI l yX3_allWater wsX3_allWater 0 0 0 0 X (LW a X g) [.ref (a 0)] (fX3_allWater g) (LW a X g) := by
  obtain ⟨res, hF⟩ : ∃ z9r, z9r = fX3_allWater g := ⟨_, rfl⟩
  rw [← hF]
  refine ci_intro (cc := cX3_allWater) (ret := (some .int)) (maxL := 3) (by decide +kernel) rfl (Nat.le_of_ble_eq_true rfl) ?_
  intro p e s m args below meth c A Q C hQ
  have hX3 : ∀ w ∈ wsX30, w ∈ wsX3_allWater := by decide +kernel
  show Z p l e { frames := 0, cells := 0, slots := 0, locals := 0 } s m args below meth c X A 3 Q 0 0 (LW a X g) [(0, .ref (a 0))] 0 []
  refine z_ic C dX3_allWater_0 0 (by decide) ?_
  refine z_isn C 1 [(1, .int 0), (0, .ref (a 0))] dX3_allWater_1 rfl (by decide) rfl ?_
  refine z_ic C dX3_allWater_2 0 (by decide) ?_
  refine z_isn C 2 [(2, .int 0), (1, .int 0), (0, .ref (a 0))] dX3_allWater_3 rfl (by decide) rfl ?_
  refine z_lv [2, 1, 0] [(0, .ref (a 0)), (1, .int 0), (2, .int 0)] rfl ?_
  have LPk2 : ∀ (nk2 k2 : Nat) (x1 : Int32), k2 + nk2 = 12 → res = fX3_allWater_L4 g nk2 k2 x1 → Z p l e { frames := 0, cells := 0, slots := 0, locals := 0 } s m args below meth c X A 3 Q 0 0 (LW a X g) [(0, .ref (a 0)), (1, .int x1), (2, .int (nI k2))] 4 [] := by
    intro nk2
    induction nk2 with
    | zero =>
      intro k2 x1 hkk2 hF
      refine z_iln C dX3_allWater_4 2 rfl ?_
      refine z_bp C dX3_allWater_5 12 (by decide) ?_
      refine z_ic_geN C k2 12 25 dX3_allWater_7 (by decide) rfl rfl (by omega) (by omega) (fun c3 => ?_) (fun c3 => ?_)
      rotate_left
      · exact absurd c3 (by omega)
      refine z_iln C dX3_allWater_25 1 rfl ?_
      exact z_iret C hQ dX3_allWater_26 (by rw [hF]; first | done | rfl) rfl (by decide) (by decide)
    | succ nk2 ihk2 =>
      intro k2 x1 hkk2 hF
      refine z_iln C dX3_allWater_4 2 rfl ?_
      refine z_bp C dX3_allWater_5 12 (by decide) ?_
      refine z_ic_geN C k2 12 25 dX3_allWater_7 (by decide) rfl rfl (by omega) (by omega) (fun c4 => ?_) (fun c4 => ?_)
      · exact absurd c4 (by omega)
      refine z_iln C dX3_allWater_10 1 rfl ?_
      refine z_aln C dX3_allWater_11 0 rfl ?_
      refine z_get (v := .ref (a 5)) C 0 9 dX3_allWater_12 rfl rfl rfl hX3 (by decide) (by decide +kernel) rfl ?_
      refine z_iln C dX3_allWater_15 2 rfl ?_
      refine z_iald (f := (g 2)) C 5 k2 dX3_allWater_16 rfl (by decide) rfl (by omega) ?_
      refine z_iadd C dX3_allWater_17 (x1 + ((g 2) k2)) rfl ?_
      refine z_isn C 1 [(1, .int (x1 + ((g 2) k2))), (0, .ref (a 0)), (2, .int (nI k2))] dX3_allWater_18 rfl (by decide) rfl ?_
      refine z_inc C 2 (nI (k2 + 1)) [(2, .int (nI (k2 + 1))), (1, .int (x1 + ((g 2) k2))), (0, .ref (a 0))] dX3_allWater_19 rfl (nI_add k2 1) (by decide) rfl ?_
      refine z_go C 4 dX3_allWater_22 (by decide) ?_
      refine z_lv [2, 1, 0] [(0, .ref (a 0)), (1, .int (x1 + ((g 2) k2))), (2, .int (nI (k2 + 1)))] rfl ?_
      exact ihk2 (k2 + 1) (x1 + ((g 2) k2)) (by omega) hF
  exact LPk2 12 0 0 (by omega) hF
def fX3_snowOrMelt (g : zG) (k : Nat) : zG := (jn ((g 10 2) - (fJ9_floorDiv_7cf53 (fX3_surface g k) 2)) (fun (v1 : Int32) => (if 0 ≤ v1 then (if v1 ≤ 0 then (va_up g 4 (upd (g 4) k 0)) else (jn (if ((g 8) k) < (fJ9_floorDiv_7cf53 (v1 * (g 10 4)) 10) then ((g 8) k) else (fJ9_floorDiv_7cf53 (v1 * (g 10 4)) 10)) (fun (v4 : Int32) => (jn (fX1_takeLatest (g 8) (g 9) k v4) (fun u5 => (va_up (va_up (va_up (va_up (va_up g 4 (upd (g 4) k 0)) 8 u5.1) 9 u5.2) 2 (upd (g 2) k (((g 2) k) + v4))) 11 (upd (g 11) 2 ((g 11 2) + v4)))))))) else (if 0 < ((g 8) k) then (jn (fX1_lay (g 8) (g 9) k ((g 10 0).toNatClampNeg) (g 10 3)) (fun u7 => (va_up (va_up (va_up (va_up (va_up g 4 (upd (g 4) k 0)) 4 (upd (upd (g 4) k 0) k (g 10 3))) 8 u7.1) 9 u7.2) 11 (upd (g 11) 0 ((g 11 0) + (g 10 3)))))) else (if (fX3_standsInSea (va_up g 4 (upd (g 4) k 0)) k) = 0 then (jn (fX1_lay (g 8) (g 9) k ((g 10 0).toNatClampNeg) (g 10 3)) (fun u12 => (va_up (va_up (va_up (va_up (va_up g 4 (upd (g 4) k 0)) 4 (upd (upd (g 4) k 0) k (g 10 3))) 8 u12.1) 9 u12.2) 11 (upd (g 11) 0 ((g 11 0) + (g 10 3)))))) else (if v1 ≤ 0 then (va_up g 4 (upd (g 4) k 0)) else (jn (if ((g 8) k) < (fJ9_floorDiv_7cf53 (v1 * (g 10 4)) 10) then ((g 8) k) else (fJ9_floorDiv_7cf53 (v1 * (g 10 4)) 10)) (fun (v10 : Int32) => (jn (fX1_takeLatest (g 8) (g 9) k v10) (fun u11 => (va_up (va_up (va_up (va_up (va_up g 4 (upd (g 4) k 0)) 8 u11.1) 9 u11.2) 2 (upd (g 2) k (((g 2) k) + v10))) 11 (upd (g 11) 2 ((g 11 2) + v10)))))))))))))
set_option maxHeartbeats 4000000 in
set_option maxRecDepth 100000 in
theorem mX3_snowOrMelt (l : Launch) (X : zX) (a : Nat → Nat) (g : zG) (k : Nat) (hy0 : k < 12) (hy1 : vp_in (g 10 0) 61) : CV l yX3_snowOrMelt wsX3_snowOrMelt 2 48 0 0 X (LW a X g) [.ref (a 0), .int (nI k)] (LW a X (fX3_snowOrMelt g k)) := by
  obtain ⟨res, hF⟩ : ∃ z9r, z9r = fX3_snowOrMelt g k := ⟨_, rfl⟩
  rw [← hF]
  refine cu_intro (cc := cX3_snowOrMelt) (ret := none) (maxL := 4) (by decide +kernel) rfl (Nat.le_of_ble_eq_true rfl) ?_
  intro p e s m args below meth c A Q C hQ
  have hX1 : ∀ w ∈ wsX10, w ∈ wsX3_snowOrMelt := by decide +kernel
  have hX3 : ∀ w ∈ wsX30, w ∈ wsX3_snowOrMelt := by decide +kernel
  have hX4 : ∀ w ∈ wsX40, w ∈ wsX3_snowOrMelt := by decide +kernel
  show Z p l e { frames := 2, cells := 0, slots := 0, locals := 48 } s m args below meth c X A 4 Q 0 0 (LW a X g) [(0, .ref (a 0)), (1, .int (nI k))] 0 []
  refine z_aln C dX3_snowOrMelt_0 0 rfl ?_
  refine z_get (v := .int (g 10 2)) C 0 2 dX3_snowOrMelt_1 rfl rfl rfl hX3 (by decide) (by decide +kernel) rfl ?_
  refine z_aln C dX3_snowOrMelt_4 0 rfl ?_
  refine z_iln C dX3_snowOrMelt_5 1 rfl ?_
  refine z_cVi0 (As := [.int (nI k)]) (rest := [.int (g 10 2)]) C (mX3_surface l X a g k (by omega)) gX3_snowOrMelt_X3_surface rfl ⟨rfl, by decide, by decide, (by decide : (parseMethodDescriptor yX3_surface.desc).map (fun d => d.parameters.length) = some 1)⟩ ⟨by decide, by decide⟩ ⟨by decide, by decide⟩ 0 3 rfl rfl (Nat.le_of_ble_eq_true rfl) dX3_snowOrMelt_6 rfl ?_
  refine z_ic C dX3_snowOrMelt_9 2 (by decide) ?_
  refine z_cSi0 (As := [.int (fX3_surface g k), .int 2]) (rest := [.int (g 10 2)]) C (mJ9_floorDiv_7cf53 l X (fX3_surface g k) 2 (by decide)) gX3_snowOrMelt_J9_floorDiv_7cf53 rfl ⟨by decide, by decide, (by decide : (parseMethodDescriptor yJ9_floorDiv_7cf53.desc).map (fun d => d.parameters.length) = some 2)⟩ ⟨by decide, by decide⟩ ⟨by decide, by decide⟩ (Nat.le_of_ble_eq_true rfl) dX3_snowOrMelt_10 rfl ?_
  refine z_isub C dX3_snowOrMelt_13 ((g 10 2) - (fJ9_floorDiv_7cf53 (fX3_surface g k) 2)) rfl ?_
  obtain ⟨v1, hv1⟩ : ∃ z9v, z9v = (((g 10 2) - (fJ9_floorDiv_7cf53 (fX3_surface g k) 2)) : Int32) := ⟨_, rfl⟩
  have hF := hF.trans (jn_at hv1)
  refine z_nm hv1 ?_
  refine z_isn C 2 [(2, .int v1), (0, .ref (a 0)), (1, .int (nI k))] dX3_snowOrMelt_14 rfl (by decide) rfl ?_
  refine z_aln C dX3_snowOrMelt_15 1 rfl ?_
  refine z_get (v := .ref (a 7)) C 0 11 dX3_snowOrMelt_16 rfl rfl rfl hX3 (by decide) (by decide +kernel) rfl ?_
  refine z_iln C dX3_snowOrMelt_19 2 rfl ?_
  refine z_ic C dX3_snowOrMelt_20 0 (by decide) ?_
  refine z_iast (f := (g 4)) C 7 k (LW a X (va_up g 4 (upd (g 4) k 0))) dX3_snowOrMelt_21 rfl (by decide) rfl (by omega) rfl ?_
  refine z_iln C dX3_snowOrMelt_22 0 rfl ?_
  refine z_if_ge C 91 dX3_snowOrMelt_23 (by decide) (fun c2 => ?_) (fun c2 => ?_)
  · have hF := hF.trans (if_pos c2)
    refine z_iln C dX3_snowOrMelt_91 0 rfl ?_
    refine z_if_le C 151 dX3_snowOrMelt_92 (by decide) (fun c3 => ?_) (fun c3 => ?_)
    · have hF := hF.trans (if_pos c3)
      exact z_vret C hQ () dX3_snowOrMelt_151 (by rw [hF]; first | done | rfl) (by decide) (by decide)
    · have hF := hF.trans (if_neg c3)
      refine z_iln C dX3_snowOrMelt_95 0 rfl ?_
      refine z_aln C dX3_snowOrMelt_96 1 rfl ?_
      refine z_get (v := .int (g 10 4)) C 0 4 dX3_snowOrMelt_97 rfl rfl rfl hX3 (by decide) (by decide +kernel) rfl ?_
      refine z_imul C dX3_snowOrMelt_100 (v1 * (g 10 4)) rfl ?_
      refine z_bp C dX3_snowOrMelt_101 10 (by decide) ?_
      refine z_cSi0 (As := [.int (v1 * (g 10 4)), .int 10]) (rest := []) C (mJ9_floorDiv_7cf53 l X (v1 * (g 10 4)) 10 (by decide)) gX3_snowOrMelt_J9_floorDiv_7cf53 rfl ⟨by decide, by decide, (by decide : (parseMethodDescriptor yJ9_floorDiv_7cf53.desc).map (fun d => d.parameters.length) = some 2)⟩ ⟨by decide, by decide⟩ ⟨by decide, by decide⟩ (Nat.le_of_ble_eq_true rfl) dX3_snowOrMelt_103 rfl ?_
      refine z_aln C dX3_snowOrMelt_106 1 rfl ?_
      refine z_get (v := .ref (a 1)) C 0 5 dX3_snowOrMelt_107 rfl rfl rfl hX3 (by decide) (by decide +kernel) rfl ?_
      refine z_get (v := .ref (a 11)) C 1 0 dX3_snowOrMelt_110 rfl rfl rfl hX1 (by decide) (by decide +kernel) rfl ?_
      refine z_iln C dX3_snowOrMelt_113 2 rfl ?_
      refine z_iald (f := (g 8)) C 11 k dX3_snowOrMelt_114 rfl (by decide) rfl (by omega) ?_
      refine z_mmin C dX3_snowOrMelt_115 (by decide +kernel) (by decide +kernel) (by decide +kernel) (by decide +kernel) (Nat.le_of_ble_eq_true rfl) (Nat.le_of_ble_eq_true rfl) (Nat.le_of_ble_eq_true rfl) (Nat.le_of_ble_eq_true rfl) ?_
      obtain ⟨v4, hv4⟩ : ∃ z9v, z9v = ((if ((g 8) k) < (fJ9_floorDiv_7cf53 (v1 * (g 10 4)) 10) then ((g 8) k) else (fJ9_floorDiv_7cf53 (v1 * (g 10 4)) 10)) : Int32) := ⟨_, rfl⟩
      have hF := hF.trans (jn_at hv4)
      refine z_nm hv4 ?_
      refine z_isn C 3 [(3, .int v4), (2, .int v1), (0, .ref (a 0)), (1, .int (nI k))] dX3_snowOrMelt_118 rfl (by decide) rfl ?_
      refine z_aln C dX3_snowOrMelt_119 2 rfl ?_
      refine z_get (v := .ref (a 1)) C 0 5 dX3_snowOrMelt_120 rfl rfl rfl hX3 (by decide) (by decide +kernel) rfl ?_
      refine z_iln C dX3_snowOrMelt_123 3 rfl ?_
      refine z_iln C dX3_snowOrMelt_124 0 rfl ?_
      refine z_cVu (As := [.int (nI k), .int v4]) (rest := []) C (mX1_takeLatest l X a (g 8) (g 9) k v4 (by omega)) gX3_snowOrMelt_X1_takeLatest rfl ⟨rfl, by decide, by decide, (by decide : (parseMethodDescriptor yX1_takeLatest.desc).map (fun d => d.parameters.length) = some 2)⟩ ⟨by decide, by decide⟩ ⟨by decide, by decide⟩ 0 1 rfl rfl [1, 11, 12] [0, 2, 3, 4, 5, 6, 7, 8, 9, 10] [0, 10, 1, 2, 3, 4, 5, 6, 7, 8, 9, 11, 12] rfl rfl (by decide) (by decide) (by decide) (by decide) (fun _ => (LW a X (va_up (va_up (va_up g 4 (upd (g 4) k 0)) 8 ((fX1_takeLatest (g 8) (g 9) k v4).1)) 9 ((fX1_takeLatest (g 8) (g 9) k v4).2)))) (fun _ => rfl) (Nat.le_of_ble_eq_true rfl) dX3_snowOrMelt_125 rfl (fun _ => ?_)
      obtain ⟨u5, hu5⟩ : ∃ z9u, z9u = (fX1_takeLatest (g 8) (g 9) k v4) := ⟨_, rfl⟩
      rw [← hu5]
      have hF := hF.trans (jn_at hu5)
      refine z_aln C dX3_snowOrMelt_128 2 rfl ?_
      refine z_get (v := .ref (a 5)) C 0 9 dX3_snowOrMelt_129 rfl rfl rfl hX3 (by decide) (by decide +kernel) rfl ?_
      refine z_iln C dX3_snowOrMelt_132 3 rfl ?_
      refine z_dup2 C dX3_snowOrMelt_133 rfl rfl ?_
      refine z_iald (f := (g 2)) C 5 k dX3_snowOrMelt_134 rfl (by decide) rfl (by omega) ?_
      refine z_iln C dX3_snowOrMelt_135 0 rfl ?_
      refine z_iadd C dX3_snowOrMelt_136 (((g 2) k) + v4) rfl ?_
      refine z_iast (f := (g 2)) C 5 k (LW a X (va_up (va_up (va_up (va_up g 4 (upd (g 4) k 0)) 8 u5.1) 9 u5.2) 2 (upd (g 2) k (((g 2) k) + v4)))) dX3_snowOrMelt_137 rfl (by decide) rfl (by omega) rfl ?_
      refine z_aln C dX3_snowOrMelt_138 2 rfl ?_
      refine z_get (v := .ref (a 2)) C 0 6 dX3_snowOrMelt_139 rfl rfl rfl hX3 (by decide) (by decide +kernel) rfl ?_
      refine z_dup C dX3_snowOrMelt_142 rfl ?_
      refine z_get (v := .int (g 11 2)) C 2 2 dX3_snowOrMelt_143 rfl rfl rfl hX4 (by decide) (by decide +kernel) rfl ?_
      refine z_iln C dX3_snowOrMelt_146 0 rfl ?_
      refine z_iadd C dX3_snowOrMelt_147 ((g 11 2) + v4) rfl ?_
      refine z_put C 2 2 (LW a X (va_up (va_up (va_up (va_up (va_up g 4 (upd (g 4) k 0)) 8 u5.1) 9 u5.2) 2 (upd (g 2) k (((g 2) k) + v4))) 11 (upd (g 11) 2 ((g 11 2) + v4)))) dX3_snowOrMelt_148 rfl rfl hX4 tyX4_ok nmX4 (by decide) (by decide +kernel) rfl rfl rfl rfl rfl (Nat.le_of_ble_eq_true rfl) rfl ?_
      exact z_vret C hQ () dX3_snowOrMelt_151 (by rw [hF]; first | done | rfl) (by decide) (by decide)
  · have hF := hF.trans (if_neg c2)
    refine z_aln C dX3_snowOrMelt_26 1 rfl ?_
    refine z_get (v := .ref (a 1)) C 0 5 dX3_snowOrMelt_27 rfl rfl rfl hX3 (by decide) (by decide +kernel) rfl ?_
    refine z_get (v := .ref (a 11)) C 1 0 dX3_snowOrMelt_30 rfl rfl rfl hX1 (by decide) (by decide +kernel) rfl ?_
    refine z_iln C dX3_snowOrMelt_33 2 rfl ?_
    refine z_iald (f := (g 8)) C 11 k dX3_snowOrMelt_34 rfl (by decide) rfl (by omega) ?_
    refine z_if_gt C 46 dX3_snowOrMelt_35 (by decide) (fun c6 => ?_) (fun c6 => ?_)
    · have hF := hF.trans (if_pos c6)
      refine z_aln C dX3_snowOrMelt_46 1 rfl ?_
      refine z_get (v := .ref (a 7)) C 0 11 dX3_snowOrMelt_47 rfl rfl rfl hX3 (by decide) (by decide +kernel) rfl ?_
      refine z_iln C dX3_snowOrMelt_50 2 rfl ?_
      refine z_aln C dX3_snowOrMelt_51 1 rfl ?_
      refine z_get (v := .int (g 10 3)) C 0 3 dX3_snowOrMelt_52 rfl rfl rfl hX3 (by decide) (by decide +kernel) rfl ?_
      refine z_iast (f := (upd (g 4) k 0)) C 7 k (LW a X (va_up (va_up g 4 (upd (g 4) k 0)) 4 (upd (upd (g 4) k 0) k (g 10 3)))) dX3_snowOrMelt_55 rfl (by decide) rfl (by omega) rfl ?_
      refine z_aln C dX3_snowOrMelt_56 1 rfl ?_
      refine z_get (v := .ref (a 1)) C 0 5 dX3_snowOrMelt_57 rfl rfl rfl hX3 (by decide) (by decide +kernel) rfl ?_
      refine z_iln C dX3_snowOrMelt_60 2 rfl ?_
      refine z_aln C dX3_snowOrMelt_61 1 rfl ?_
      refine z_get (v := .int (g 10 0)) C 0 0 dX3_snowOrMelt_62 rfl rfl rfl hX3 (by decide) (by decide +kernel) rfl ?_
      refine z_nm (show nI ((g 10 0).toNatClampNeg) = (g 10 0) from (zn_in hy1)) ?_
      refine z_aln C dX3_snowOrMelt_65 1 rfl ?_
      refine z_get (v := .int (g 10 3)) C 0 3 dX3_snowOrMelt_66 rfl rfl rfl hX3 (by decide) (by decide +kernel) rfl ?_
      refine z_cVu (As := [.int (nI k), .int (nI ((g 10 0).toNatClampNeg)), .int (g 10 3)]) (rest := []) C (mX1_lay l X a (g 8) (g 9) k ((g 10 0).toNatClampNeg) (g 10 3) (by omega) (zn_lt hy1)) gX3_snowOrMelt_X1_lay rfl ⟨rfl, by decide, by decide, (by decide : (parseMethodDescriptor yX1_lay.desc).map (fun d => d.parameters.length) = some 3)⟩ ⟨by decide, by decide⟩ ⟨by decide, by decide⟩ 0 1 rfl rfl [1, 11, 12] [0, 2, 3, 4, 5, 6, 7, 8, 9, 10] [0, 10, 1, 2, 3, 4, 5, 6, 7, 8, 9, 11, 12] rfl rfl (by decide) (by decide) (by decide) (by decide) (fun _ => (LW a X (va_up (va_up (va_up (va_up g 4 (upd (g 4) k 0)) 4 (upd (upd (g 4) k 0) k (g 10 3))) 8 ((fX1_lay (g 8) (g 9) k ((g 10 0).toNatClampNeg) (g 10 3)).1)) 9 ((fX1_lay (g 8) (g 9) k ((g 10 0).toNatClampNeg) (g 10 3)).2)))) (fun _ => rfl) (Nat.le_of_ble_eq_true rfl) dX3_snowOrMelt_69 rfl (fun _ => ?_)
      obtain ⟨u7, hu7⟩ : ∃ z9u, z9u = (fX1_lay (g 8) (g 9) k ((g 10 0).toNatClampNeg) (g 10 3)) := ⟨_, rfl⟩
      rw [← hu7]
      have hF := hF.trans (jn_at hu7)
      refine z_aln C dX3_snowOrMelt_72 1 rfl ?_
      refine z_get (v := .ref (a 2)) C 0 6 dX3_snowOrMelt_73 rfl rfl rfl hX3 (by decide) (by decide +kernel) rfl ?_
      refine z_dup C dX3_snowOrMelt_76 rfl ?_
      refine z_get (v := .int (g 11 0)) C 2 0 dX3_snowOrMelt_77 rfl rfl rfl hX4 (by decide) (by decide +kernel) rfl ?_
      refine z_aln C dX3_snowOrMelt_80 1 rfl ?_
      refine z_get (v := .int (g 10 3)) C 0 3 dX3_snowOrMelt_81 rfl rfl rfl hX3 (by decide) (by decide +kernel) rfl ?_
      refine z_iadd C dX3_snowOrMelt_84 ((g 11 0) + (g 10 3)) rfl ?_
      refine z_put C 2 0 (LW a X (va_up (va_up (va_up (va_up (va_up g 4 (upd (g 4) k 0)) 4 (upd (upd (g 4) k 0) k (g 10 3))) 8 u7.1) 9 u7.2) 11 (upd (g 11) 0 ((g 11 0) + (g 10 3))))) dX3_snowOrMelt_85 rfl rfl hX4 tyX4_ok nmX4 (by decide) (by decide +kernel) rfl rfl rfl rfl rfl (Nat.le_of_ble_eq_true rfl) rfl ?_
      refine z_go C 151 dX3_snowOrMelt_88 (by decide) ?_
      exact z_vret C hQ () dX3_snowOrMelt_151 (by rw [hF]; first | done | rfl) (by decide) (by decide)
    · have hF := hF.trans (if_neg c6)
      refine z_aln C dX3_snowOrMelt_38 1 rfl ?_
      refine z_iln C dX3_snowOrMelt_39 2 rfl ?_
      refine z_cVi0 (As := [.int (nI k)]) (rest := []) C (mX3_standsInSea l X a (va_up g 4 (upd (g 4) k 0)) k (by omega)) gX3_snowOrMelt_X3_standsInSea rfl ⟨rfl, by decide, by decide, (by decide : (parseMethodDescriptor yX3_standsInSea.desc).map (fun d => d.parameters.length) = some 1)⟩ ⟨by decide, by decide⟩ ⟨by decide, by decide⟩ 0 3 rfl rfl (Nat.le_of_ble_eq_true rfl) dX3_snowOrMelt_40 rfl ?_
      refine z_if_ne C 91 dX3_snowOrMelt_43 (by decide) (fun c8 => ?_) (fun c8 => ?_)
      · have hF := hF.trans (if_neg c8)
        refine z_iln C dX3_snowOrMelt_91 0 rfl ?_
        refine z_if_le C 151 dX3_snowOrMelt_92 (by decide) (fun c9 => ?_) (fun c9 => ?_)
        · have hF := hF.trans (if_pos c9)
          exact z_vret C hQ () dX3_snowOrMelt_151 (by rw [hF]; first | done | rfl) (by decide) (by decide)
        · have hF := hF.trans (if_neg c9)
          refine z_iln C dX3_snowOrMelt_95 0 rfl ?_
          refine z_aln C dX3_snowOrMelt_96 1 rfl ?_
          refine z_get (v := .int (g 10 4)) C 0 4 dX3_snowOrMelt_97 rfl rfl rfl hX3 (by decide) (by decide +kernel) rfl ?_
          refine z_imul C dX3_snowOrMelt_100 (v1 * (g 10 4)) rfl ?_
          refine z_bp C dX3_snowOrMelt_101 10 (by decide) ?_
          refine z_cSi0 (As := [.int (v1 * (g 10 4)), .int 10]) (rest := []) C (mJ9_floorDiv_7cf53 l X (v1 * (g 10 4)) 10 (by decide)) gX3_snowOrMelt_J9_floorDiv_7cf53 rfl ⟨by decide, by decide, (by decide : (parseMethodDescriptor yJ9_floorDiv_7cf53.desc).map (fun d => d.parameters.length) = some 2)⟩ ⟨by decide, by decide⟩ ⟨by decide, by decide⟩ (Nat.le_of_ble_eq_true rfl) dX3_snowOrMelt_103 rfl ?_
          refine z_aln C dX3_snowOrMelt_106 1 rfl ?_
          refine z_get (v := .ref (a 1)) C 0 5 dX3_snowOrMelt_107 rfl rfl rfl hX3 (by decide) (by decide +kernel) rfl ?_
          refine z_get (v := .ref (a 11)) C 1 0 dX3_snowOrMelt_110 rfl rfl rfl hX1 (by decide) (by decide +kernel) rfl ?_
          refine z_iln C dX3_snowOrMelt_113 2 rfl ?_
          refine z_iald (f := (g 8)) C 11 k dX3_snowOrMelt_114 rfl (by decide) rfl (by omega) ?_
          refine z_mmin C dX3_snowOrMelt_115 (by decide +kernel) (by decide +kernel) (by decide +kernel) (by decide +kernel) (Nat.le_of_ble_eq_true rfl) (Nat.le_of_ble_eq_true rfl) (Nat.le_of_ble_eq_true rfl) (Nat.le_of_ble_eq_true rfl) ?_
          obtain ⟨v10, hv10⟩ : ∃ z9v, z9v = ((if ((g 8) k) < (fJ9_floorDiv_7cf53 (v1 * (g 10 4)) 10) then ((g 8) k) else (fJ9_floorDiv_7cf53 (v1 * (g 10 4)) 10)) : Int32) := ⟨_, rfl⟩
          have hF := hF.trans (jn_at hv10)
          refine z_nm hv10 ?_
          refine z_isn C 3 [(3, .int v10), (2, .int v1), (0, .ref (a 0)), (1, .int (nI k))] dX3_snowOrMelt_118 rfl (by decide) rfl ?_
          refine z_aln C dX3_snowOrMelt_119 2 rfl ?_
          refine z_get (v := .ref (a 1)) C 0 5 dX3_snowOrMelt_120 rfl rfl rfl hX3 (by decide) (by decide +kernel) rfl ?_
          refine z_iln C dX3_snowOrMelt_123 3 rfl ?_
          refine z_iln C dX3_snowOrMelt_124 0 rfl ?_
          refine z_cVu (As := [.int (nI k), .int v10]) (rest := []) C (mX1_takeLatest l X a (g 8) (g 9) k v10 (by omega)) gX3_snowOrMelt_X1_takeLatest rfl ⟨rfl, by decide, by decide, (by decide : (parseMethodDescriptor yX1_takeLatest.desc).map (fun d => d.parameters.length) = some 2)⟩ ⟨by decide, by decide⟩ ⟨by decide, by decide⟩ 0 1 rfl rfl [1, 11, 12] [0, 2, 3, 4, 5, 6, 7, 8, 9, 10] [0, 10, 1, 2, 3, 4, 5, 6, 7, 8, 9, 11, 12] rfl rfl (by decide) (by decide) (by decide) (by decide) (fun _ => (LW a X (va_up (va_up (va_up g 4 (upd (g 4) k 0)) 8 ((fX1_takeLatest (g 8) (g 9) k v10).1)) 9 ((fX1_takeLatest (g 8) (g 9) k v10).2)))) (fun _ => rfl) (Nat.le_of_ble_eq_true rfl) dX3_snowOrMelt_125 rfl (fun _ => ?_)
          obtain ⟨u11, hu11⟩ : ∃ z9u, z9u = (fX1_takeLatest (g 8) (g 9) k v10) := ⟨_, rfl⟩
          rw [← hu11]
          have hF := hF.trans (jn_at hu11)
          refine z_aln C dX3_snowOrMelt_128 2 rfl ?_
          refine z_get (v := .ref (a 5)) C 0 9 dX3_snowOrMelt_129 rfl rfl rfl hX3 (by decide) (by decide +kernel) rfl ?_
          refine z_iln C dX3_snowOrMelt_132 3 rfl ?_
          refine z_dup2 C dX3_snowOrMelt_133 rfl rfl ?_
          refine z_iald (f := (g 2)) C 5 k dX3_snowOrMelt_134 rfl (by decide) rfl (by omega) ?_
          refine z_iln C dX3_snowOrMelt_135 0 rfl ?_
          refine z_iadd C dX3_snowOrMelt_136 (((g 2) k) + v10) rfl ?_
          refine z_iast (f := (g 2)) C 5 k (LW a X (va_up (va_up (va_up (va_up g 4 (upd (g 4) k 0)) 8 u11.1) 9 u11.2) 2 (upd (g 2) k (((g 2) k) + v10)))) dX3_snowOrMelt_137 rfl (by decide) rfl (by omega) rfl ?_
          refine z_aln C dX3_snowOrMelt_138 2 rfl ?_
          refine z_get (v := .ref (a 2)) C 0 6 dX3_snowOrMelt_139 rfl rfl rfl hX3 (by decide) (by decide +kernel) rfl ?_
          refine z_dup C dX3_snowOrMelt_142 rfl ?_
          refine z_get (v := .int (g 11 2)) C 2 2 dX3_snowOrMelt_143 rfl rfl rfl hX4 (by decide) (by decide +kernel) rfl ?_
          refine z_iln C dX3_snowOrMelt_146 0 rfl ?_
          refine z_iadd C dX3_snowOrMelt_147 ((g 11 2) + v10) rfl ?_
          refine z_put C 2 2 (LW a X (va_up (va_up (va_up (va_up (va_up g 4 (upd (g 4) k 0)) 8 u11.1) 9 u11.2) 2 (upd (g 2) k (((g 2) k) + v10))) 11 (upd (g 11) 2 ((g 11 2) + v10)))) dX3_snowOrMelt_148 rfl rfl hX4 tyX4_ok nmX4 (by decide) (by decide +kernel) rfl rfl rfl rfl rfl (Nat.le_of_ble_eq_true rfl) rfl ?_
          exact z_vret C hQ () dX3_snowOrMelt_151 (by rw [hF]; first | done | rfl) (by decide) (by decide)
      · have hF := hF.trans (if_pos c8)
        refine z_aln C dX3_snowOrMelt_46 1 rfl ?_
        refine z_get (v := .ref (a 7)) C 0 11 dX3_snowOrMelt_47 rfl rfl rfl hX3 (by decide) (by decide +kernel) rfl ?_
        refine z_iln C dX3_snowOrMelt_50 2 rfl ?_
        refine z_aln C dX3_snowOrMelt_51 1 rfl ?_
        refine z_get (v := .int (g 10 3)) C 0 3 dX3_snowOrMelt_52 rfl rfl rfl hX3 (by decide) (by decide +kernel) rfl ?_
        refine z_iast (f := (upd (g 4) k 0)) C 7 k (LW a X (va_up (va_up g 4 (upd (g 4) k 0)) 4 (upd (upd (g 4) k 0) k (g 10 3)))) dX3_snowOrMelt_55 rfl (by decide) rfl (by omega) rfl ?_
        refine z_aln C dX3_snowOrMelt_56 1 rfl ?_
        refine z_get (v := .ref (a 1)) C 0 5 dX3_snowOrMelt_57 rfl rfl rfl hX3 (by decide) (by decide +kernel) rfl ?_
        refine z_iln C dX3_snowOrMelt_60 2 rfl ?_
        refine z_aln C dX3_snowOrMelt_61 1 rfl ?_
        refine z_get (v := .int (g 10 0)) C 0 0 dX3_snowOrMelt_62 rfl rfl rfl hX3 (by decide) (by decide +kernel) rfl ?_
        refine z_nm (show nI ((g 10 0).toNatClampNeg) = (g 10 0) from (zn_in hy1)) ?_
        refine z_aln C dX3_snowOrMelt_65 1 rfl ?_
        refine z_get (v := .int (g 10 3)) C 0 3 dX3_snowOrMelt_66 rfl rfl rfl hX3 (by decide) (by decide +kernel) rfl ?_
        refine z_cVu (As := [.int (nI k), .int (nI ((g 10 0).toNatClampNeg)), .int (g 10 3)]) (rest := []) C (mX1_lay l X a (g 8) (g 9) k ((g 10 0).toNatClampNeg) (g 10 3) (by omega) (zn_lt hy1)) gX3_snowOrMelt_X1_lay rfl ⟨rfl, by decide, by decide, (by decide : (parseMethodDescriptor yX1_lay.desc).map (fun d => d.parameters.length) = some 3)⟩ ⟨by decide, by decide⟩ ⟨by decide, by decide⟩ 0 1 rfl rfl [1, 11, 12] [0, 2, 3, 4, 5, 6, 7, 8, 9, 10] [0, 10, 1, 2, 3, 4, 5, 6, 7, 8, 9, 11, 12] rfl rfl (by decide) (by decide) (by decide) (by decide) (fun _ => (LW a X (va_up (va_up (va_up (va_up g 4 (upd (g 4) k 0)) 4 (upd (upd (g 4) k 0) k (g 10 3))) 8 ((fX1_lay (g 8) (g 9) k ((g 10 0).toNatClampNeg) (g 10 3)).1)) 9 ((fX1_lay (g 8) (g 9) k ((g 10 0).toNatClampNeg) (g 10 3)).2)))) (fun _ => rfl) (Nat.le_of_ble_eq_true rfl) dX3_snowOrMelt_69 rfl (fun _ => ?_)
        obtain ⟨u12, hu12⟩ : ∃ z9u, z9u = (fX1_lay (g 8) (g 9) k ((g 10 0).toNatClampNeg) (g 10 3)) := ⟨_, rfl⟩
        rw [← hu12]
        have hF := hF.trans (jn_at hu12)
        refine z_aln C dX3_snowOrMelt_72 1 rfl ?_
        refine z_get (v := .ref (a 2)) C 0 6 dX3_snowOrMelt_73 rfl rfl rfl hX3 (by decide) (by decide +kernel) rfl ?_
        refine z_dup C dX3_snowOrMelt_76 rfl ?_
        refine z_get (v := .int (g 11 0)) C 2 0 dX3_snowOrMelt_77 rfl rfl rfl hX4 (by decide) (by decide +kernel) rfl ?_
        refine z_aln C dX3_snowOrMelt_80 1 rfl ?_
        refine z_get (v := .int (g 10 3)) C 0 3 dX3_snowOrMelt_81 rfl rfl rfl hX3 (by decide) (by decide +kernel) rfl ?_
        refine z_iadd C dX3_snowOrMelt_84 ((g 11 0) + (g 10 3)) rfl ?_
        refine z_put C 2 0 (LW a X (va_up (va_up (va_up (va_up (va_up g 4 (upd (g 4) k 0)) 4 (upd (upd (g 4) k 0) k (g 10 3))) 8 u12.1) 9 u12.2) 11 (upd (g 11) 0 ((g 11 0) + (g 10 3))))) dX3_snowOrMelt_85 rfl rfl hX4 tyX4_ok nmX4 (by decide) (by decide +kernel) rfl rfl rfl rfl rfl (Nat.le_of_ble_eq_true rfl) rfl ?_
        refine z_go C 151 dX3_snowOrMelt_88 (by decide) ?_
        exact z_vret C hQ () dX3_snowOrMelt_151 (by rw [hF]; first | done | rfl) (by decide) (by decide)
theorem snow_10 (g : zG) (k : Nat) : fX3_snowOrMelt g k 10 = g 10 := by
  simp only [fX3_snowOrMelt, jn]
  (repeat' split) <;> rfl
def fX3_givenBy (g : zG) (k : Nat) (v : Int32) : Int32 := (jn (fJ9_floorDiv_f86c9 (v.toInt64 * ((g 8) k).toInt64) 200) (fun (v1 : Int64) => (jn (if ((g 2) k) < 4 then v1 else (v1 * 2)) (fun (v2 : Int64) => (if (fJ9_floorDiv_7cf53 ((g 8) k) 4).toInt64 < v2 then (fJ9_floorDiv_7cf53 ((g 8) k) 4).toInt64 else v2).toInt32))))
set_option maxHeartbeats 4000000 in
set_option maxRecDepth 100000 in
theorem mX3_givenBy (l : Launch) (X : zX) (a : Nat → Nat) (g : zG) (k : Nat) (v : Int32) (hy0 : k < 12) : CI l yX3_givenBy wsX3_givenBy 1 25 0 0 X (LW a X g) [.ref (a 0), .int (nI k), .int v] (fX3_givenBy g k v) (LW a X g) := by
  obtain ⟨res, hF⟩ : ∃ z9r, z9r = fX3_givenBy g k v := ⟨_, rfl⟩
  rw [← hF]
  refine ci_intro (cc := cX3_givenBy) (ret := (some .int)) (maxL := 5) (by decide +kernel) rfl (Nat.le_of_ble_eq_true rfl) ?_
  intro p e s m args below meth c A Q C hQ
  have hX1 : ∀ w ∈ wsX10, w ∈ wsX3_givenBy := by decide +kernel
  have hX3 : ∀ w ∈ wsX30, w ∈ wsX3_givenBy := by decide +kernel
  show Z p l e { frames := 1, cells := 0, slots := 0, locals := 25 } s m args below meth c X A 5 Q 0 0 (LW a X g) [(0, .ref (a 0)), (1, .int (nI k)), (2, .int v)] 0 []
  refine z_iln C dX3_givenBy_0 2 rfl ?_
  refine z_i2l C dX3_givenBy_1 v.toInt64 rfl ?_
  refine z_aln C dX3_givenBy_2 0 rfl ?_
  refine z_get (v := .ref (a 1)) C 0 5 dX3_givenBy_3 rfl rfl rfl hX3 (by decide) (by decide +kernel) rfl ?_
  refine z_get (v := .ref (a 11)) C 1 0 dX3_givenBy_6 rfl rfl rfl hX1 (by decide) (by decide +kernel) rfl ?_
  refine z_iln C dX3_givenBy_9 1 rfl ?_
  refine z_iald (f := (g 8)) C 11 k dX3_givenBy_10 rfl (by decide) rfl (by omega) ?_
  refine z_i2l C dX3_givenBy_11 ((g 8) k).toInt64 rfl ?_
  refine z_lmul C dX3_givenBy_12 (v.toInt64 * ((g 8) k).toInt64) rfl ?_
  refine z_ldc2 C (v := 200) dX3_givenBy_13 (by decide +kernel) ?_
  refine z_cSl0 (As := [.long (v.toInt64 * ((g 8) k).toInt64), .long 200]) (rest := []) C (mJ9_floorDiv_f86c9 l X (v.toInt64 * ((g 8) k).toInt64) 200 (by decide)) gX3_givenBy_J9_floorDiv_f86c9 rfl ⟨by decide, by decide, (by decide : (parseMethodDescriptor yJ9_floorDiv_f86c9.desc).map (fun d => d.parameters.length) = some 2)⟩ ⟨by decide, by decide⟩ ⟨by decide, by decide⟩ (Nat.le_of_ble_eq_true rfl) dX3_givenBy_16 rfl ?_
  obtain ⟨v1, hv1⟩ : ∃ z9v, z9v = ((fJ9_floorDiv_f86c9 (v.toInt64 * ((g 8) k).toInt64) 200) : Int64) := ⟨_, rfl⟩
  have hF := hF.trans (jn_at hv1)
  refine z_nml hv1 ?_
  refine z_lsn C 3 [(3, .long v1), (0, .ref (a 0)), (1, .int (nI k)), (2, .int v)] dX3_givenBy_19 rfl (by decide) rfl ?_
  obtain ⟨v2, hv2⟩ : ∃ z9v, z9v = ((if ((g 2) k) < 4 then v1 else (v1 * 2)) : Int64) := ⟨_, rfl⟩
  have hF := hF.trans (jn_at hv2)
  have Jv2 : Z p l e { frames := 1, cells := 0, slots := 0, locals := 25 } s m args below meth c X A 5 Q 0 0 (LW a X g) [(0, .ref (a 0)), (1, .int (nI k)), (2, .int v), (3, .long v2)] 36 [] := by
    refine z_lln C dX3_givenBy_36 3 rfl ?_
    refine z_aln C dX3_givenBy_37 0 rfl ?_
    refine z_get (v := .ref (a 1)) C 0 5 dX3_givenBy_38 rfl rfl rfl hX3 (by decide) (by decide +kernel) rfl ?_
    refine z_get (v := .ref (a 11)) C 1 0 dX3_givenBy_41 rfl rfl rfl hX1 (by decide) (by decide +kernel) rfl ?_
    refine z_iln C dX3_givenBy_44 1 rfl ?_
    refine z_iald (f := (g 8)) C 11 k dX3_givenBy_45 rfl (by decide) rfl (by omega) ?_
    refine z_ic C dX3_givenBy_46 4 (by decide) ?_
    refine z_cSi0 (As := [.int ((g 8) k), .int 4]) (rest := [.long v2]) C (mJ9_floorDiv_7cf53 l X ((g 8) k) 4 (by decide)) gX3_givenBy_J9_floorDiv_7cf53 rfl ⟨by decide, by decide, (by decide : (parseMethodDescriptor yJ9_floorDiv_7cf53.desc).map (fun d => d.parameters.length) = some 2)⟩ ⟨by decide, by decide⟩ ⟨by decide, by decide⟩ (Nat.le_of_ble_eq_true rfl) dX3_givenBy_47 rfl ?_
    refine z_i2l C dX3_givenBy_50 (fJ9_floorDiv_7cf53 ((g 8) k) 4).toInt64 rfl ?_
    refine z_mminl C dX3_givenBy_51 (by decide +kernel) (by decide +kernel) (by decide +kernel) (by decide +kernel) (Nat.le_of_ble_eq_true rfl) (Nat.le_of_ble_eq_true rfl) (Nat.le_of_ble_eq_true rfl) (Nat.le_of_ble_eq_true rfl) ?_
    refine z_l2i C dX3_givenBy_54 (if (fJ9_floorDiv_7cf53 ((g 8) k) 4).toInt64 < v2 then (fJ9_floorDiv_7cf53 ((g 8) k) 4).toInt64 else v2).toInt32 rfl ?_
    exact z_iret C hQ dX3_givenBy_55 (by rw [hF]; first | done | rfl) rfl (by decide) (by decide)
  refine z_aln C dX3_givenBy_20 1 rfl ?_
  refine z_get (v := .ref (a 5)) C 0 9 dX3_givenBy_21 rfl rfl rfl hX3 (by decide) (by decide +kernel) rfl ?_
  refine z_iln C dX3_givenBy_24 2 rfl ?_
  refine z_iald (f := (g 2)) C 5 k dX3_givenBy_25 rfl (by decide) rfl (by omega) ?_
  refine z_ic C dX3_givenBy_26 4 (by decide) ?_
  refine z_ic_lt C 36 dX3_givenBy_27 (by decide) (fun c3 => ?_) (fun c3 => ?_)
  · have hv2 := hv2.trans (if_pos c3)
    refine z_lv [1, 2, 3, 0] [(0, .ref (a 0)), (1, .int (nI k)), (2, .int v), (3, .long v1)] rfl ?_
    rw [hv2] at Jv2
    exact Jv2
  · have hv2 := hv2.trans (if_neg c3)
    refine z_lln C dX3_givenBy_30 0 rfl ?_
    refine z_ldc2 C (v := 2) dX3_givenBy_31 (by decide +kernel) ?_
    refine z_lmul C dX3_givenBy_34 (v1 * 2) rfl ?_
    refine z_lsn C 3 [(3, .long (v1 * 2)), (0, .ref (a 0)), (1, .int (nI k)), (2, .int v)] dX3_givenBy_35 rfl (by decide) rfl ?_
    refine z_lv [1, 2, 3, 0] [(0, .ref (a 0)), (1, .int (nI k)), (2, .int v), (3, .long (v1 * 2))] rfl ?_
    rw [hv2] at Jv2
    exact Jv2
def fX3_givenToNext (g : zG) (k : Nat) : Int32 := (jn ((fX3_surface g k) - (fX3_surface g (k + 1))) (fun (v1 : Int32) => (if v1 ≤ 0 then (-(fX3_givenBy g (k + 1) (-v1))) else (fX3_givenBy g k v1))))
set_option maxHeartbeats 4000000 in
set_option maxRecDepth 100000 in
theorem mX3_givenToNext (l : Launch) (X : zX) (a : Nat → Nat) (g : zG) (k : Nat) (hy0 : k < 11) : CI l yX3_givenToNext wsX3_givenToNext 2 49 0 0 X (LW a X g) [.ref (a 0), .int (nI k)] (fX3_givenToNext g k) (LW a X g) := by
  obtain ⟨res, hF⟩ : ∃ z9r, z9r = fX3_givenToNext g k := ⟨_, rfl⟩
  rw [← hF]
  refine ci_intro (cc := cX3_givenToNext) (ret := (some .int)) (maxL := 3) (by decide +kernel) rfl (Nat.le_of_ble_eq_true rfl) ?_
  intro p e s m args below meth c A Q C hQ
  show Z p l e { frames := 2, cells := 0, slots := 0, locals := 49 } s m args below meth c X A 3 Q 0 0 (LW a X g) [(0, .ref (a 0)), (1, .int (nI k))] 0 []
  refine z_aln C dX3_givenToNext_0 0 rfl ?_
  refine z_iln C dX3_givenToNext_1 1 rfl ?_
  refine z_cVi0 (As := [.int (nI k)]) (rest := []) C (mX3_surface l X a g k (by omega)) gX3_givenToNext_X3_surface rfl ⟨rfl, by decide, by decide, (by decide : (parseMethodDescriptor yX3_surface.desc).map (fun d => d.parameters.length) = some 1)⟩ ⟨by decide, by decide⟩ ⟨by decide, by decide⟩ 0 3 rfl rfl (Nat.le_of_ble_eq_true rfl) dX3_givenToNext_2 rfl ?_
  refine z_aln C dX3_givenToNext_5 0 rfl ?_
  refine z_iln C dX3_givenToNext_6 1 rfl ?_
  refine z_ic C dX3_givenToNext_7 1 (by decide) ?_
  refine z_iadd C dX3_givenToNext_8 (nI (k + 1)) (nI_add k 1) ?_
  refine z_cVi0 (As := [.int (nI (k + 1))]) (rest := [.int (fX3_surface g k)]) C (mX3_surface l X a g (k + 1) (by omega)) gX3_givenToNext_X3_surface rfl ⟨rfl, by decide, by decide, (by decide : (parseMethodDescriptor yX3_surface.desc).map (fun d => d.parameters.length) = some 1)⟩ ⟨by decide, by decide⟩ ⟨by decide, by decide⟩ 0 3 rfl rfl (Nat.le_of_ble_eq_true rfl) dX3_givenToNext_9 rfl ?_
  refine z_isub C dX3_givenToNext_12 ((fX3_surface g k) - (fX3_surface g (k + 1))) rfl ?_
  obtain ⟨v1, hv1⟩ : ∃ z9v, z9v = (((fX3_surface g k) - (fX3_surface g (k + 1))) : Int32) := ⟨_, rfl⟩
  have hF := hF.trans (jn_at hv1)
  refine z_nm hv1 ?_
  refine z_isn C 2 [(2, .int v1), (0, .ref (a 0)), (1, .int (nI k))] dX3_givenToNext_13 rfl (by decide) rfl ?_
  refine z_iln C dX3_givenToNext_14 0 rfl ?_
  refine z_if_le C 25 dX3_givenToNext_15 (by decide) (fun c2 => ?_) (fun c2 => ?_)
  · have hF := hF.trans (if_pos c2)
    refine z_aln C dX3_givenToNext_25 1 rfl ?_
    refine z_iln C dX3_givenToNext_26 2 rfl ?_
    refine z_ic C dX3_givenToNext_27 1 (by decide) ?_
    refine z_iadd C dX3_givenToNext_28 (nI (k + 1)) (nI_add k 1) ?_
    refine z_iln C dX3_givenToNext_29 0 rfl ?_
    refine z_ineg C dX3_givenToNext_30 (-v1) rfl ?_
    refine z_cVi0 (As := [.int (nI (k + 1)), .int (-v1)]) (rest := []) C (mX3_givenBy l X a g (k + 1) (-v1) (by omega)) gX3_givenToNext_X3_givenBy rfl ⟨rfl, by decide, by decide, (by decide : (parseMethodDescriptor yX3_givenBy.desc).map (fun d => d.parameters.length) = some 2)⟩ ⟨by decide, by decide⟩ ⟨by decide, by decide⟩ 0 3 rfl rfl (Nat.le_of_ble_eq_true rfl) dX3_givenToNext_31 rfl ?_
    refine z_ineg C dX3_givenToNext_34 (-(fX3_givenBy g (k + 1) (-v1))) rfl ?_
    exact z_iret C hQ dX3_givenToNext_35 (by rw [hF]; first | done | rfl) rfl (by decide) (by decide)
  · have hF := hF.trans (if_neg c2)
    refine z_aln C dX3_givenToNext_18 1 rfl ?_
    refine z_iln C dX3_givenToNext_19 2 rfl ?_
    refine z_iln C dX3_givenToNext_20 0 rfl ?_
    refine z_cVi0 (As := [.int (nI k), .int v1]) (rest := []) C (mX3_givenBy l X a g k v1 (by omega)) gX3_givenToNext_X3_givenBy rfl ⟨rfl, by decide, by decide, (by decide : (parseMethodDescriptor yX3_givenBy.desc).map (fun d => d.parameters.length) = some 2)⟩ ⟨by decide, by decide⟩ ⟨by decide, by decide⟩ 0 3 rfl rfl (Nat.le_of_ble_eq_true rfl) dX3_givenToNext_21 rfl ?_
    exact z_iret C hQ dX3_givenToNext_24 (by rw [hF]; first | done | rfl) rfl (by decide) (by decide)
def fX3_flow_L48 : Nat → Nat → zG → zG
  | 0, k8, x7 => x7
  | nk8 + 1, k8, x7 => (jn ((x7 6) k8) (fun (v11 : Int32) => (if v11 ≤ 0 then (if 0 ≤ v11 then (fX3_flow_L48 nk8 (k8 + 1) (va_up (va_up x7 5 (upd (x7 5) k8 (((x7 5) k8) - v11))) 5 (upd (upd (x7 5) k8 (((x7 5) k8) - v11)) (k8 + 1) (((upd (x7 5) k8 (((x7 5) k8) - v11)) (k8 + 1)) + v11)))) else (jn (fX1_carryEarliest (x7 8) (x7 9) (k8 + 1) k8 (-v11)) (fun u14 => (fX3_flow_L48 nk8 (k8 + 1) (va_up (va_up (va_up (va_up x7 5 (upd (x7 5) k8 (((x7 5) k8) - v11))) 5 (upd (upd (x7 5) k8 (((x7 5) k8) - v11)) (k8 + 1) (((upd (x7 5) k8 (((x7 5) k8) - v11)) (k8 + 1)) + v11))) 8 u14.1) 9 u14.2))))) else (jn (fX1_carryEarliest (x7 8) (x7 9) k8 (k8 + 1) v11) (fun u15 => (fX3_flow_L48 nk8 (k8 + 1) (va_up (va_up (va_up (va_up x7 5 (upd (x7 5) k8 (((x7 5) k8) - v11))) 5 (upd (upd (x7 5) k8 (((x7 5) k8) - v11)) (k8 + 1) (((upd (x7 5) k8 (((x7 5) k8) - v11)) (k8 + 1)) + v11))) 8 u15.1) 9 u15.2)))))))
def fX3_flow_L27 : Nat → Nat → zG → zG
  | 0, k5, x4 => (fX3_flow_L48 11 0 x4)
  | nk5 + 1, k5, x4 => (fX3_flow_L27 nk5 (k5 + 1) (va_up x4 5 (upd (x4 5) k5 0)))
def fX3_flow_L2 : Nat → Nat → zG → zG
  | 0, k2, x1 => (fX3_flow_L27 12 0 x1)
  | nk2 + 1, k2, x1 => (fX3_flow_L2 nk2 (k2 + 1) (va_up x1 6 (upd (x1 6) k2 (fX3_givenToNext x1 k2))))
def fX3_flow (g : zG) : zG := (fX3_flow_L2 11 0 g)
set_option maxHeartbeats 4000000 in
set_option maxRecDepth 100000 in
theorem mX3_flow (l : Launch) (X : zX) (a : Nat → Nat) (g : zG) : CV l yX3_flow wsX3_flow 3 71 0 0 X (LW a X g) [.ref (a 0)] (LW a X (fX3_flow g)) := by
  obtain ⟨res, hF⟩ : ∃ z9r, z9r = fX3_flow g := ⟨_, rfl⟩
  rw [← hF]
  refine cu_intro (cc := cX3_flow) (ret := none) (maxL := 3) (by decide +kernel) rfl (Nat.le_of_ble_eq_true rfl) ?_
  intro p e s m args below meth c A Q C hQ
  have hX3 : ∀ w ∈ wsX30, w ∈ wsX3_flow := by decide +kernel
  show Z p l e { frames := 3, cells := 0, slots := 0, locals := 71 } s m args below meth c X A 3 Q 0 0 (LW a X g) [(0, .ref (a 0))] 0 []
  refine z_ic C dX3_flow_0 0 (by decide) ?_
  refine z_isn C 1 [(1, .int 0), (0, .ref (a 0))] dX3_flow_1 rfl (by decide) rfl ?_
  refine z_lv [1, 0] [(0, .ref (a 0)), (1, .int 0)] rfl ?_
  have LPk2 : ∀ (nk2 k2 : Nat) (x1 : zG), k2 + nk2 = 11 → res = fX3_flow_L2 nk2 k2 x1 → Z p l e { frames := 3, cells := 0, slots := 0, locals := 71 } s m args below meth c X A 3 Q 0 0 (LW a X x1) [(0, .ref (a 0)), (1, .int (nI k2))] 2 [] := by
    intro nk2
    induction nk2 with
    | zero =>
      intro k2 x1 hkk2 hF
      refine z_iln C dX3_flow_2 1 rfl ?_
      refine z_bp C dX3_flow_3 11 (by decide) ?_
      refine z_ic_geN C k2 11 25 dX3_flow_5 (by decide) rfl rfl (by omega) (by omega) (fun c3 => ?_) (fun c3 => ?_)
      rotate_left
      · exact absurd c3 (by omega)
      refine z_ic C dX3_flow_25 0 (by decide) ?_
      refine z_isn C 1 [(1, .int 0), (0, .ref (a 0))] dX3_flow_26 rfl (by decide) rfl ?_
      refine z_lv [1, 0] [(0, .ref (a 0)), (1, .int 0)] rfl ?_
      have LPk5 : ∀ (nk5 k5 : Nat) (x4 : zG), k5 + nk5 = 12 → res = fX3_flow_L27 nk5 k5 x4 → Z p l e { frames := 3, cells := 0, slots := 0, locals := 71 } s m args below meth c X A 3 Q 0 0 (LW a X x4) [(0, .ref (a 0)), (1, .int (nI k5))] 27 [] := by
        intro nk5
        induction nk5 with
        | zero =>
          intro k5 x4 hkk5 hF
          refine z_iln C dX3_flow_27 1 rfl ?_
          refine z_bp C dX3_flow_28 12 (by decide) ?_
          refine z_ic_geN C k5 12 46 dX3_flow_30 (by decide) rfl rfl (by omega) (by omega) (fun c6 => ?_) (fun c6 => ?_)
          rotate_left
          · exact absurd c6 (by omega)
          refine z_ic C dX3_flow_46 0 (by decide) ?_
          refine z_isn C 1 [(1, .int 0), (0, .ref (a 0))] dX3_flow_47 rfl (by decide) rfl ?_
          refine z_lv [1, 0] [(0, .ref (a 0)), (1, .int 0)] rfl ?_
          have LPk8 : ∀ (nk8 k8 : Nat) (x7 : zG), k8 + nk8 = 11 → res = fX3_flow_L48 nk8 k8 x7 → Z p l e { frames := 3, cells := 0, slots := 0, locals := 71 } s m args below meth c X A 3 Q 0 0 (LW a X x7) [(0, .ref (a 0)), (1, .int (nI k8))] 48 [] := by
            intro nk8
            induction nk8 with
            | zero =>
              intro k8 x7 hkk8 hF
              refine z_iln C dX3_flow_48 1 rfl ?_
              refine z_bp C dX3_flow_49 11 (by decide) ?_
              refine z_ic_geN C k8 11 125 dX3_flow_51 (by decide) rfl rfl (by omega) (by omega) (fun c9 => ?_) (fun c9 => ?_)
              rotate_left
              · exact absurd c9 (by omega)
              exact z_vret C hQ () dX3_flow_125 (by rw [hF]; first | done | rfl) (by decide) (by decide)
            | succ nk8 ihk8 =>
              intro k8 x7 hkk8 hF
              refine z_iln C dX3_flow_48 1 rfl ?_
              refine z_bp C dX3_flow_49 11 (by decide) ?_
              refine z_ic_geN C k8 11 125 dX3_flow_51 (by decide) rfl rfl (by omega) (by omega) (fun c10 => ?_) (fun c10 => ?_)
              · exact absurd c10 (by omega)
              refine z_aln C dX3_flow_54 0 rfl ?_
              refine z_get (v := .ref (a 9)) C 0 13 dX3_flow_55 rfl rfl rfl hX3 (by decide) (by decide +kernel) rfl ?_
              refine z_iln C dX3_flow_58 1 rfl ?_
              refine z_iald (f := (x7 6)) C 9 k8 dX3_flow_59 rfl (by decide) rfl (by omega) ?_
              obtain ⟨v11, hv11⟩ : ∃ z9v, z9v = (((x7 6) k8) : Int32) := ⟨_, rfl⟩
              have hF := hF.trans (jn_at hv11)
              refine z_nm hv11 ?_
              refine z_isn C 2 [(2, .int v11), (0, .ref (a 0)), (1, .int (nI k8))] dX3_flow_60 rfl (by decide) rfl ?_
              refine z_aln C dX3_flow_61 1 rfl ?_
              refine z_get (v := .ref (a 8)) C 0 12 dX3_flow_62 rfl rfl rfl hX3 (by decide) (by decide +kernel) rfl ?_
              refine z_iln C dX3_flow_65 2 rfl ?_
              refine z_dup2 C dX3_flow_66 rfl rfl ?_
              refine z_iald (f := (x7 5)) C 8 k8 dX3_flow_67 rfl (by decide) rfl (by omega) ?_
              refine z_iln C dX3_flow_68 0 rfl ?_
              refine z_isub C dX3_flow_69 (((x7 5) k8) - v11) rfl ?_
              refine z_iast (f := (x7 5)) C 8 k8 (LW a X (va_up x7 5 (upd (x7 5) k8 (((x7 5) k8) - v11)))) dX3_flow_70 rfl (by decide) rfl (by omega) rfl ?_
              refine z_aln C dX3_flow_71 1 rfl ?_
              refine z_get (v := .ref (a 8)) C 0 12 dX3_flow_72 rfl rfl rfl hX3 (by decide) (by decide +kernel) rfl ?_
              refine z_iln C dX3_flow_75 2 rfl ?_
              refine z_ic C dX3_flow_76 1 (by decide) ?_
              refine z_iadd C dX3_flow_77 (nI (k8 + 1)) (nI_add k8 1) ?_
              refine z_dup2 C dX3_flow_78 rfl rfl ?_
              refine z_iald (f := (upd (x7 5) k8 (((x7 5) k8) - v11))) C 8 (k8 + 1) dX3_flow_79 rfl (by decide) rfl (by omega) ?_
              refine z_iln C dX3_flow_80 0 rfl ?_
              refine z_iadd C dX3_flow_81 (((upd (x7 5) k8 (((x7 5) k8) - v11)) (k8 + 1)) + v11) rfl ?_
              refine z_iast (f := (upd (x7 5) k8 (((x7 5) k8) - v11))) C 8 (k8 + 1) (LW a X (va_up (va_up x7 5 (upd (x7 5) k8 (((x7 5) k8) - v11))) 5 (upd (upd (x7 5) k8 (((x7 5) k8) - v11)) (k8 + 1) (((upd (x7 5) k8 (((x7 5) k8) - v11)) (k8 + 1)) + v11)))) dX3_flow_82 rfl (by decide) rfl (by omega) rfl ?_
              refine z_iln C dX3_flow_83 0 rfl ?_
              refine z_if_le C 102 dX3_flow_84 (by decide) (fun c12 => ?_) (fun c12 => ?_)
              · have hF := hF.trans (if_pos c12)
                refine z_iln C dX3_flow_102 0 rfl ?_
                refine z_if_ge C 119 dX3_flow_103 (by decide) (fun c13 => ?_) (fun c13 => ?_)
                · have hF := hF.trans (if_pos c13)
                  refine z_inc C 2 (nI (k8 + 1)) [(1, .int (nI (k8 + 1))), (2, .int v11), (0, .ref (a 0))] dX3_flow_119 rfl (nI_add k8 1) (by decide) rfl ?_
                  refine z_go C 48 dX3_flow_122 (by decide) ?_
                  refine z_lv [2, 0] [(0, .ref (a 0)), (1, .int (nI (k8 + 1)))] rfl ?_
                  exact ihk8 (k8 + 1) (va_up (va_up x7 5 (upd (x7 5) k8 (((x7 5) k8) - v11))) 5 (upd (upd (x7 5) k8 (((x7 5) k8) - v11)) (k8 + 1) (((upd (x7 5) k8 (((x7 5) k8) - v11)) (k8 + 1)) + v11))) (by omega) hF
                · have hF := hF.trans (if_neg c13)
                  refine z_aln C dX3_flow_106 1 rfl ?_
                  refine z_get (v := .ref (a 1)) C 0 5 dX3_flow_107 rfl rfl rfl hX3 (by decide) (by decide +kernel) rfl ?_
                  refine z_iln C dX3_flow_110 2 rfl ?_
                  refine z_ic C dX3_flow_111 1 (by decide) ?_
                  refine z_iadd C dX3_flow_112 (nI (k8 + 1)) (nI_add k8 1) ?_
                  refine z_iln C dX3_flow_113 2 rfl ?_
                  refine z_iln C dX3_flow_114 0 rfl ?_
                  refine z_ineg C dX3_flow_115 (-v11) rfl ?_
                  refine z_cVu (As := [.int (nI (k8 + 1)), .int (nI k8), .int (-v11)]) (rest := []) C (mX1_carryEarliest l X a (x7 8) (x7 9) (k8 + 1) k8 (-v11) (by omega) (by omega)) gX3_flow_X1_carryEarliest rfl ⟨rfl, by decide, by decide, (by decide : (parseMethodDescriptor yX1_carryEarliest.desc).map (fun d => d.parameters.length) = some 3)⟩ ⟨by decide, by decide⟩ ⟨by decide, by decide⟩ 0 1 rfl rfl [1, 11, 12] [0, 2, 3, 4, 5, 6, 7, 8, 9, 10] [0, 10, 1, 2, 3, 4, 5, 6, 7, 8, 9, 11, 12] rfl rfl (by decide) (by decide) (by decide) (by decide) (fun _ => (LW a X (va_up (va_up (va_up (va_up x7 5 (upd (x7 5) k8 (((x7 5) k8) - v11))) 5 (upd (upd (x7 5) k8 (((x7 5) k8) - v11)) (k8 + 1) (((upd (x7 5) k8 (((x7 5) k8) - v11)) (k8 + 1)) + v11))) 8 ((fX1_carryEarliest (x7 8) (x7 9) (k8 + 1) k8 (-v11)).1)) 9 ((fX1_carryEarliest (x7 8) (x7 9) (k8 + 1) k8 (-v11)).2)))) (fun _ => rfl) (Nat.le_of_ble_eq_true rfl) dX3_flow_116 rfl (fun _ => ?_)
                  obtain ⟨u14, hu14⟩ : ∃ z9u, z9u = (fX1_carryEarliest (x7 8) (x7 9) (k8 + 1) k8 (-v11)) := ⟨_, rfl⟩
                  rw [← hu14]
                  have hF := hF.trans (jn_at hu14)
                  refine z_inc C 2 (nI (k8 + 1)) [(1, .int (nI (k8 + 1))), (2, .int v11), (0, .ref (a 0))] dX3_flow_119 rfl (nI_add k8 1) (by decide) rfl ?_
                  refine z_go C 48 dX3_flow_122 (by decide) ?_
                  refine z_lv [2, 0] [(0, .ref (a 0)), (1, .int (nI (k8 + 1)))] rfl ?_
                  exact ihk8 (k8 + 1) (va_up (va_up (va_up (va_up x7 5 (upd (x7 5) k8 (((x7 5) k8) - v11))) 5 (upd (upd (x7 5) k8 (((x7 5) k8) - v11)) (k8 + 1) (((upd (x7 5) k8 (((x7 5) k8) - v11)) (k8 + 1)) + v11))) 8 u14.1) 9 u14.2) (by omega) hF
              · have hF := hF.trans (if_neg c12)
                refine z_aln C dX3_flow_87 1 rfl ?_
                refine z_get (v := .ref (a 1)) C 0 5 dX3_flow_88 rfl rfl rfl hX3 (by decide) (by decide +kernel) rfl ?_
                refine z_iln C dX3_flow_91 2 rfl ?_
                refine z_iln C dX3_flow_92 2 rfl ?_
                refine z_ic C dX3_flow_93 1 (by decide) ?_
                refine z_iadd C dX3_flow_94 (nI (k8 + 1)) (nI_add k8 1) ?_
                refine z_iln C dX3_flow_95 0 rfl ?_
                refine z_cVu (As := [.int (nI k8), .int (nI (k8 + 1)), .int v11]) (rest := []) C (mX1_carryEarliest l X a (x7 8) (x7 9) k8 (k8 + 1) v11 (by omega) (by omega)) gX3_flow_X1_carryEarliest rfl ⟨rfl, by decide, by decide, (by decide : (parseMethodDescriptor yX1_carryEarliest.desc).map (fun d => d.parameters.length) = some 3)⟩ ⟨by decide, by decide⟩ ⟨by decide, by decide⟩ 0 1 rfl rfl [1, 11, 12] [0, 2, 3, 4, 5, 6, 7, 8, 9, 10] [0, 10, 1, 2, 3, 4, 5, 6, 7, 8, 9, 11, 12] rfl rfl (by decide) (by decide) (by decide) (by decide) (fun _ => (LW a X (va_up (va_up (va_up (va_up x7 5 (upd (x7 5) k8 (((x7 5) k8) - v11))) 5 (upd (upd (x7 5) k8 (((x7 5) k8) - v11)) (k8 + 1) (((upd (x7 5) k8 (((x7 5) k8) - v11)) (k8 + 1)) + v11))) 8 ((fX1_carryEarliest (x7 8) (x7 9) k8 (k8 + 1) v11).1)) 9 ((fX1_carryEarliest (x7 8) (x7 9) k8 (k8 + 1) v11).2)))) (fun _ => rfl) (Nat.le_of_ble_eq_true rfl) dX3_flow_96 rfl (fun _ => ?_)
                obtain ⟨u15, hu15⟩ : ∃ z9u, z9u = (fX1_carryEarliest (x7 8) (x7 9) k8 (k8 + 1) v11) := ⟨_, rfl⟩
                rw [← hu15]
                have hF := hF.trans (jn_at hu15)
                refine z_go C 119 dX3_flow_99 (by decide) ?_
                refine z_inc C 2 (nI (k8 + 1)) [(1, .int (nI (k8 + 1))), (2, .int v11), (0, .ref (a 0))] dX3_flow_119 rfl (nI_add k8 1) (by decide) rfl ?_
                refine z_go C 48 dX3_flow_122 (by decide) ?_
                refine z_lv [2, 0] [(0, .ref (a 0)), (1, .int (nI (k8 + 1)))] rfl ?_
                exact ihk8 (k8 + 1) (va_up (va_up (va_up (va_up x7 5 (upd (x7 5) k8 (((x7 5) k8) - v11))) 5 (upd (upd (x7 5) k8 (((x7 5) k8) - v11)) (k8 + 1) (((upd (x7 5) k8 (((x7 5) k8) - v11)) (k8 + 1)) + v11))) 8 u15.1) 9 u15.2) (by omega) hF
          exact LPk8 11 0 x4 (by omega) hF
        | succ nk5 ihk5 =>
          intro k5 x4 hkk5 hF
          refine z_iln C dX3_flow_27 1 rfl ?_
          refine z_bp C dX3_flow_28 12 (by decide) ?_
          refine z_ic_geN C k5 12 46 dX3_flow_30 (by decide) rfl rfl (by omega) (by omega) (fun c16 => ?_) (fun c16 => ?_)
          · exact absurd c16 (by omega)
          refine z_aln C dX3_flow_33 0 rfl ?_
          refine z_get (v := .ref (a 8)) C 0 12 dX3_flow_34 rfl rfl rfl hX3 (by decide) (by decide +kernel) rfl ?_
          refine z_iln C dX3_flow_37 1 rfl ?_
          refine z_ic C dX3_flow_38 0 (by decide) ?_
          refine z_iast (f := (x4 5)) C 8 k5 (LW a X (va_up x4 5 (upd (x4 5) k5 0))) dX3_flow_39 rfl (by decide) rfl (by omega) rfl ?_
          refine z_inc C 1 (nI (k5 + 1)) [(1, .int (nI (k5 + 1))), (0, .ref (a 0))] dX3_flow_40 rfl (nI_add k5 1) (by decide) rfl ?_
          refine z_go C 27 dX3_flow_43 (by decide) ?_
          refine z_lv [1, 0] [(0, .ref (a 0)), (1, .int (nI (k5 + 1)))] rfl ?_
          exact ihk5 (k5 + 1) (va_up x4 5 (upd (x4 5) k5 0)) (by omega) hF
      exact LPk5 12 0 x1 (by omega) hF
    | succ nk2 ihk2 =>
      intro k2 x1 hkk2 hF
      refine z_iln C dX3_flow_2 1 rfl ?_
      refine z_bp C dX3_flow_3 11 (by decide) ?_
      refine z_ic_geN C k2 11 25 dX3_flow_5 (by decide) rfl rfl (by omega) (by omega) (fun c17 => ?_) (fun c17 => ?_)
      · exact absurd c17 (by omega)
      refine z_aln C dX3_flow_8 0 rfl ?_
      refine z_get (v := .ref (a 9)) C 0 13 dX3_flow_9 rfl rfl rfl hX3 (by decide) (by decide +kernel) rfl ?_
      refine z_iln C dX3_flow_12 1 rfl ?_
      refine z_aln C dX3_flow_13 0 rfl ?_
      refine z_iln C dX3_flow_14 1 rfl ?_
      refine z_cVi0 (As := [.int (nI k2)]) (rest := [.int (nI k2), .ref (a 9)]) C (mX3_givenToNext l X a x1 k2 (by omega)) gX3_flow_X3_givenToNext rfl ⟨rfl, by decide, by decide, (by decide : (parseMethodDescriptor yX3_givenToNext.desc).map (fun d => d.parameters.length) = some 1)⟩ ⟨by decide, by decide⟩ ⟨by decide, by decide⟩ 0 3 rfl rfl (Nat.le_of_ble_eq_true rfl) dX3_flow_15 rfl ?_
      refine z_iast (f := (x1 6)) C 9 k2 (LW a X (va_up x1 6 (upd (x1 6) k2 (fX3_givenToNext x1 k2)))) dX3_flow_18 rfl (by decide) rfl (by omega) rfl ?_
      refine z_inc C 1 (nI (k2 + 1)) [(1, .int (nI (k2 + 1))), (0, .ref (a 0))] dX3_flow_19 rfl (nI_add k2 1) (by decide) rfl ?_
      refine z_go C 2 dX3_flow_22 (by decide) ?_
      refine z_lv [1, 0] [(0, .ref (a 0)), (1, .int (nI (k2 + 1)))] rfl ?_
      exact ihk2 (k2 + 1) (va_up x1 6 (upd (x1 6) k2 (fX3_givenToNext x1 k2))) (by omega) hF
  exact LPk2 11 0 g (by omega) hF
def fX3_runOff (g : zG) (k : Nat) : zG := (if k = 11 then (va_up (va_up g 11 (upd (g 11) 3 ((g 11 3) + ((g 2) k)))) 2 (upd (g 2) k 0)) else (if (fX3_standsInSea g k) = 0 then (jn (if k = 0 then (k + 1) else (if (fX3_potential g (k + 1)) ≤ (fX3_potential g (k - 1)) then (k + 1) else (k - 1))) (fun (v3 : Nat) => (if (fX3_potential g k) ≤ (fX3_potential g v3) then g else (va_up (va_up g 2 (upd (g 2) v3 (((g 2) v3) + ((g 2) k)))) 2 (upd (upd (g 2) v3 (((g 2) v3) + ((g 2) k))) k 0))))) else (va_up (va_up g 11 (upd (g 11) 3 ((g 11 3) + ((g 2) k)))) 2 (upd (g 2) k 0))))
set_option maxHeartbeats 4000000 in
set_option maxRecDepth 100000 in
theorem mX3_runOff (l : Launch) (X : zX) (a : Nat → Nat) (g : zG) (k : Nat) (hy0 : k < 12) : CV l yX3_runOff wsX3_runOff 1 21 0 0 X (LW a X g) [.ref (a 0), .int (nI k)] (LW a X (fX3_runOff g k)) := by
  obtain ⟨res, hF⟩ : ∃ z9r, z9r = fX3_runOff g k := ⟨_, rfl⟩
  rw [← hF]
  refine cu_intro (cc := cX3_runOff) (ret := none) (maxL := 3) (by decide +kernel) rfl (Nat.le_of_ble_eq_true rfl) ?_
  intro p e s m args below meth c A Q C hQ
  have hX3 : ∀ w ∈ wsX30, w ∈ wsX3_runOff := by decide +kernel
  have hX4 : ∀ w ∈ wsX40, w ∈ wsX3_runOff := by decide +kernel
  show Z p l e { frames := 1, cells := 0, slots := 0, locals := 21 } s m args below meth c X A 3 Q 0 0 (LW a X g) [(0, .ref (a 0)), (1, .int (nI k))] 0 []
  refine z_iln C dX3_runOff_0 1 rfl ?_
  refine z_bp C dX3_runOff_1 11 (by decide) ?_
  refine z_ic_eqN C k 11 14 dX3_runOff_3 (by decide) rfl rfl (by omega) (by omega) (fun c1 => ?_) (fun c1 => ?_)
  · have hF := hF.trans (if_pos c1)
    refine z_aln C dX3_runOff_14 0 rfl ?_
    refine z_get (v := .ref (a 2)) C 0 6 dX3_runOff_15 rfl rfl rfl hX3 (by decide) (by decide +kernel) rfl ?_
    refine z_dup C dX3_runOff_18 rfl ?_
    refine z_get (v := .int (g 11 3)) C 2 3 dX3_runOff_19 rfl rfl rfl hX4 (by decide) (by decide +kernel) rfl ?_
    refine z_aln C dX3_runOff_22 0 rfl ?_
    refine z_get (v := .ref (a 5)) C 0 9 dX3_runOff_23 rfl rfl rfl hX3 (by decide) (by decide +kernel) rfl ?_
    refine z_iln C dX3_runOff_26 1 rfl ?_
    refine z_iald (f := (g 2)) C 5 k dX3_runOff_27 rfl (by decide) rfl (by omega) ?_
    refine z_iadd C dX3_runOff_28 ((g 11 3) + ((g 2) k)) rfl ?_
    refine z_put C 2 3 (LW a X (va_up g 11 (upd (g 11) 3 ((g 11 3) + ((g 2) k))))) dX3_runOff_29 rfl rfl hX4 tyX4_ok nmX4 (by decide) (by decide +kernel) rfl rfl rfl rfl rfl (Nat.le_of_ble_eq_true rfl) rfl ?_
    refine z_aln C dX3_runOff_32 0 rfl ?_
    refine z_get (v := .ref (a 5)) C 0 9 dX3_runOff_33 rfl rfl rfl hX3 (by decide) (by decide +kernel) rfl ?_
    refine z_iln C dX3_runOff_36 1 rfl ?_
    refine z_ic C dX3_runOff_37 0 (by decide) ?_
    refine z_iast (f := (g 2)) C 5 k (LW a X (va_up (va_up g 11 (upd (g 11) 3 ((g 11 3) + ((g 2) k)))) 2 (upd (g 2) k 0))) dX3_runOff_38 rfl (by decide) rfl (by omega) rfl ?_
    exact z_vret C hQ () dX3_runOff_39 (by rw [hF]; first | done | rfl) (by decide) (by decide)
  · have hF := hF.trans (if_neg c1)
    refine z_aln C dX3_runOff_6 0 rfl ?_
    refine z_iln C dX3_runOff_7 1 rfl ?_
    refine z_cVi0 (As := [.int (nI k)]) (rest := []) C (mX3_standsInSea l X a g k (by omega)) gX3_runOff_X3_standsInSea rfl ⟨rfl, by decide, by decide, (by decide : (parseMethodDescriptor yX3_standsInSea.desc).map (fun d => d.parameters.length) = some 1)⟩ ⟨by decide, by decide⟩ ⟨by decide, by decide⟩ 0 3 rfl rfl (Nat.le_of_ble_eq_true rfl) dX3_runOff_8 rfl ?_
    refine z_if_eq C 40 dX3_runOff_11 (by decide) (fun c2 => ?_) (fun c2 => ?_)
    · have hF := hF.trans (if_pos c2)
      refine z_iln C dX3_runOff_40 1 rfl ?_
      refine z_ic C dX3_runOff_41 1 (by decide) ?_
      refine z_iadd C dX3_runOff_42 (nI (k + 1)) (nI_add k 1) ?_
      refine z_isn C 2 [(2, .int (nI (k + 1))), (0, .ref (a 0)), (1, .int (nI k))] dX3_runOff_43 rfl (by decide) rfl ?_
      obtain ⟨v3, hv3⟩ : ∃ z9v, z9v = ((if k = 0 then (k + 1) else (if (fX3_potential g (k + 1)) ≤ (fX3_potential g (k - 1)) then (k + 1) else (k - 1))) : Nat) := ⟨_, rfl⟩
      have hF := hF.trans (jn_at hv3)
      have hbv3 : v3 < 12 := by rw [hv3]; (repeat' split) <;> omega
      have Jv3 : Z p l e { frames := 1, cells := 0, slots := 0, locals := 21 } s m args below meth c X A 3 Q 0 0 (LW a X g) [(0, .ref (a 0)), (1, .int (nI k)), (2, .int (nI v3))] 67 [] := by
        refine z_aln C dX3_runOff_67 0 rfl ?_
        refine z_iln C dX3_runOff_68 2 rfl ?_
        refine z_cVi0 (As := [.int (nI v3)]) (rest := []) C (mX3_potential l X a g v3 (by omega)) gX3_runOff_X3_potential rfl ⟨rfl, by decide, by decide, (by decide : (parseMethodDescriptor yX3_potential.desc).map (fun d => d.parameters.length) = some 1)⟩ ⟨by decide, by decide⟩ ⟨by decide, by decide⟩ 0 3 rfl rfl (Nat.le_of_ble_eq_true rfl) dX3_runOff_69 rfl ?_
        refine z_aln C dX3_runOff_72 0 rfl ?_
        refine z_iln C dX3_runOff_73 1 rfl ?_
        refine z_cVi0 (As := [.int (nI k)]) (rest := [.int (fX3_potential g v3)]) C (mX3_potential l X a g k (by omega)) gX3_runOff_X3_potential rfl ⟨rfl, by decide, by decide, (by decide : (parseMethodDescriptor yX3_potential.desc).map (fun d => d.parameters.length) = some 1)⟩ ⟨by decide, by decide⟩ ⟨by decide, by decide⟩ 0 3 rfl rfl (Nat.le_of_ble_eq_true rfl) dX3_runOff_74 rfl ?_
        refine z_ic_ge C 102 dX3_runOff_77 (by decide) (fun c6 => ?_) (fun c6 => ?_)
        · have hF := hF.trans (if_pos c6)
          exact z_vret C hQ () dX3_runOff_102 (by rw [hF]; first | done | rfl) (by decide) (by decide)
        · have hF := hF.trans (if_neg c6)
          refine z_aln C dX3_runOff_80 0 rfl ?_
          refine z_get (v := .ref (a 5)) C 0 9 dX3_runOff_81 rfl rfl rfl hX3 (by decide) (by decide +kernel) rfl ?_
          refine z_iln C dX3_runOff_84 2 rfl ?_
          refine z_dup2 C dX3_runOff_85 rfl rfl ?_
          refine z_iald (f := (g 2)) C 5 v3 dX3_runOff_86 rfl (by decide) rfl (by omega) ?_
          refine z_aln C dX3_runOff_87 0 rfl ?_
          refine z_get (v := .ref (a 5)) C 0 9 dX3_runOff_88 rfl rfl rfl hX3 (by decide) (by decide +kernel) rfl ?_
          refine z_iln C dX3_runOff_91 1 rfl ?_
          refine z_iald (f := (g 2)) C 5 k dX3_runOff_92 rfl (by decide) rfl (by omega) ?_
          refine z_iadd C dX3_runOff_93 (((g 2) v3) + ((g 2) k)) rfl ?_
          refine z_iast (f := (g 2)) C 5 v3 (LW a X (va_up g 2 (upd (g 2) v3 (((g 2) v3) + ((g 2) k))))) dX3_runOff_94 rfl (by decide) rfl (by omega) rfl ?_
          refine z_aln C dX3_runOff_95 0 rfl ?_
          refine z_get (v := .ref (a 5)) C 0 9 dX3_runOff_96 rfl rfl rfl hX3 (by decide) (by decide +kernel) rfl ?_
          refine z_iln C dX3_runOff_99 1 rfl ?_
          refine z_ic C dX3_runOff_100 0 (by decide) ?_
          refine z_iast (f := (upd (g 2) v3 (((g 2) v3) + ((g 2) k)))) C 5 k (LW a X (va_up (va_up g 2 (upd (g 2) v3 (((g 2) v3) + ((g 2) k)))) 2 (upd (upd (g 2) v3 (((g 2) v3) + ((g 2) k))) k 0))) dX3_runOff_101 rfl (by decide) rfl (by omega) rfl ?_
          exact z_vret C hQ () dX3_runOff_102 (by rw [hF]; first | done | rfl) (by decide) (by decide)
      clear hbv3
      refine z_iln C dX3_runOff_44 2 rfl ?_
      refine z_if_leN C k 67 dX3_runOff_45 (by decide) rfl (by omega) (fun c4 => ?_) (fun c4 => ?_)
      · have hv3 := hv3.trans (if_pos c4)
        refine z_lv [1, 2, 0] [(0, .ref (a 0)), (1, .int (nI k)), (2, .int (nI (k + 1)))] rfl ?_
        rw [hv3] at Jv3
        exact Jv3
      · have hv3 := hv3.trans (if_neg c4)
        refine z_aln C dX3_runOff_48 1 rfl ?_
        refine z_iln C dX3_runOff_49 2 rfl ?_
        refine z_ic C dX3_runOff_50 1 (by decide) ?_
        refine z_isub C dX3_runOff_51 (nI (k - 1)) (pk_sub (a := k) (b := 1) (by omega)) ?_
        refine z_cVi0 (As := [.int (nI (k - 1))]) (rest := []) C (mX3_potential l X a g (k - 1) (by omega)) gX3_runOff_X3_potential rfl ⟨rfl, by decide, by decide, (by decide : (parseMethodDescriptor yX3_potential.desc).map (fun d => d.parameters.length) = some 1)⟩ ⟨by decide, by decide⟩ ⟨by decide, by decide⟩ 0 3 rfl rfl (Nat.le_of_ble_eq_true rfl) dX3_runOff_52 rfl ?_
        refine z_aln C dX3_runOff_55 1 rfl ?_
        refine z_iln C dX3_runOff_56 0 rfl ?_
        refine z_cVi0 (As := [.int (nI (k + 1))]) (rest := [.int (fX3_potential g (k - 1))]) C (mX3_potential l X a g (k + 1) (by omega)) gX3_runOff_X3_potential rfl ⟨rfl, by decide, by decide, (by decide : (parseMethodDescriptor yX3_potential.desc).map (fun d => d.parameters.length) = some 1)⟩ ⟨by decide, by decide⟩ ⟨by decide, by decide⟩ 0 3 rfl rfl (Nat.le_of_ble_eq_true rfl) dX3_runOff_57 rfl ?_
        refine z_ic_ge C 67 dX3_runOff_60 (by decide) (fun c5 => ?_) (fun c5 => ?_)
        · have hv3 := hv3.trans (if_pos c5)
          refine z_lv [1, 2, 0] [(0, .ref (a 0)), (1, .int (nI k)), (2, .int (nI (k + 1)))] rfl ?_
          rw [hv3] at Jv3
          exact Jv3
        · have hv3 := hv3.trans (if_neg c5)
          refine z_iln C dX3_runOff_63 2 rfl ?_
          refine z_ic C dX3_runOff_64 1 (by decide) ?_
          refine z_isub C dX3_runOff_65 (nI (k - 1)) (pk_sub (a := k) (b := 1) (by omega)) ?_
          refine z_isn C 2 [(2, .int (nI (k - 1))), (0, .ref (a 0)), (1, .int (nI k))] dX3_runOff_66 rfl (by decide) rfl ?_
          refine z_lv [1, 2, 0] [(0, .ref (a 0)), (1, .int (nI k)), (2, .int (nI (k - 1)))] rfl ?_
          rw [hv3] at Jv3
          exact Jv3
    · have hF := hF.trans (if_neg c2)
      refine z_aln C dX3_runOff_14 0 rfl ?_
      refine z_get (v := .ref (a 2)) C 0 6 dX3_runOff_15 rfl rfl rfl hX3 (by decide) (by decide +kernel) rfl ?_
      refine z_dup C dX3_runOff_18 rfl ?_
      refine z_get (v := .int (g 11 3)) C 2 3 dX3_runOff_19 rfl rfl rfl hX4 (by decide) (by decide +kernel) rfl ?_
      refine z_aln C dX3_runOff_22 0 rfl ?_
      refine z_get (v := .ref (a 5)) C 0 9 dX3_runOff_23 rfl rfl rfl hX3 (by decide) (by decide +kernel) rfl ?_
      refine z_iln C dX3_runOff_26 1 rfl ?_
      refine z_iald (f := (g 2)) C 5 k dX3_runOff_27 rfl (by decide) rfl (by omega) ?_
      refine z_iadd C dX3_runOff_28 ((g 11 3) + ((g 2) k)) rfl ?_
      refine z_put C 2 3 (LW a X (va_up g 11 (upd (g 11) 3 ((g 11 3) + ((g 2) k))))) dX3_runOff_29 rfl rfl hX4 tyX4_ok nmX4 (by decide) (by decide +kernel) rfl rfl rfl rfl rfl (Nat.le_of_ble_eq_true rfl) rfl ?_
      refine z_aln C dX3_runOff_32 0 rfl ?_
      refine z_get (v := .ref (a 5)) C 0 9 dX3_runOff_33 rfl rfl rfl hX3 (by decide) (by decide +kernel) rfl ?_
      refine z_iln C dX3_runOff_36 1 rfl ?_
      refine z_ic C dX3_runOff_37 0 (by decide) ?_
      refine z_iast (f := (g 2)) C 5 k (LW a X (va_up (va_up g 11 (upd (g 11) 3 ((g 11 3) + ((g 2) k)))) 2 (upd (g 2) k 0))) dX3_runOff_38 rfl (by decide) rfl (by omega) rfl ?_
      exact z_vret C hQ () dX3_runOff_39 (by rw [hF]; first | done | rfl) (by decide) (by decide)
def fX3_leastIceBeside (g : zG) (k : Nat) : Int32 := (jn (if k = 0 then 0 else ((g 8) (k - 1))) (fun (v1 : Int32) => (jn (if 11 ≤ k then 0 else ((g 8) (k + 1))) (fun (v3 : Int32) => (if v1 = 0 then v3 else (if v3 = 0 then v1 else (if v3 < v1 then v3 else v1)))))))
set_option maxHeartbeats 4000000 in
set_option maxRecDepth 100000 in
theorem mX3_leastIceBeside (l : Launch) (X : zX) (a : Nat → Nat) (g : zG) (k : Nat) (hy0 : k < 12) : CI l yX3_leastIceBeside wsX3_leastIceBeside 1 23 0 0 X (LW a X g) [.ref (a 0), .int (nI k)] (fX3_leastIceBeside g k) (LW a X g) := by
  obtain ⟨res, hF⟩ : ∃ z9r, z9r = fX3_leastIceBeside g k := ⟨_, rfl⟩
  rw [← hF]
  refine ci_intro (cc := cX3_leastIceBeside) (ret := (some .int)) (maxL := 4) (by decide +kernel) rfl (Nat.le_of_ble_eq_true rfl) ?_
  intro p e s m args below meth c A Q C hQ
  have hX1 : ∀ w ∈ wsX10, w ∈ wsX3_leastIceBeside := by decide +kernel
  have hX3 : ∀ w ∈ wsX30, w ∈ wsX3_leastIceBeside := by decide +kernel
  show Z p l e { frames := 1, cells := 0, slots := 0, locals := 23 } s m args below meth c X A 4 Q 0 0 (LW a X g) [(0, .ref (a 0)), (1, .int (nI k))] 0 []
  obtain ⟨v1, hv1⟩ : ∃ z9v, z9v = ((if k = 0 then 0 else ((g 8) (k - 1))) : Int32) := ⟨_, rfl⟩
  have hF := hF.trans (jn_at hv1)
  have Jv1 : Z p l e { frames := 1, cells := 0, slots := 0, locals := 23 } s m args below meth c X A 4 Q 0 0 (LW a X g) [(0, .ref (a 0)), (1, .int (nI k))] 19 [.int v1] := by
    refine z_isn C 2 [(2, .int v1), (0, .ref (a 0)), (1, .int (nI k))] dX3_leastIceBeside_19 rfl (by decide) rfl ?_
    obtain ⟨v3, hv3⟩ : ∃ z9v, z9v = ((if 11 ≤ k then 0 else ((g 8) (k + 1))) : Int32) := ⟨_, rfl⟩
    have hF := hF.trans (jn_at hv3)
    have Jv3 : Z p l e { frames := 1, cells := 0, slots := 0, locals := 23 } s m args below meth c X A 4 Q 0 0 (LW a X g) [(0, .ref (a 0)), (1, .int (nI k)), (2, .int v1)] 41 [.int v3] := by
      refine z_isn C 3 [(3, .int v3), (0, .ref (a 0)), (1, .int (nI k)), (2, .int v1)] dX3_leastIceBeside_41 rfl (by decide) rfl ?_
      refine z_iln C dX3_leastIceBeside_42 3 rfl ?_
      refine z_if_ne C 48 dX3_leastIceBeside_43 (by decide) (fun c5 => ?_) (fun c5 => ?_)
      · have hF := hF.trans (if_neg c5)
        refine z_iln C dX3_leastIceBeside_48 0 rfl ?_
        refine z_if_ne C 56 dX3_leastIceBeside_49 (by decide) (fun c6 => ?_) (fun c6 => ?_)
        · have hF := hF.trans (if_neg c6)
          refine z_iln C dX3_leastIceBeside_56 3 rfl ?_
          refine z_iln C dX3_leastIceBeside_57 0 rfl ?_
          refine z_mmin C dX3_leastIceBeside_58 (by decide +kernel) (by decide +kernel) (by decide +kernel) (by decide +kernel) (Nat.le_of_ble_eq_true rfl) (Nat.le_of_ble_eq_true rfl) (Nat.le_of_ble_eq_true rfl) (Nat.le_of_ble_eq_true rfl) ?_
          exact z_iret C hQ dX3_leastIceBeside_61 (by rw [hF]; first | done | rfl) rfl (by decide) (by decide)
        · have hF := hF.trans (if_pos c6)
          refine z_iln C dX3_leastIceBeside_52 3 rfl ?_
          refine z_go C 61 dX3_leastIceBeside_53 (by decide) ?_
          exact z_iret C hQ dX3_leastIceBeside_61 (by rw [hF]; first | done | rfl) rfl (by decide) (by decide)
      · have hF := hF.trans (if_pos c5)
        refine z_iln C dX3_leastIceBeside_46 0 rfl ?_
        exact z_iret C hQ dX3_leastIceBeside_47 (by rw [hF]; first | done | rfl) rfl (by decide) (by decide)
    refine z_iln C dX3_leastIceBeside_20 2 rfl ?_
    refine z_bp C dX3_leastIceBeside_21 11 (by decide) ?_
    refine z_ic_geN C k 11 40 dX3_leastIceBeside_23 (by decide) rfl rfl (by omega) (by omega) (fun c4 => ?_) (fun c4 => ?_)
    · have hv3 := hv3.trans (if_pos c4)
      refine z_ic C dX3_leastIceBeside_40 0 (by decide) ?_
      refine z_lv [1, 2, 0] [(0, .ref (a 0)), (1, .int (nI k)), (2, .int v1)] rfl ?_
      rw [hv3] at Jv3
      exact Jv3
    · have hv3 := hv3.trans (if_neg c4)
      refine z_aln C dX3_leastIceBeside_26 1 rfl ?_
      refine z_get (v := .ref (a 1)) C 0 5 dX3_leastIceBeside_27 rfl rfl rfl hX3 (by decide) (by decide +kernel) rfl ?_
      refine z_get (v := .ref (a 11)) C 1 0 dX3_leastIceBeside_30 rfl rfl rfl hX1 (by decide) (by decide +kernel) rfl ?_
      refine z_iln C dX3_leastIceBeside_33 2 rfl ?_
      refine z_ic C dX3_leastIceBeside_34 1 (by decide) ?_
      refine z_iadd C dX3_leastIceBeside_35 (nI (k + 1)) (nI_add k 1) ?_
      refine z_iald (f := (g 8)) C 11 (k + 1) dX3_leastIceBeside_36 rfl (by decide) rfl (by omega) ?_
      refine z_go C 41 dX3_leastIceBeside_37 (by decide) ?_
      refine z_lv [1, 2, 0] [(0, .ref (a 0)), (1, .int (nI k)), (2, .int v1)] rfl ?_
      rw [hv3] at Jv3
      exact Jv3
  refine z_iln C dX3_leastIceBeside_0 1 rfl ?_
  refine z_if_leN C k 18 dX3_leastIceBeside_1 (by decide) rfl (by omega) (fun c2 => ?_) (fun c2 => ?_)
  · have hv1 := hv1.trans (if_pos c2)
    refine z_ic C dX3_leastIceBeside_18 0 (by decide) ?_
    rw [hv1] at Jv1
    exact Jv1
  · have hv1 := hv1.trans (if_neg c2)
    refine z_aln C dX3_leastIceBeside_4 0 rfl ?_
    refine z_get (v := .ref (a 1)) C 0 5 dX3_leastIceBeside_5 rfl rfl rfl hX3 (by decide) (by decide +kernel) rfl ?_
    refine z_get (v := .ref (a 11)) C 1 0 dX3_leastIceBeside_8 rfl rfl rfl hX1 (by decide) (by decide +kernel) rfl ?_
    refine z_iln C dX3_leastIceBeside_11 1 rfl ?_
    refine z_ic C dX3_leastIceBeside_12 1 (by decide) ?_
    refine z_isub C dX3_leastIceBeside_13 (nI (k - 1)) (pk_sub (a := k) (b := 1) (by omega)) ?_
    refine z_iald (f := (g 8)) C 11 (k - 1) dX3_leastIceBeside_14 rfl (by decide) rfl (by omega) ?_
    refine z_go C 19 dX3_leastIceBeside_15 (by decide) ?_
    rw [hv1] at Jv1
    exact Jv1
def fX3_breakOut (g : zG) (k : Nat) : zG := (jn (fX3_leastIceBeside (va_up g 7 (upd (g 7) k 0)) k) (fun (v1 : Int32) => (if ((g 2) k) < 10 then (va_up g 7 (upd (g 7) k 0)) else (if v1 ≤ 0 then (va_up g 7 (upd (g 7) k 0)) else (if (10 * ((g 2) k)) ≤ (9 * v1) then (va_up g 7 (upd (g 7) k 0)) else (va_up (va_up (va_up (va_up g 7 (upd (g 7) k 0)) 7 (upd (upd (g 7) k 0) k ((g 2) k))) 11 (upd (g 11) 3 ((g 11 3) + ((g 2) k)))) 2 (upd (g 2) k 0)))))))
set_option maxHeartbeats 4000000 in
set_option maxRecDepth 100000 in
theorem mX3_breakOut (l : Launch) (X : zX) (a : Nat → Nat) (g : zG) (k : Nat) (hy0 : k < 12) : CV l yX3_breakOut wsX3_breakOut 2 46 0 0 X (LW a X g) [.ref (a 0), .int (nI k)] (LW a X (fX3_breakOut g k)) := by
  obtain ⟨res, hF⟩ : ∃ z9r, z9r = fX3_breakOut g k := ⟨_, rfl⟩
  rw [← hF]
  refine cu_intro (cc := cX3_breakOut) (ret := none) (maxL := 3) (by decide +kernel) rfl (Nat.le_of_ble_eq_true rfl) ?_
  intro p e s m args below meth c A Q C hQ
  have hX3 : ∀ w ∈ wsX30, w ∈ wsX3_breakOut := by decide +kernel
  have hX4 : ∀ w ∈ wsX40, w ∈ wsX3_breakOut := by decide +kernel
  show Z p l e { frames := 2, cells := 0, slots := 0, locals := 46 } s m args below meth c X A 3 Q 0 0 (LW a X g) [(0, .ref (a 0)), (1, .int (nI k))] 0 []
  refine z_aln C dX3_breakOut_0 0 rfl ?_
  refine z_get (v := .ref (a 10)) C 0 14 dX3_breakOut_1 rfl rfl rfl hX3 (by decide) (by decide +kernel) rfl ?_
  refine z_iln C dX3_breakOut_4 1 rfl ?_
  refine z_ic C dX3_breakOut_5 0 (by decide) ?_
  refine z_iast (f := (g 7)) C 10 k (LW a X (va_up g 7 (upd (g 7) k 0))) dX3_breakOut_6 rfl (by decide) rfl (by omega) rfl ?_
  refine z_aln C dX3_breakOut_7 0 rfl ?_
  refine z_iln C dX3_breakOut_8 1 rfl ?_
  refine z_cVi0 (As := [.int (nI k)]) (rest := []) C (mX3_leastIceBeside l X a (va_up g 7 (upd (g 7) k 0)) k (by omega)) gX3_breakOut_X3_leastIceBeside rfl ⟨rfl, by decide, by decide, (by decide : (parseMethodDescriptor yX3_leastIceBeside.desc).map (fun d => d.parameters.length) = some 1)⟩ ⟨by decide, by decide⟩ ⟨by decide, by decide⟩ 0 3 rfl rfl (Nat.le_of_ble_eq_true rfl) dX3_breakOut_9 rfl ?_
  obtain ⟨v1, hv1⟩ : ∃ z9v, z9v = ((fX3_leastIceBeside (va_up g 7 (upd (g 7) k 0)) k) : Int32) := ⟨_, rfl⟩
  have hF := hF.trans (jn_at hv1)
  refine z_nm hv1 ?_
  refine z_isn C 2 [(2, .int v1), (0, .ref (a 0)), (1, .int (nI k))] dX3_breakOut_12 rfl (by decide) rfl ?_
  refine z_aln C dX3_breakOut_13 1 rfl ?_
  refine z_get (v := .ref (a 5)) C 0 9 dX3_breakOut_14 rfl rfl rfl hX3 (by decide) (by decide +kernel) rfl ?_
  refine z_iln C dX3_breakOut_17 2 rfl ?_
  refine z_iald (f := (g 2)) C 5 k dX3_breakOut_18 rfl (by decide) rfl (by omega) ?_
  refine z_bp C dX3_breakOut_19 10 (by decide) ?_
  refine z_ic_lt C 81 dX3_breakOut_21 (by decide) (fun c2 => ?_) (fun c2 => ?_)
  · have hF := hF.trans (if_pos c2)
    exact z_vret C hQ () dX3_breakOut_81 (by rw [hF]; first | done | rfl) (by decide) (by decide)
  · have hF := hF.trans (if_neg c2)
    refine z_iln C dX3_breakOut_24 0 rfl ?_
    refine z_if_le C 81 dX3_breakOut_25 (by decide) (fun c3 => ?_) (fun c3 => ?_)
    · have hF := hF.trans (if_pos c3)
      exact z_vret C hQ () dX3_breakOut_81 (by rw [hF]; first | done | rfl) (by decide) (by decide)
    · have hF := hF.trans (if_neg c3)
      refine z_bp C dX3_breakOut_28 10 (by decide) ?_
      refine z_aln C dX3_breakOut_30 1 rfl ?_
      refine z_get (v := .ref (a 5)) C 0 9 dX3_breakOut_31 rfl rfl rfl hX3 (by decide) (by decide +kernel) rfl ?_
      refine z_iln C dX3_breakOut_34 2 rfl ?_
      refine z_iald (f := (g 2)) C 5 k dX3_breakOut_35 rfl (by decide) rfl (by omega) ?_
      refine z_imul C dX3_breakOut_36 (10 * ((g 2) k)) rfl ?_
      refine z_bp C dX3_breakOut_37 9 (by decide) ?_
      refine z_iln C dX3_breakOut_39 0 rfl ?_
      refine z_imul C dX3_breakOut_40 (9 * v1) rfl ?_
      refine z_ic_le C 81 dX3_breakOut_41 (by decide) (fun c4 => ?_) (fun c4 => ?_)
      · have hF := hF.trans (if_pos c4)
        exact z_vret C hQ () dX3_breakOut_81 (by rw [hF]; first | done | rfl) (by decide) (by decide)
      · have hF := hF.trans (if_neg c4)
        refine z_aln C dX3_breakOut_44 1 rfl ?_
        refine z_get (v := .ref (a 10)) C 0 14 dX3_breakOut_45 rfl rfl rfl hX3 (by decide) (by decide +kernel) rfl ?_
        refine z_iln C dX3_breakOut_48 2 rfl ?_
        refine z_aln C dX3_breakOut_49 1 rfl ?_
        refine z_get (v := .ref (a 5)) C 0 9 dX3_breakOut_50 rfl rfl rfl hX3 (by decide) (by decide +kernel) rfl ?_
        refine z_iln C dX3_breakOut_53 2 rfl ?_
        refine z_iald (f := (g 2)) C 5 k dX3_breakOut_54 rfl (by decide) rfl (by omega) ?_
        refine z_iast (f := (upd (g 7) k 0)) C 10 k (LW a X (va_up (va_up g 7 (upd (g 7) k 0)) 7 (upd (upd (g 7) k 0) k ((g 2) k)))) dX3_breakOut_55 rfl (by decide) rfl (by omega) rfl ?_
        refine z_aln C dX3_breakOut_56 1 rfl ?_
        refine z_get (v := .ref (a 2)) C 0 6 dX3_breakOut_57 rfl rfl rfl hX3 (by decide) (by decide +kernel) rfl ?_
        refine z_dup C dX3_breakOut_60 rfl ?_
        refine z_get (v := .int (g 11 3)) C 2 3 dX3_breakOut_61 rfl rfl rfl hX4 (by decide) (by decide +kernel) rfl ?_
        refine z_aln C dX3_breakOut_64 1 rfl ?_
        refine z_get (v := .ref (a 5)) C 0 9 dX3_breakOut_65 rfl rfl rfl hX3 (by decide) (by decide +kernel) rfl ?_
        refine z_iln C dX3_breakOut_68 2 rfl ?_
        refine z_iald (f := (g 2)) C 5 k dX3_breakOut_69 rfl (by decide) rfl (by omega) ?_
        refine z_iadd C dX3_breakOut_70 ((g 11 3) + ((g 2) k)) rfl ?_
        refine z_put C 2 3 (LW a X (va_up (va_up (va_up g 7 (upd (g 7) k 0)) 7 (upd (upd (g 7) k 0) k ((g 2) k))) 11 (upd (g 11) 3 ((g 11 3) + ((g 2) k))))) dX3_breakOut_71 rfl rfl hX4 tyX4_ok nmX4 (by decide) (by decide +kernel) rfl rfl rfl rfl rfl (Nat.le_of_ble_eq_true rfl) rfl ?_
        refine z_aln C dX3_breakOut_74 1 rfl ?_
        refine z_get (v := .ref (a 5)) C 0 9 dX3_breakOut_75 rfl rfl rfl hX3 (by decide) (by decide +kernel) rfl ?_
        refine z_iln C dX3_breakOut_78 2 rfl ?_
        refine z_ic C dX3_breakOut_79 0 (by decide) ?_
        refine z_iast (f := (g 2)) C 5 k (LW a X (va_up (va_up (va_up (va_up g 7 (upd (g 7) k 0)) 7 (upd (upd (g 7) k 0) k ((g 2) k))) 11 (upd (g 11) 3 ((g 11 3) + ((g 2) k)))) 2 (upd (g 2) k 0))) dX3_breakOut_80 rfl (by decide) rfl (by omega) rfl ?_
        exact z_vret C hQ () dX3_breakOut_81 (by rw [hF]; first | done | rfl) (by decide) (by decide)
def fX3_calve_L3 : Nat → zG → zG
  | 0, x1 => x1
  | nk2 + 1, x1 => (jn ((x1 8) nk2) (fun (v5 : Int32) => (jn (if (9 * v5) < (10 * ((x1 10 1) - ((x1 0) nk2))) then 0 else 1) (fun (v6 : Int32) => (if (fX3_standsInSea x1 nk2) = 0 then x1 else (if v5 ≤ 0 then (jn (fX1_takeLatest (x1 8) (x1 9) nk2 v5) (fun u10 => (fX3_calve_L3 nk2 (va_up (va_up (va_up x1 11 (upd (x1 11) 4 ((x1 11 4) + v5))) 8 u10.1) 9 u10.2)))) else (if v6 = 0 then (jn (fX1_takeLatest (x1 8) (x1 9) nk2 v5) (fun u12 => (fX3_calve_L3 nk2 (va_up (va_up (va_up x1 11 (upd (x1 11) 4 ((x1 11 4) + v5))) 8 u12.1) 9 u12.2)))) else x1)))))))
def fX3_calve (g : zG) : zG := (fX3_calve_L3 12 g)
set_option maxHeartbeats 4000000 in
set_option maxRecDepth 100000 in
theorem mX3_calve (l : Launch) (X : zX) (a : Nat → Nat) (g : zG) : CV l yX3_calve wsX3_calve 2 48 0 0 X (LW a X g) [.ref (a 0)] (LW a X (fX3_calve g)) := by
  obtain ⟨res, hF⟩ : ∃ z9r, z9r = fX3_calve g := ⟨_, rfl⟩
  rw [← hF]
  refine cu_intro (cc := cX3_calve) (ret := none) (maxL := 4) (by decide +kernel) rfl (Nat.le_of_ble_eq_true rfl) ?_
  intro p e s m args below meth c A Q C hQ
  have hX1 : ∀ w ∈ wsX10, w ∈ wsX3_calve := by decide +kernel
  have hX3 : ∀ w ∈ wsX30, w ∈ wsX3_calve := by decide +kernel
  have hX4 : ∀ w ∈ wsX40, w ∈ wsX3_calve := by decide +kernel
  show Z p l e { frames := 2, cells := 0, slots := 0, locals := 48 } s m args below meth c X A 4 Q 0 0 (LW a X g) [(0, .ref (a 0))] 0 []
  refine z_bp C dX3_calve_0 11 (by decide) ?_
  refine z_isn C 1 [(1, .int 11), (0, .ref (a 0))] dX3_calve_2 rfl (by decide) rfl ?_
  refine z_lv [1, 0] [(0, .ref (a 0)), (1, .int 11)] rfl ?_
  have LPk2 : ∀ (nk2 : Nat) (x1 : zG), nk2 ≤ 12 → res = fX3_calve_L3 nk2 x1 → Z p l e { frames := 2, cells := 0, slots := 0, locals := 48 } s m args below meth c X A 4 Q 0 0 (LW a X x1) [(0, .ref (a 0)), (1, .int (nI nk2 - 1))] 3 [] := by
    intro nk2
    induction nk2 with
    | zero =>
      intro x1 hkk2 hF
      show Z p l e { frames := 2, cells := 0, slots := 0, locals := 48 } s m args below meth c X A 4 Q 0 0 (LW a X x1) [(0, .ref (a 0)), (1, .int (-1))] 3 []
      refine z_iln C dX3_calve_3 1 rfl ?_
      refine z_if_lt C 89 dX3_calve_4 (by decide) (fun c3 => ?_) (fun c3 => ?_)
      rotate_left
      · exact absurd (by decide) c3
      exact z_vret C hQ () dX3_calve_89 (by rw [hF]; first | done | rfl) (by decide) (by decide)
    | succ nk2 ihk2 =>
      intro x1 hkk2 hF
      rw [nI_pred]
      refine z_iln C dX3_calve_3 1 rfl ?_
      refine z_if_lt C 89 dX3_calve_4 (by decide) (fun c4 => ?_) (fun c4 => ?_)
      · exact absurd c4 (nI_pos (by omega))
      refine z_aln C dX3_calve_7 0 rfl ?_
      refine z_get (v := .ref (a 1)) C 0 5 dX3_calve_8 rfl rfl rfl hX3 (by decide) (by decide +kernel) rfl ?_
      refine z_get (v := .ref (a 11)) C 1 0 dX3_calve_11 rfl rfl rfl hX1 (by decide) (by decide +kernel) rfl ?_
      refine z_iln C dX3_calve_14 1 rfl ?_
      refine z_iald (f := (x1 8)) C 11 nk2 dX3_calve_15 rfl (by decide) rfl (by omega) ?_
      obtain ⟨v5, hv5⟩ : ∃ z9v, z9v = (((x1 8) nk2) : Int32) := ⟨_, rfl⟩
      have hF := hF.trans (jn_at hv5)
      refine z_nm hv5 ?_
      refine z_isn C 2 [(2, .int v5), (0, .ref (a 0)), (1, .int (nI nk2))] dX3_calve_16 rfl (by decide) rfl ?_
      obtain ⟨v6, hv6⟩ : ∃ z9v, z9v = ((if (9 * v5) < (10 * ((x1 10 1) - ((x1 0) nk2))) then 0 else 1) : Int32) := ⟨_, rfl⟩
      have hF := hF.trans (jn_at hv6)
      have Jv6 : Z p l e { frames := 2, cells := 0, slots := 0, locals := 48 } s m args below meth c X A 4 Q 0 0 (LW a X x1) [(0, .ref (a 0)), (1, .int (nI nk2)), (2, .int v5)] 43 [.int v6] := by
        refine z_isn C 3 [(3, .int v6), (0, .ref (a 0)), (1, .int (nI nk2)), (2, .int v5)] dX3_calve_43 rfl (by decide) rfl ?_
        refine z_aln C dX3_calve_44 1 rfl ?_
        refine z_iln C dX3_calve_45 2 rfl ?_
        refine z_cVi0 (As := [.int (nI nk2)]) (rest := []) C (mX3_standsInSea l X a x1 nk2 (by omega)) gX3_calve_X3_standsInSea rfl ⟨rfl, by decide, by decide, (by decide : (parseMethodDescriptor yX3_standsInSea.desc).map (fun d => d.parameters.length) = some 1)⟩ ⟨by decide, by decide⟩ ⟨by decide, by decide⟩ 0 3 rfl rfl (Nat.le_of_ble_eq_true rfl) dX3_calve_46 rfl ?_
        refine z_if_eq C 60 dX3_calve_49 (by decide) (fun c8 => ?_) (fun c8 => ?_)
        · have hF := hF.trans (if_pos c8)
          exact z_vret C hQ () dX3_calve_60 (by rw [hF]; first | done | rfl) (by decide) (by decide)
        · have hF := hF.trans (if_neg c8)
          refine z_iln C dX3_calve_52 3 rfl ?_
          refine z_if_le C 61 dX3_calve_53 (by decide) (fun c9 => ?_) (fun c9 => ?_)
          · have hF := hF.trans (if_pos c9)
            refine z_aln C dX3_calve_61 1 rfl ?_
            refine z_get (v := .ref (a 2)) C 0 6 dX3_calve_62 rfl rfl rfl hX3 (by decide) (by decide +kernel) rfl ?_
            refine z_dup C dX3_calve_65 rfl ?_
            refine z_get (v := .int (x1 11 4)) C 2 4 dX3_calve_66 rfl rfl rfl hX4 (by decide) (by decide +kernel) rfl ?_
            refine z_iln C dX3_calve_69 3 rfl ?_
            refine z_iadd C dX3_calve_70 ((x1 11 4) + v5) rfl ?_
            refine z_put C 2 4 (LW a X (va_up x1 11 (upd (x1 11) 4 ((x1 11 4) + v5)))) dX3_calve_71 rfl rfl hX4 tyX4_ok nmX4 (by decide) (by decide +kernel) rfl rfl rfl rfl rfl (Nat.le_of_ble_eq_true rfl) rfl ?_
            refine z_aln C dX3_calve_74 1 rfl ?_
            refine z_get (v := .ref (a 1)) C 0 5 dX3_calve_75 rfl rfl rfl hX3 (by decide) (by decide +kernel) rfl ?_
            refine z_iln C dX3_calve_78 2 rfl ?_
            refine z_iln C dX3_calve_79 3 rfl ?_
            refine z_cVu (As := [.int (nI nk2), .int v5]) (rest := []) C (mX1_takeLatest l X a (x1 8) (x1 9) nk2 v5 (by omega)) gX3_calve_X1_takeLatest rfl ⟨rfl, by decide, by decide, (by decide : (parseMethodDescriptor yX1_takeLatest.desc).map (fun d => d.parameters.length) = some 2)⟩ ⟨by decide, by decide⟩ ⟨by decide, by decide⟩ 0 1 rfl rfl [1, 11, 12] [0, 2, 3, 4, 5, 6, 7, 8, 9, 10] [0, 10, 1, 2, 3, 4, 5, 6, 7, 8, 9, 11, 12] rfl rfl (by decide) (by decide) (by decide) (by decide) (fun _ => (LW a X (va_up (va_up (va_up x1 11 (upd (x1 11) 4 ((x1 11 4) + v5))) 8 ((fX1_takeLatest (x1 8) (x1 9) nk2 v5).1)) 9 ((fX1_takeLatest (x1 8) (x1 9) nk2 v5).2)))) (fun _ => rfl) (Nat.le_of_ble_eq_true rfl) dX3_calve_80 rfl (fun _ => ?_)
            obtain ⟨u10, hu10⟩ : ∃ z9u, z9u = (fX1_takeLatest (x1 8) (x1 9) nk2 v5) := ⟨_, rfl⟩
            rw [← hu10]
            have hF := hF.trans (jn_at hu10)
            refine z_inc C 2 (nI nk2 - 1) [(1, .int (nI nk2 - 1)), (3, .int v6), (0, .ref (a 0)), (2, .int v5)] dX3_calve_83 rfl (zn_dn nk2) (by decide) rfl ?_
            refine z_go C 3 dX3_calve_86 (by decide) ?_
            refine z_lv [2, 0] [(0, .ref (a 0)), (1, .int (nI nk2 - 1))] rfl ?_
            exact ihk2 (va_up (va_up (va_up x1 11 (upd (x1 11) 4 ((x1 11 4) + v5))) 8 u10.1) 9 u10.2) (by omega) hF
          · have hF := hF.trans (if_neg c9)
            refine z_iln C dX3_calve_56 0 rfl ?_
            refine z_if_eq C 61 dX3_calve_57 (by decide) (fun c11 => ?_) (fun c11 => ?_)
            · have hF := hF.trans (if_pos c11)
              refine z_aln C dX3_calve_61 1 rfl ?_
              refine z_get (v := .ref (a 2)) C 0 6 dX3_calve_62 rfl rfl rfl hX3 (by decide) (by decide +kernel) rfl ?_
              refine z_dup C dX3_calve_65 rfl ?_
              refine z_get (v := .int (x1 11 4)) C 2 4 dX3_calve_66 rfl rfl rfl hX4 (by decide) (by decide +kernel) rfl ?_
              refine z_iln C dX3_calve_69 3 rfl ?_
              refine z_iadd C dX3_calve_70 ((x1 11 4) + v5) rfl ?_
              refine z_put C 2 4 (LW a X (va_up x1 11 (upd (x1 11) 4 ((x1 11 4) + v5)))) dX3_calve_71 rfl rfl hX4 tyX4_ok nmX4 (by decide) (by decide +kernel) rfl rfl rfl rfl rfl (Nat.le_of_ble_eq_true rfl) rfl ?_
              refine z_aln C dX3_calve_74 1 rfl ?_
              refine z_get (v := .ref (a 1)) C 0 5 dX3_calve_75 rfl rfl rfl hX3 (by decide) (by decide +kernel) rfl ?_
              refine z_iln C dX3_calve_78 2 rfl ?_
              refine z_iln C dX3_calve_79 3 rfl ?_
              refine z_cVu (As := [.int (nI nk2), .int v5]) (rest := []) C (mX1_takeLatest l X a (x1 8) (x1 9) nk2 v5 (by omega)) gX3_calve_X1_takeLatest rfl ⟨rfl, by decide, by decide, (by decide : (parseMethodDescriptor yX1_takeLatest.desc).map (fun d => d.parameters.length) = some 2)⟩ ⟨by decide, by decide⟩ ⟨by decide, by decide⟩ 0 1 rfl rfl [1, 11, 12] [0, 2, 3, 4, 5, 6, 7, 8, 9, 10] [0, 10, 1, 2, 3, 4, 5, 6, 7, 8, 9, 11, 12] rfl rfl (by decide) (by decide) (by decide) (by decide) (fun _ => (LW a X (va_up (va_up (va_up x1 11 (upd (x1 11) 4 ((x1 11 4) + v5))) 8 ((fX1_takeLatest (x1 8) (x1 9) nk2 v5).1)) 9 ((fX1_takeLatest (x1 8) (x1 9) nk2 v5).2)))) (fun _ => rfl) (Nat.le_of_ble_eq_true rfl) dX3_calve_80 rfl (fun _ => ?_)
              obtain ⟨u12, hu12⟩ : ∃ z9u, z9u = (fX1_takeLatest (x1 8) (x1 9) nk2 v5) := ⟨_, rfl⟩
              rw [← hu12]
              have hF := hF.trans (jn_at hu12)
              refine z_inc C 2 (nI nk2 - 1) [(1, .int (nI nk2 - 1)), (3, .int v6), (0, .ref (a 0)), (2, .int v5)] dX3_calve_83 rfl (zn_dn nk2) (by decide) rfl ?_
              refine z_go C 3 dX3_calve_86 (by decide) ?_
              refine z_lv [2, 0] [(0, .ref (a 0)), (1, .int (nI nk2 - 1))] rfl ?_
              exact ihk2 (va_up (va_up (va_up x1 11 (upd (x1 11) 4 ((x1 11 4) + v5))) 8 u12.1) 9 u12.2) (by omega) hF
            · have hF := hF.trans (if_neg c11)
              exact z_vret C hQ () dX3_calve_60 (by rw [hF]; first | done | rfl) (by decide) (by decide)
      refine z_bp C dX3_calve_17 9 (by decide) ?_
      refine z_iln C dX3_calve_19 0 rfl ?_
      refine z_imul C dX3_calve_20 (9 * v5) rfl ?_
      refine z_bp C dX3_calve_21 10 (by decide) ?_
      refine z_aln C dX3_calve_23 1 rfl ?_
      refine z_get (v := .int (x1 10 1)) C 0 1 dX3_calve_24 rfl rfl rfl hX3 (by decide) (by decide +kernel) rfl ?_
      refine z_aln C dX3_calve_27 1 rfl ?_
      refine z_get (v := .ref (a 3)) C 0 7 dX3_calve_28 rfl rfl rfl hX3 (by decide) (by decide +kernel) rfl ?_
      refine z_iln C dX3_calve_31 2 rfl ?_
      refine z_iald (f := (x1 0)) C 3 nk2 dX3_calve_32 rfl (by decide) rfl (by omega) ?_
      refine z_isub C dX3_calve_33 ((x1 10 1) - ((x1 0) nk2)) rfl ?_
      refine z_imul C dX3_calve_34 (10 * ((x1 10 1) - ((x1 0) nk2))) rfl ?_
      refine z_ic_lt C 42 dX3_calve_35 (by decide) (fun c7 => ?_) (fun c7 => ?_)
      · have hv6 := hv6.trans (if_pos c7)
        refine z_ic C dX3_calve_42 0 (by decide) ?_
        refine z_lv [1, 2, 0] [(0, .ref (a 0)), (1, .int (nI nk2)), (2, .int v5)] rfl ?_
        rw [hv6] at Jv6
        exact Jv6
      · have hv6 := hv6.trans (if_neg c7)
        refine z_ic C dX3_calve_38 1 (by decide) ?_
        refine z_go C 43 dX3_calve_39 (by decide) ?_
        refine z_lv [1, 2, 0] [(0, .ref (a 0)), (1, .int (nI nk2)), (2, .int v5)] rfl ?_
        rw [hv6] at Jv6
        exact Jv6
  exact LPk2 12 g (by omega) hF
def fX3_moveBed (g : zG) (k : Nat) : zG := (jn (((g 1) k) - (fJ9_floorDiv_7cf53 ((g 8) k) 3)) (fun (v1 : Int32) => (if v1 ≤ ((g 0) k) then (if ((g 0) k) ≤ v1 then g else (va_up g 0 (upd (g 0) k (((g 0) k) - 1)))) else (va_up g 0 (upd (g 0) k (((g 0) k) + 1))))))
set_option maxHeartbeats 4000000 in
set_option maxRecDepth 100000 in
theorem mX3_moveBed (l : Launch) (X : zX) (a : Nat → Nat) (g : zG) (k : Nat) (hy0 : k < 12) : CV l yX3_moveBed wsX3_moveBed 1 22 0 0 X (LW a X g) [.ref (a 0), .int (nI k)] (LW a X (fX3_moveBed g k)) := by
  obtain ⟨res, hF⟩ : ∃ z9r, z9r = fX3_moveBed g k := ⟨_, rfl⟩
  rw [← hF]
  refine cu_intro (cc := cX3_moveBed) (ret := none) (maxL := 3) (by decide +kernel) rfl (Nat.le_of_ble_eq_true rfl) ?_
  intro p e s m args below meth c A Q C hQ
  have hX1 : ∀ w ∈ wsX10, w ∈ wsX3_moveBed := by decide +kernel
  have hX3 : ∀ w ∈ wsX30, w ∈ wsX3_moveBed := by decide +kernel
  show Z p l e { frames := 1, cells := 0, slots := 0, locals := 22 } s m args below meth c X A 3 Q 0 0 (LW a X g) [(0, .ref (a 0)), (1, .int (nI k))] 0 []
  refine z_aln C dX3_moveBed_0 0 rfl ?_
  refine z_get (v := .ref (a 4)) C 0 8 dX3_moveBed_1 rfl rfl rfl hX3 (by decide) (by decide +kernel) rfl ?_
  refine z_iln C dX3_moveBed_4 1 rfl ?_
  refine z_iald (f := (g 1)) C 4 k dX3_moveBed_5 rfl (by decide) rfl (by omega) ?_
  refine z_aln C dX3_moveBed_6 0 rfl ?_
  refine z_get (v := .ref (a 1)) C 0 5 dX3_moveBed_7 rfl rfl rfl hX3 (by decide) (by decide +kernel) rfl ?_
  refine z_get (v := .ref (a 11)) C 1 0 dX3_moveBed_10 rfl rfl rfl hX1 (by decide) (by decide +kernel) rfl ?_
  refine z_iln C dX3_moveBed_13 1 rfl ?_
  refine z_iald (f := (g 8)) C 11 k dX3_moveBed_14 rfl (by decide) rfl (by omega) ?_
  refine z_ic C dX3_moveBed_15 3 (by decide) ?_
  refine z_cSi0 (As := [.int ((g 8) k), .int 3]) (rest := [.int ((g 1) k)]) C (mJ9_floorDiv_7cf53 l X ((g 8) k) 3 (by decide)) gX3_moveBed_J9_floorDiv_7cf53 rfl ⟨by decide, by decide, (by decide : (parseMethodDescriptor yJ9_floorDiv_7cf53.desc).map (fun d => d.parameters.length) = some 2)⟩ ⟨by decide, by decide⟩ ⟨by decide, by decide⟩ (Nat.le_of_ble_eq_true rfl) dX3_moveBed_16 rfl ?_
  refine z_isub C dX3_moveBed_19 (((g 1) k) - (fJ9_floorDiv_7cf53 ((g 8) k) 3)) rfl ?_
  obtain ⟨v1, hv1⟩ : ∃ z9v, z9v = ((((g 1) k) - (fJ9_floorDiv_7cf53 ((g 8) k) 3)) : Int32) := ⟨_, rfl⟩
  have hF := hF.trans (jn_at hv1)
  refine z_nm hv1 ?_
  refine z_isn C 2 [(2, .int v1), (0, .ref (a 0)), (1, .int (nI k))] dX3_moveBed_20 rfl (by decide) rfl ?_
  refine z_aln C dX3_moveBed_21 1 rfl ?_
  refine z_get (v := .ref (a 3)) C 0 7 dX3_moveBed_22 rfl rfl rfl hX3 (by decide) (by decide +kernel) rfl ?_
  refine z_iln C dX3_moveBed_25 2 rfl ?_
  refine z_iald (f := (g 0)) C 3 k dX3_moveBed_26 rfl (by decide) rfl (by omega) ?_
  refine z_iln C dX3_moveBed_27 0 rfl ?_
  refine z_ic_ge C 44 dX3_moveBed_28 (by decide) (fun c2 => ?_) (fun c2 => ?_)
  · have hF := hF.trans (if_pos c2)
    refine z_aln C dX3_moveBed_44 1 rfl ?_
    refine z_get (v := .ref (a 3)) C 0 7 dX3_moveBed_45 rfl rfl rfl hX3 (by decide) (by decide +kernel) rfl ?_
    refine z_iln C dX3_moveBed_48 2 rfl ?_
    refine z_iald (f := (g 0)) C 3 k dX3_moveBed_49 rfl (by decide) rfl (by omega) ?_
    refine z_iln C dX3_moveBed_50 0 rfl ?_
    refine z_ic_le C 64 dX3_moveBed_51 (by decide) (fun c3 => ?_) (fun c3 => ?_)
    · have hF := hF.trans (if_pos c3)
      exact z_vret C hQ () dX3_moveBed_64 (by rw [hF]; first | done | rfl) (by decide) (by decide)
    · have hF := hF.trans (if_neg c3)
      refine z_aln C dX3_moveBed_54 1 rfl ?_
      refine z_get (v := .ref (a 3)) C 0 7 dX3_moveBed_55 rfl rfl rfl hX3 (by decide) (by decide +kernel) rfl ?_
      refine z_iln C dX3_moveBed_58 2 rfl ?_
      refine z_dup2 C dX3_moveBed_59 rfl rfl ?_
      refine z_iald (f := (g 0)) C 3 k dX3_moveBed_60 rfl (by decide) rfl (by omega) ?_
      refine z_ic C dX3_moveBed_61 1 (by decide) ?_
      refine z_isub C dX3_moveBed_62 (((g 0) k) - 1) rfl ?_
      refine z_iast (f := (g 0)) C 3 k (LW a X (va_up g 0 (upd (g 0) k (((g 0) k) - 1)))) dX3_moveBed_63 rfl (by decide) rfl (by omega) rfl ?_
      exact z_vret C hQ () dX3_moveBed_64 (by rw [hF]; first | done | rfl) (by decide) (by decide)
  · have hF := hF.trans (if_neg c2)
    refine z_aln C dX3_moveBed_31 1 rfl ?_
    refine z_get (v := .ref (a 3)) C 0 7 dX3_moveBed_32 rfl rfl rfl hX3 (by decide) (by decide +kernel) rfl ?_
    refine z_iln C dX3_moveBed_35 2 rfl ?_
    refine z_dup2 C dX3_moveBed_36 rfl rfl ?_
    refine z_iald (f := (g 0)) C 3 k dX3_moveBed_37 rfl (by decide) rfl (by omega) ?_
    refine z_ic C dX3_moveBed_38 1 (by decide) ?_
    refine z_iadd C dX3_moveBed_39 (((g 0) k) + 1) rfl ?_
    refine z_iast (f := (g 0)) C 3 k (LW a X (va_up g 0 (upd (g 0) k (((g 0) k) + 1)))) dX3_moveBed_40 rfl (by decide) rfl (by omega) rfl ?_
    refine z_go C 64 dX3_moveBed_41 (by decide) ?_
    exact z_vret C hQ () dX3_moveBed_64 (by rw [hF]; first | done | rfl) (by decide) (by decide)
def fX3_markFront_L7 : Nat → Nat → zG → zG
  | 0, k2, x1 => (if (x1 10 5) < 0 then x1 else (va_up x1 3 (upd (x1 3) ((x1 10 5).toNatClampNeg) (((x1 3) ((x1 10 5).toNatClampNeg)) + 1))))
  | nk2 + 1, k2, x1 => (if ((x1 8) k2) ≤ 0 then (fX3_markFront_L7 nk2 (k2 + 1) x1) else (fX3_markFront_L7 nk2 (k2 + 1) (va_up x1 10 (upd (x1 10) 5 (nI k2)))))
def fX3_markFront (g : zG) : zG := (fX3_markFront_L7 12 0 (va_up g 10 (upd (g 10) 5 (-1))))
set_option maxHeartbeats 4000000 in
set_option maxRecDepth 100000 in
theorem mX3_markFront (l : Launch) (X : zX) (a : Nat → Nat) (g : zG) : CV l yX3_markFront wsX3_markFront 0 0 0 0 X (LW a X g) [.ref (a 0)] (LW a X (fX3_markFront g)) := by
  obtain ⟨res, hF⟩ : ∃ z9r, z9r = fX3_markFront g := ⟨_, rfl⟩
  rw [← hF]
  refine cu_intro (cc := cX3_markFront) (ret := none) (maxL := 2) (by decide +kernel) rfl (Nat.le_of_ble_eq_true rfl) ?_
  intro p e s m args below meth c A Q C hQ
  have hX1 : ∀ w ∈ wsX10, w ∈ wsX3_markFront := by decide +kernel
  have hX3 : ∀ w ∈ wsX30, w ∈ wsX3_markFront := by decide +kernel
  show Z p l e { frames := 0, cells := 0, slots := 0, locals := 0 } s m args below meth c X A 2 Q 0 0 (LW a X g) [(0, .ref (a 0))] 0 []
  refine z_aln C dX3_markFront_0 0 rfl ?_
  refine z_ic C dX3_markFront_1 (-1) (by decide) ?_
  refine z_put C 0 15 (LW a X (va_up g 10 (upd (g 10) 5 (-1)))) dX3_markFront_2 rfl rfl hX3 tyX3_ok nmX3 (by decide) (by decide +kernel) rfl rfl rfl rfl rfl (Nat.le_of_ble_eq_true rfl) rfl ?_
  refine z_ic C dX3_markFront_5 0 (by decide) ?_
  refine z_isn C 1 [(1, .int 0), (0, .ref (a 0))] dX3_markFront_6 rfl (by decide) rfl ?_
  refine z_lv [1, 0] [(0, .ref (a 0)), (1, .int 0)] rfl ?_
  have LPk2 : ∀ (nk2 k2 : Nat) (x1 : zG), k2 + nk2 = 12 → ((x1 10 5).toInt < 12) → res = fX3_markFront_L7 nk2 k2 x1 → Z p l e { frames := 0, cells := 0, slots := 0, locals := 0 } s m args below meth c X A 2 Q 0 0 (LW a X x1) [(0, .ref (a 0)), (1, .int (nI k2))] 7 [] := by
    intro nk2
    induction nk2 with
    | zero =>
      intro k2 x1 hkk2 hik2 hF
      refine z_iln C dX3_markFront_7 1 rfl ?_
      refine z_bp C dX3_markFront_8 12 (by decide) ?_
      refine z_ic_geN C k2 12 36 dX3_markFront_10 (by decide) rfl rfl (by omega) (by omega) (fun c3 => ?_) (fun c3 => ?_)
      rotate_left
      · exact absurd c3 (by omega)
      refine z_aln C dX3_markFront_36 0 rfl ?_
      refine z_get (v := .int (x1 10 5)) C 0 15 dX3_markFront_37 rfl rfl rfl hX3 (by decide) (by decide +kernel) rfl ?_
      refine z_if_lt C 56 dX3_markFront_40 (by decide) (fun c4 => ?_) (fun c4 => ?_)
      · have hF := hF.trans (if_pos c4)
        exact z_vret C hQ () dX3_markFront_56 (by rw [hF]; first | done | rfl) (by decide) (by decide)
      · have hF := hF.trans (if_neg c4)
        refine z_aln C dX3_markFront_43 0 rfl ?_
        refine z_get (v := .ref (a 6)) C 0 10 dX3_markFront_44 rfl rfl rfl hX3 (by decide) (by decide +kernel) rfl ?_
        refine z_aln C dX3_markFront_47 0 rfl ?_
        refine z_get (v := .int (x1 10 5)) C 0 15 dX3_markFront_48 rfl rfl rfl hX3 (by decide) (by decide +kernel) rfl ?_
        refine z_dup2 C dX3_markFront_51 rfl rfl ?_
        refine z_iald (f := (x1 3)) C 6 ((x1 10 5).toNatClampNeg) dX3_markFront_52 rfl (by decide) (zn_cl c4).symm (zn_b c4 hik2 (by decide)) ?_
        refine z_ic C dX3_markFront_53 1 (by decide) ?_
        refine z_iadd C dX3_markFront_54 (((x1 3) ((x1 10 5).toNatClampNeg)) + 1) rfl ?_
        refine z_iast (f := (x1 3)) C 6 ((x1 10 5).toNatClampNeg) (LW a X (va_up x1 3 (upd (x1 3) ((x1 10 5).toNatClampNeg) (((x1 3) ((x1 10 5).toNatClampNeg)) + 1)))) dX3_markFront_55 rfl (by decide) (zn_cl c4).symm (zn_b c4 hik2 (by decide)) rfl ?_
        exact z_vret C hQ () dX3_markFront_56 (by rw [hF]; first | done | rfl) (by decide) (by decide)
    | succ nk2 ihk2 =>
      intro k2 x1 hkk2 hik2 hF
      refine z_iln C dX3_markFront_7 1 rfl ?_
      refine z_bp C dX3_markFront_8 12 (by decide) ?_
      refine z_ic_geN C k2 12 36 dX3_markFront_10 (by decide) rfl rfl (by omega) (by omega) (fun c5 => ?_) (fun c5 => ?_)
      · exact absurd c5 (by omega)
      refine z_aln C dX3_markFront_13 0 rfl ?_
      refine z_get (v := .ref (a 1)) C 0 5 dX3_markFront_14 rfl rfl rfl hX3 (by decide) (by decide +kernel) rfl ?_
      refine z_get (v := .ref (a 11)) C 1 0 dX3_markFront_17 rfl rfl rfl hX1 (by decide) (by decide +kernel) rfl ?_
      refine z_iln C dX3_markFront_20 1 rfl ?_
      refine z_iald (f := (x1 8)) C 11 k2 dX3_markFront_21 rfl (by decide) rfl (by omega) ?_
      refine z_if_le C 30 dX3_markFront_22 (by decide) (fun c6 => ?_) (fun c6 => ?_)
      · have hF := hF.trans (if_pos c6)
        refine z_inc C 1 (nI (k2 + 1)) [(1, .int (nI (k2 + 1))), (0, .ref (a 0))] dX3_markFront_30 rfl (nI_add k2 1) (by decide) rfl ?_
        refine z_go C 7 dX3_markFront_33 (by decide) ?_
        refine z_lv [1, 0] [(0, .ref (a 0)), (1, .int (nI (k2 + 1)))] rfl ?_
        exact ihk2 (k2 + 1) x1 (by omega) (by first | exact hik2 | (show (nI k2).toInt < 12; rw [nI_toInt (by omega)]; omega)) hF
      · have hF := hF.trans (if_neg c6)
        refine z_aln C dX3_markFront_25 0 rfl ?_
        refine z_iln C dX3_markFront_26 1 rfl ?_
        refine z_put C 0 15 (LW a X (va_up x1 10 (upd (x1 10) 5 (nI k2)))) dX3_markFront_27 rfl rfl hX3 tyX3_ok nmX3 (by decide) (by decide +kernel) rfl rfl rfl rfl rfl (Nat.le_of_ble_eq_true rfl) rfl ?_
        refine z_inc C 1 (nI (k2 + 1)) [(1, .int (nI (k2 + 1))), (0, .ref (a 0))] dX3_markFront_30 rfl (nI_add k2 1) (by decide) rfl ?_
        refine z_go C 7 dX3_markFront_33 (by decide) ?_
        refine z_lv [1, 0] [(0, .ref (a 0)), (1, .int (nI (k2 + 1)))] rfl ?_
        exact ihk2 (k2 + 1) (va_up x1 10 (upd (x1 10) 5 (nI k2))) (by omega) (by first | exact hik2 | (show (nI k2).toInt < 12; rw [nI_toInt (by omega)]; omega)) hF
  exact LPk2 12 0 (va_up g 10 (upd (g 10) 5 (-1))) (by omega) (by show (-1 : Int32).toInt < 12; decide) hF
def fX3_goThroughYear_L77 : Nat → Nat → zG → zG
  | 0, k13, x12 => (jn (fX3_markFront x12) (fun u15 => u15))
  | nk13 + 1, k13, x12 => (jn (fX3_moveBed x12 k13) (fun u17 => (fX3_goThroughYear_L77 nk13 (k13 + 1) u17)))
def fX3_goThroughYear_L54 : Nat → Nat → zG → zG
  | 0, k9, x8 => (jn (fX3_calve x8) (fun u11 => (fX3_goThroughYear_L77 12 0 u11)))
  | nk9 + 1, k9, x8 => (jn (fX3_breakOut x8 k9) (fun u19 => (fX3_goThroughYear_L54 nk9 (k9 + 1) u19)))
def fX3_goThroughYear_L35 : Nat → Nat → zG → zG
  | 0, k6, x5 => (fX3_goThroughYear_L54 12 0 x5)
  | nk6 + 1, k6, x5 => (jn (fX3_runOff x5 k6) (fun u21 => (fX3_goThroughYear_L35 nk6 (k6 + 1) u21)))
def fX3_goThroughYear_L12 : Nat → Nat → zG → zG
  | 0, k2, x1 => (jn (fX3_flow x1) (fun u4 => (fX3_goThroughYear_L35 12 0 u4)))
  | nk2 + 1, k2, x1 => (jn (fX3_snowOrMelt x1 k2) (fun u23 => (fX3_goThroughYear_L12 nk2 (k2 + 1) u23)))
def fX3_goThroughYear (g : zG) : zG := (fX3_goThroughYear_L12 12 0 (va_up g 10 (upd (g 10) 0 ((g 10 0) + 1))))
set_option maxHeartbeats 4000000 in
set_option maxRecDepth 100000 in
theorem mX3_goThroughYear (l : Launch) (X : zX) (a : Nat → Nat) (g : zG) (hy0 : vp_in (g 10 0 + 1) 61) : CV l yX3_goThroughYear wsX3_goThroughYear 4 93 0 0 X (LW a X g) [.ref (a 0)] (LW a X (fX3_goThroughYear g)) := by
  obtain ⟨res, hF⟩ : ∃ z9r, z9r = fX3_goThroughYear g := ⟨_, rfl⟩
  rw [← hF]
  refine cu_intro (cc := cX3_goThroughYear) (ret := none) (maxL := 2) (by decide +kernel) rfl (Nat.le_of_ble_eq_true rfl) ?_
  intro p e s m args below meth c A Q C hQ
  have hX3 : ∀ w ∈ wsX30, w ∈ wsX3_goThroughYear := by decide +kernel
  show Z p l e { frames := 4, cells := 0, slots := 0, locals := 93 } s m args below meth c X A 2 Q 0 0 (LW a X g) [(0, .ref (a 0))] 0 []
  refine z_aln C dX3_goThroughYear_0 0 rfl ?_
  refine z_dup C dX3_goThroughYear_1 rfl ?_
  refine z_get (v := .int (g 10 0)) C 0 0 dX3_goThroughYear_2 rfl rfl rfl hX3 (by decide) (by decide +kernel) rfl ?_
  refine z_ic C dX3_goThroughYear_5 1 (by decide) ?_
  refine z_iadd C dX3_goThroughYear_6 ((g 10 0) + 1) rfl ?_
  refine z_put C 0 0 (LW a X (va_up g 10 (upd (g 10) 0 ((g 10 0) + 1)))) dX3_goThroughYear_7 rfl rfl hX3 tyX3_ok nmX3 (by decide) (by decide +kernel) rfl rfl rfl rfl rfl (Nat.le_of_ble_eq_true rfl) rfl ?_
  refine z_ic C dX3_goThroughYear_10 0 (by decide) ?_
  refine z_isn C 1 [(1, .int 0), (0, .ref (a 0))] dX3_goThroughYear_11 rfl (by decide) rfl ?_
  refine z_lv [1, 0] [(0, .ref (a 0)), (1, .int 0)] rfl ?_
  have LPk2 : ∀ (nk2 k2 : Nat) (x1 : zG), k2 + nk2 = 12 → (vp_in (x1 10 0) 61) → res = fX3_goThroughYear_L12 nk2 k2 x1 → Z p l e { frames := 4, cells := 0, slots := 0, locals := 93 } s m args below meth c X A 2 Q 0 0 (LW a X x1) [(0, .ref (a 0)), (1, .int (nI k2))] 12 [] := by
    intro nk2
    induction nk2 with
    | zero =>
      intro k2 x1 hkk2 hik2 hF
      refine z_iln C dX3_goThroughYear_12 1 rfl ?_
      refine z_bp C dX3_goThroughYear_13 12 (by decide) ?_
      refine z_ic_geN C k2 12 29 dX3_goThroughYear_15 (by decide) rfl rfl (by omega) (by omega) (fun c3 => ?_) (fun c3 => ?_)
      rotate_left
      · exact absurd c3 (by omega)
      refine z_aln C dX3_goThroughYear_29 0 rfl ?_
      refine z_cVv0 (As := []) (rest := []) C (mX3_flow l X a x1 ) gX3_goThroughYear_X3_flow rfl ⟨rfl, by decide, by decide, (by decide : (parseMethodDescriptor yX3_flow.desc).map (fun d => d.parameters.length) = some 0)⟩ ⟨by decide, by decide⟩ ⟨by decide, by decide⟩ 0 3 rfl rfl (Nat.le_of_ble_eq_true rfl) dX3_goThroughYear_30 rfl ?_
      obtain ⟨u4, hu4⟩ : ∃ z9u, z9u = (fX3_flow x1) := ⟨_, rfl⟩
      rw [← hu4]
      have hF := hF.trans (jn_at hu4)
      refine z_ic C dX3_goThroughYear_33 0 (by decide) ?_
      refine z_isn C 1 [(1, .int 0), (0, .ref (a 0))] dX3_goThroughYear_34 rfl (by decide) rfl ?_
      refine z_lv [1, 0] [(0, .ref (a 0)), (1, .int 0)] rfl ?_
      have LPk6 : ∀ (nk6 k6 : Nat) (x5 : zG), k6 + nk6 = 12 → res = fX3_goThroughYear_L35 nk6 k6 x5 → Z p l e { frames := 4, cells := 0, slots := 0, locals := 93 } s m args below meth c X A 2 Q 0 0 (LW a X x5) [(0, .ref (a 0)), (1, .int (nI k6))] 35 [] := by
        intro nk6
        induction nk6 with
        | zero =>
          intro k6 x5 hkk6 hF
          refine z_iln C dX3_goThroughYear_35 1 rfl ?_
          refine z_bp C dX3_goThroughYear_36 12 (by decide) ?_
          refine z_ic_geN C k6 12 52 dX3_goThroughYear_38 (by decide) rfl rfl (by omega) (by omega) (fun c7 => ?_) (fun c7 => ?_)
          rotate_left
          · exact absurd c7 (by omega)
          refine z_ic C dX3_goThroughYear_52 0 (by decide) ?_
          refine z_isn C 1 [(1, .int 0), (0, .ref (a 0))] dX3_goThroughYear_53 rfl (by decide) rfl ?_
          refine z_lv [1, 0] [(0, .ref (a 0)), (1, .int 0)] rfl ?_
          have LPk9 : ∀ (nk9 k9 : Nat) (x8 : zG), k9 + nk9 = 12 → res = fX3_goThroughYear_L54 nk9 k9 x8 → Z p l e { frames := 4, cells := 0, slots := 0, locals := 93 } s m args below meth c X A 2 Q 0 0 (LW a X x8) [(0, .ref (a 0)), (1, .int (nI k9))] 54 [] := by
            intro nk9
            induction nk9 with
            | zero =>
              intro k9 x8 hkk9 hF
              refine z_iln C dX3_goThroughYear_54 1 rfl ?_
              refine z_bp C dX3_goThroughYear_55 12 (by decide) ?_
              refine z_ic_geN C k9 12 71 dX3_goThroughYear_57 (by decide) rfl rfl (by omega) (by omega) (fun c10 => ?_) (fun c10 => ?_)
              rotate_left
              · exact absurd c10 (by omega)
              refine z_aln C dX3_goThroughYear_71 0 rfl ?_
              refine z_cVv0 (As := []) (rest := []) C (mX3_calve l X a x8 ) gX3_goThroughYear_X3_calve rfl ⟨rfl, by decide, by decide, (by decide : (parseMethodDescriptor yX3_calve.desc).map (fun d => d.parameters.length) = some 0)⟩ ⟨by decide, by decide⟩ ⟨by decide, by decide⟩ 0 3 rfl rfl (Nat.le_of_ble_eq_true rfl) dX3_goThroughYear_72 rfl ?_
              obtain ⟨u11, hu11⟩ : ∃ z9u, z9u = (fX3_calve x8) := ⟨_, rfl⟩
              rw [← hu11]
              have hF := hF.trans (jn_at hu11)
              refine z_ic C dX3_goThroughYear_75 0 (by decide) ?_
              refine z_isn C 1 [(1, .int 0), (0, .ref (a 0))] dX3_goThroughYear_76 rfl (by decide) rfl ?_
              refine z_lv [1, 0] [(0, .ref (a 0)), (1, .int 0)] rfl ?_
              have LPk13 : ∀ (nk13 k13 : Nat) (x12 : zG), k13 + nk13 = 12 → res = fX3_goThroughYear_L77 nk13 k13 x12 → Z p l e { frames := 4, cells := 0, slots := 0, locals := 93 } s m args below meth c X A 2 Q 0 0 (LW a X x12) [(0, .ref (a 0)), (1, .int (nI k13))] 77 [] := by
                intro nk13
                induction nk13 with
                | zero =>
                  intro k13 x12 hkk13 hF
                  refine z_iln C dX3_goThroughYear_77 1 rfl ?_
                  refine z_bp C dX3_goThroughYear_78 12 (by decide) ?_
                  refine z_ic_geN C k13 12 94 dX3_goThroughYear_80 (by decide) rfl rfl (by omega) (by omega) (fun c14 => ?_) (fun c14 => ?_)
                  rotate_left
                  · exact absurd c14 (by omega)
                  refine z_aln C dX3_goThroughYear_94 0 rfl ?_
                  refine z_cVv0 (As := []) (rest := []) C (mX3_markFront l X a x12 ) gX3_goThroughYear_X3_markFront rfl ⟨rfl, by decide, by decide, (by decide : (parseMethodDescriptor yX3_markFront.desc).map (fun d => d.parameters.length) = some 0)⟩ ⟨by decide, by decide⟩ ⟨by decide, by decide⟩ 0 3 rfl rfl (Nat.le_of_ble_eq_true rfl) dX3_goThroughYear_95 rfl ?_
                  obtain ⟨u15, hu15⟩ : ∃ z9u, z9u = (fX3_markFront x12) := ⟨_, rfl⟩
                  rw [← hu15]
                  have hF := hF.trans (jn_at hu15)
                  exact z_vret C hQ () dX3_goThroughYear_98 (by rw [hF]; first | done | rfl) (by decide) (by decide)
                | succ nk13 ihk13 =>
                  intro k13 x12 hkk13 hF
                  refine z_iln C dX3_goThroughYear_77 1 rfl ?_
                  refine z_bp C dX3_goThroughYear_78 12 (by decide) ?_
                  refine z_ic_geN C k13 12 94 dX3_goThroughYear_80 (by decide) rfl rfl (by omega) (by omega) (fun c16 => ?_) (fun c16 => ?_)
                  · exact absurd c16 (by omega)
                  refine z_aln C dX3_goThroughYear_83 0 rfl ?_
                  refine z_iln C dX3_goThroughYear_84 1 rfl ?_
                  refine z_cVv0 (As := [.int (nI k13)]) (rest := []) C (mX3_moveBed l X a x12 k13 (by omega)) gX3_goThroughYear_X3_moveBed rfl ⟨rfl, by decide, by decide, (by decide : (parseMethodDescriptor yX3_moveBed.desc).map (fun d => d.parameters.length) = some 1)⟩ ⟨by decide, by decide⟩ ⟨by decide, by decide⟩ 0 3 rfl rfl (Nat.le_of_ble_eq_true rfl) dX3_goThroughYear_85 rfl ?_
                  obtain ⟨u17, hu17⟩ : ∃ z9u, z9u = (fX3_moveBed x12 k13) := ⟨_, rfl⟩
                  rw [← hu17]
                  have hF := hF.trans (jn_at hu17)
                  refine z_inc C 1 (nI (k13 + 1)) [(1, .int (nI (k13 + 1))), (0, .ref (a 0))] dX3_goThroughYear_88 rfl (nI_add k13 1) (by decide) rfl ?_
                  refine z_go C 77 dX3_goThroughYear_91 (by decide) ?_
                  refine z_lv [1, 0] [(0, .ref (a 0)), (1, .int (nI (k13 + 1)))] rfl ?_
                  exact ihk13 (k13 + 1) u17 (by omega) hF
              exact LPk13 12 0 u11 (by omega) hF
            | succ nk9 ihk9 =>
              intro k9 x8 hkk9 hF
              refine z_iln C dX3_goThroughYear_54 1 rfl ?_
              refine z_bp C dX3_goThroughYear_55 12 (by decide) ?_
              refine z_ic_geN C k9 12 71 dX3_goThroughYear_57 (by decide) rfl rfl (by omega) (by omega) (fun c18 => ?_) (fun c18 => ?_)
              · exact absurd c18 (by omega)
              refine z_aln C dX3_goThroughYear_60 0 rfl ?_
              refine z_iln C dX3_goThroughYear_61 1 rfl ?_
              refine z_cVv0 (As := [.int (nI k9)]) (rest := []) C (mX3_breakOut l X a x8 k9 (by omega)) gX3_goThroughYear_X3_breakOut rfl ⟨rfl, by decide, by decide, (by decide : (parseMethodDescriptor yX3_breakOut.desc).map (fun d => d.parameters.length) = some 1)⟩ ⟨by decide, by decide⟩ ⟨by decide, by decide⟩ 0 3 rfl rfl (Nat.le_of_ble_eq_true rfl) dX3_goThroughYear_62 rfl ?_
              obtain ⟨u19, hu19⟩ : ∃ z9u, z9u = (fX3_breakOut x8 k9) := ⟨_, rfl⟩
              rw [← hu19]
              have hF := hF.trans (jn_at hu19)
              refine z_inc C 1 (nI (k9 + 1)) [(1, .int (nI (k9 + 1))), (0, .ref (a 0))] dX3_goThroughYear_65 rfl (nI_add k9 1) (by decide) rfl ?_
              refine z_go C 54 dX3_goThroughYear_68 (by decide) ?_
              refine z_lv [1, 0] [(0, .ref (a 0)), (1, .int (nI (k9 + 1)))] rfl ?_
              exact ihk9 (k9 + 1) u19 (by omega) hF
          exact LPk9 12 0 x5 (by omega) hF
        | succ nk6 ihk6 =>
          intro k6 x5 hkk6 hF
          refine z_iln C dX3_goThroughYear_35 1 rfl ?_
          refine z_bp C dX3_goThroughYear_36 12 (by decide) ?_
          refine z_ic_geN C k6 12 52 dX3_goThroughYear_38 (by decide) rfl rfl (by omega) (by omega) (fun c20 => ?_) (fun c20 => ?_)
          · exact absurd c20 (by omega)
          refine z_aln C dX3_goThroughYear_41 0 rfl ?_
          refine z_iln C dX3_goThroughYear_42 1 rfl ?_
          refine z_cVv0 (As := [.int (nI k6)]) (rest := []) C (mX3_runOff l X a x5 k6 (by omega)) gX3_goThroughYear_X3_runOff rfl ⟨rfl, by decide, by decide, (by decide : (parseMethodDescriptor yX3_runOff.desc).map (fun d => d.parameters.length) = some 1)⟩ ⟨by decide, by decide⟩ ⟨by decide, by decide⟩ 0 3 rfl rfl (Nat.le_of_ble_eq_true rfl) dX3_goThroughYear_43 rfl ?_
          obtain ⟨u21, hu21⟩ : ∃ z9u, z9u = (fX3_runOff x5 k6) := ⟨_, rfl⟩
          rw [← hu21]
          have hF := hF.trans (jn_at hu21)
          refine z_inc C 1 (nI (k6 + 1)) [(1, .int (nI (k6 + 1))), (0, .ref (a 0))] dX3_goThroughYear_46 rfl (nI_add k6 1) (by decide) rfl ?_
          refine z_go C 35 dX3_goThroughYear_49 (by decide) ?_
          refine z_lv [1, 0] [(0, .ref (a 0)), (1, .int (nI (k6 + 1)))] rfl ?_
          exact ihk6 (k6 + 1) u21 (by omega) hF
      exact LPk6 12 0 u4 (by omega) hF
    | succ nk2 ihk2 =>
      intro k2 x1 hkk2 hik2 hF
      refine z_iln C dX3_goThroughYear_12 1 rfl ?_
      refine z_bp C dX3_goThroughYear_13 12 (by decide) ?_
      refine z_ic_geN C k2 12 29 dX3_goThroughYear_15 (by decide) rfl rfl (by omega) (by omega) (fun c22 => ?_) (fun c22 => ?_)
      · exact absurd c22 (by omega)
      refine z_aln C dX3_goThroughYear_18 0 rfl ?_
      refine z_iln C dX3_goThroughYear_19 1 rfl ?_
      refine z_cVv0 (As := [.int (nI k2)]) (rest := []) C (mX3_snowOrMelt l X a x1 k2 (by omega) hik2) gX3_goThroughYear_X3_snowOrMelt rfl ⟨rfl, by decide, by decide, (by decide : (parseMethodDescriptor yX3_snowOrMelt.desc).map (fun d => d.parameters.length) = some 1)⟩ ⟨by decide, by decide⟩ ⟨by decide, by decide⟩ 0 3 rfl rfl (Nat.le_of_ble_eq_true rfl) dX3_goThroughYear_20 rfl ?_
      obtain ⟨u23, hu23⟩ : ∃ z9u, z9u = (fX3_snowOrMelt x1 k2) := ⟨_, rfl⟩
      rw [← hu23]
      have hF := hF.trans (jn_at hu23)
      refine z_inc C 1 (nI (k2 + 1)) [(1, .int (nI (k2 + 1))), (0, .ref (a 0))] dX3_goThroughYear_23 rfl (nI_add k2 1) (by decide) rfl ?_
      refine z_go C 12 dX3_goThroughYear_26 (by decide) ?_
      refine z_lv [1, 0] [(0, .ref (a 0)), (1, .int (nI (k2 + 1)))] rfl ?_
      exact ihk2 (k2 + 1) u23 (by omega) (by rw [hu23, snow_10]; exact hik2) hF
  exact LPk2 12 0 (va_up g 10 (upd (g 10) 0 ((g 10 0) + 1))) (by omega) hy0 hF
def fX3_tellOf (g : zG) (k : Nat) (w : Nat) : Int32 := (if w = 0 then ((g 0) k) else (if w = 1 then ((g 8) k) else (if w = 2 then ((g 2) k) else (if w = 3 then (fX3_surface g k) else (if w = 4 then ((g 3) k) else (if w = 5 then (if (fX3_hasCrevasse g k) = 0 then 0 else 1) else (if w = 6 then (if (fX3_hasCrevasse g k) = 0 then 0 else (if ((g 4) k) < 3 then 0 else 1)) else (if w = 7 then (if (fX3_standsInSea g k) = 0 then 0 else 1) else (if w = 8 then ((g 1) k) else (fX3_potential g k))))))))))
set_option maxHeartbeats 4000000 in
set_option maxRecDepth 100000 in
theorem mX3_tellOf (l : Launch) (X : zX) (a : Nat → Nat) (g : zG) (k : Nat) (w : Nat) (hy0 : k < 12) (hy1 : w < 10) : CI l yX3_tellOf wsX3_tellOf 2 44 0 0 X (LW a X g) [.ref (a 0), .int (nI k), .int (nI w)] (fX3_tellOf g k w) (LW a X g) := by
  obtain ⟨res, hF⟩ : ∃ z9r, z9r = fX3_tellOf g k w := ⟨_, rfl⟩
  rw [← hF]
  refine ci_intro (cc := cX3_tellOf) (ret := (some .int)) (maxL := 3) (by decide +kernel) rfl (Nat.le_of_ble_eq_true rfl) ?_
  intro p e s m args below meth c A Q C hQ
  have hX1 : ∀ w ∈ wsX10, w ∈ wsX3_tellOf := by decide +kernel
  have hX3 : ∀ w ∈ wsX30, w ∈ wsX3_tellOf := by decide +kernel
  show Z p l e { frames := 2, cells := 0, slots := 0, locals := 44 } s m args below meth c X A 3 Q 0 0 (LW a X g) [(0, .ref (a 0)), (1, .int (nI k)), (2, .int (nI w))] 0 []
  refine z_iln C dX3_tellOf_0 2 rfl ?_
  rcases (show w = 0 ∨ w = 1 ∨ w = 2 ∨ w = 3 ∨ w = 4 ∨ w = 5 ∨ w = 6 ∨ w = 7 ∨ w = 8 ∨ (¬ w = 0 ∧ ¬ w = 1 ∧ ¬ w = 2 ∧ ¬ w = 3 ∧ ¬ w = 4 ∧ ¬ w = 5 ∧ ¬ w = 6 ∧ ¬ w = 7 ∧ ¬ w = 8) by omega) with c1 | c1 | c1 | c1 | c1 | c1 | c1 | c1 | c1 | c1
  · refine z_nm (show (.ofNat 0 : Int32) = (nI w) by rw [c1]; rfl) ?_
    refine z_tin C 52 dX3_tellOf_1 (by decide) (by decide) rfl (by decide) ?_
    have hF := hF.trans (if_pos c1)
    refine z_aln C dX3_tellOf_52 0 rfl ?_
    refine z_get (v := .ref (a 3)) C 0 7 dX3_tellOf_53 rfl rfl rfl hX3 (by decide) (by decide +kernel) rfl ?_
    refine z_iln C dX3_tellOf_56 1 rfl ?_
    refine z_iald (f := (g 0)) C 3 k dX3_tellOf_57 rfl (by decide) rfl (by omega) ?_
    exact z_iret C hQ dX3_tellOf_58 (by rw [hF]; first | done | rfl) rfl (by decide) (by decide)
  · refine z_nm (show (.ofNat 1 : Int32) = (nI w) by rw [c1]; rfl) ?_
    refine z_tin C 59 dX3_tellOf_1 (by decide) (by decide) rfl (by decide) ?_
    have hF := hF.trans (if_neg (by omega))
    have hF := hF.trans (if_pos c1)
    refine z_aln C dX3_tellOf_59 0 rfl ?_
    refine z_get (v := .ref (a 1)) C 0 5 dX3_tellOf_60 rfl rfl rfl hX3 (by decide) (by decide +kernel) rfl ?_
    refine z_get (v := .ref (a 11)) C 1 0 dX3_tellOf_63 rfl rfl rfl hX1 (by decide) (by decide +kernel) rfl ?_
    refine z_iln C dX3_tellOf_66 1 rfl ?_
    refine z_iald (f := (g 8)) C 11 k dX3_tellOf_67 rfl (by decide) rfl (by omega) ?_
    exact z_iret C hQ dX3_tellOf_68 (by rw [hF]; first | done | rfl) rfl (by decide) (by decide)
  · refine z_nm (show (.ofNat 2 : Int32) = (nI w) by rw [c1]; rfl) ?_
    refine z_tin C 69 dX3_tellOf_1 (by decide) (by decide) rfl (by decide) ?_
    have hF := hF.trans (if_neg (by omega))
    have hF := hF.trans (if_neg (by omega))
    have hF := hF.trans (if_pos c1)
    refine z_aln C dX3_tellOf_69 0 rfl ?_
    refine z_get (v := .ref (a 5)) C 0 9 dX3_tellOf_70 rfl rfl rfl hX3 (by decide) (by decide +kernel) rfl ?_
    refine z_iln C dX3_tellOf_73 1 rfl ?_
    refine z_iald (f := (g 2)) C 5 k dX3_tellOf_74 rfl (by decide) rfl (by omega) ?_
    exact z_iret C hQ dX3_tellOf_75 (by rw [hF]; first | done | rfl) rfl (by decide) (by decide)
  · refine z_nm (show (.ofNat 3 : Int32) = (nI w) by rw [c1]; rfl) ?_
    refine z_tin C 76 dX3_tellOf_1 (by decide) (by decide) rfl (by decide) ?_
    have hF := hF.trans (if_neg (by omega))
    have hF := hF.trans (if_neg (by omega))
    have hF := hF.trans (if_neg (by omega))
    have hF := hF.trans (if_pos c1)
    refine z_aln C dX3_tellOf_76 0 rfl ?_
    refine z_iln C dX3_tellOf_77 1 rfl ?_
    refine z_cVi0 (As := [.int (nI k)]) (rest := []) C (mX3_surface l X a g k (by omega)) gX3_tellOf_X3_surface rfl ⟨rfl, by decide, by decide, (by decide : (parseMethodDescriptor yX3_surface.desc).map (fun d => d.parameters.length) = some 1)⟩ ⟨by decide, by decide⟩ ⟨by decide, by decide⟩ 0 3 rfl rfl (Nat.le_of_ble_eq_true rfl) dX3_tellOf_78 rfl ?_
    exact z_iret C hQ dX3_tellOf_81 (by rw [hF]; first | done | rfl) rfl (by decide) (by decide)
  · refine z_nm (show (.ofNat 4 : Int32) = (nI w) by rw [c1]; rfl) ?_
    refine z_tin C 82 dX3_tellOf_1 (by decide) (by decide) rfl (by decide) ?_
    have hF := hF.trans (if_neg (by omega))
    have hF := hF.trans (if_neg (by omega))
    have hF := hF.trans (if_neg (by omega))
    have hF := hF.trans (if_neg (by omega))
    have hF := hF.trans (if_pos c1)
    refine z_aln C dX3_tellOf_82 0 rfl ?_
    refine z_get (v := .ref (a 6)) C 0 10 dX3_tellOf_83 rfl rfl rfl hX3 (by decide) (by decide +kernel) rfl ?_
    refine z_iln C dX3_tellOf_86 1 rfl ?_
    refine z_iald (f := (g 3)) C 6 k dX3_tellOf_87 rfl (by decide) rfl (by omega) ?_
    exact z_iret C hQ dX3_tellOf_88 (by rw [hF]; first | done | rfl) rfl (by decide) (by decide)
  · refine z_nm (show (.ofNat 5 : Int32) = (nI w) by rw [c1]; rfl) ?_
    refine z_tin C 89 dX3_tellOf_1 (by decide) (by decide) rfl (by decide) ?_
    have hF := hF.trans (if_neg (by omega))
    have hF := hF.trans (if_neg (by omega))
    have hF := hF.trans (if_neg (by omega))
    have hF := hF.trans (if_neg (by omega))
    have hF := hF.trans (if_neg (by omega))
    have hF := hF.trans (if_pos c1)
    refine z_aln C dX3_tellOf_89 0 rfl ?_
    refine z_iln C dX3_tellOf_90 1 rfl ?_
    refine z_cVi0 (As := [.int (nI k)]) (rest := []) C (mX3_hasCrevasse l X a g k (by omega)) gX3_tellOf_X3_hasCrevasse rfl ⟨rfl, by decide, by decide, (by decide : (parseMethodDescriptor yX3_hasCrevasse.desc).map (fun d => d.parameters.length) = some 1)⟩ ⟨by decide, by decide⟩ ⟨by decide, by decide⟩ 0 3 rfl rfl (Nat.le_of_ble_eq_true rfl) dX3_tellOf_91 rfl ?_
    refine z_if_eq C 101 dX3_tellOf_94 (by decide) (fun c2 => ?_) (fun c2 => ?_)
    · have hF := hF.trans (if_pos c2)
      refine z_ic C dX3_tellOf_101 0 (by decide) ?_
      exact z_iret C hQ dX3_tellOf_102 (by rw [hF]; first | done | rfl) rfl (by decide) (by decide)
    · have hF := hF.trans (if_neg c2)
      refine z_ic C dX3_tellOf_97 1 (by decide) ?_
      refine z_go C 102 dX3_tellOf_98 (by decide) ?_
      exact z_iret C hQ dX3_tellOf_102 (by rw [hF]; first | done | rfl) rfl (by decide) (by decide)
  · refine z_nm (show (.ofNat 6 : Int32) = (nI w) by rw [c1]; rfl) ?_
    refine z_tin C 103 dX3_tellOf_1 (by decide) (by decide) rfl (by decide) ?_
    have hF := hF.trans (if_neg (by omega))
    have hF := hF.trans (if_neg (by omega))
    have hF := hF.trans (if_neg (by omega))
    have hF := hF.trans (if_neg (by omega))
    have hF := hF.trans (if_neg (by omega))
    have hF := hF.trans (if_neg (by omega))
    have hF := hF.trans (if_pos c1)
    refine z_aln C dX3_tellOf_103 0 rfl ?_
    refine z_iln C dX3_tellOf_104 1 rfl ?_
    refine z_cVi0 (As := [.int (nI k)]) (rest := []) C (mX3_hasCrevasse l X a g k (by omega)) gX3_tellOf_X3_hasCrevasse rfl ⟨rfl, by decide, by decide, (by decide : (parseMethodDescriptor yX3_hasCrevasse.desc).map (fun d => d.parameters.length) = some 1)⟩ ⟨by decide, by decide⟩ ⟨by decide, by decide⟩ 0 3 rfl rfl (Nat.le_of_ble_eq_true rfl) dX3_tellOf_105 rfl ?_
    refine z_if_eq C 125 dX3_tellOf_108 (by decide) (fun c3 => ?_) (fun c3 => ?_)
    · have hF := hF.trans (if_pos c3)
      refine z_ic C dX3_tellOf_125 0 (by decide) ?_
      exact z_iret C hQ dX3_tellOf_126 (by rw [hF]; first | done | rfl) rfl (by decide) (by decide)
    · have hF := hF.trans (if_neg c3)
      refine z_aln C dX3_tellOf_111 0 rfl ?_
      refine z_get (v := .ref (a 7)) C 0 11 dX3_tellOf_112 rfl rfl rfl hX3 (by decide) (by decide +kernel) rfl ?_
      refine z_iln C dX3_tellOf_115 1 rfl ?_
      refine z_iald (f := (g 4)) C 7 k dX3_tellOf_116 rfl (by decide) rfl (by omega) ?_
      refine z_ic C dX3_tellOf_117 3 (by decide) ?_
      refine z_ic_lt C 125 dX3_tellOf_118 (by decide) (fun c4 => ?_) (fun c4 => ?_)
      · have hF := hF.trans (if_pos c4)
        refine z_ic C dX3_tellOf_125 0 (by decide) ?_
        exact z_iret C hQ dX3_tellOf_126 (by rw [hF]; first | done | rfl) rfl (by decide) (by decide)
      · have hF := hF.trans (if_neg c4)
        refine z_ic C dX3_tellOf_121 1 (by decide) ?_
        refine z_go C 126 dX3_tellOf_122 (by decide) ?_
        exact z_iret C hQ dX3_tellOf_126 (by rw [hF]; first | done | rfl) rfl (by decide) (by decide)
  · refine z_nm (show (.ofNat 7 : Int32) = (nI w) by rw [c1]; rfl) ?_
    refine z_tin C 127 dX3_tellOf_1 (by decide) (by decide) rfl (by decide) ?_
    have hF := hF.trans (if_neg (by omega))
    have hF := hF.trans (if_neg (by omega))
    have hF := hF.trans (if_neg (by omega))
    have hF := hF.trans (if_neg (by omega))
    have hF := hF.trans (if_neg (by omega))
    have hF := hF.trans (if_neg (by omega))
    have hF := hF.trans (if_neg (by omega))
    have hF := hF.trans (if_pos c1)
    refine z_aln C dX3_tellOf_127 0 rfl ?_
    refine z_iln C dX3_tellOf_128 1 rfl ?_
    refine z_cVi0 (As := [.int (nI k)]) (rest := []) C (mX3_standsInSea l X a g k (by omega)) gX3_tellOf_X3_standsInSea rfl ⟨rfl, by decide, by decide, (by decide : (parseMethodDescriptor yX3_standsInSea.desc).map (fun d => d.parameters.length) = some 1)⟩ ⟨by decide, by decide⟩ ⟨by decide, by decide⟩ 0 3 rfl rfl (Nat.le_of_ble_eq_true rfl) dX3_tellOf_129 rfl ?_
    refine z_if_eq C 139 dX3_tellOf_132 (by decide) (fun c5 => ?_) (fun c5 => ?_)
    · have hF := hF.trans (if_pos c5)
      refine z_ic C dX3_tellOf_139 0 (by decide) ?_
      exact z_iret C hQ dX3_tellOf_140 (by rw [hF]; first | done | rfl) rfl (by decide) (by decide)
    · have hF := hF.trans (if_neg c5)
      refine z_ic C dX3_tellOf_135 1 (by decide) ?_
      refine z_go C 140 dX3_tellOf_136 (by decide) ?_
      exact z_iret C hQ dX3_tellOf_140 (by rw [hF]; first | done | rfl) rfl (by decide) (by decide)
  · refine z_nm (show (.ofNat 8 : Int32) = (nI w) by rw [c1]; rfl) ?_
    refine z_tin C 141 dX3_tellOf_1 (by decide) (by decide) rfl (by decide) ?_
    have hF := hF.trans (if_neg (by omega))
    have hF := hF.trans (if_neg (by omega))
    have hF := hF.trans (if_neg (by omega))
    have hF := hF.trans (if_neg (by omega))
    have hF := hF.trans (if_neg (by omega))
    have hF := hF.trans (if_neg (by omega))
    have hF := hF.trans (if_neg (by omega))
    have hF := hF.trans (if_neg (by omega))
    have hF := hF.trans (if_pos c1)
    refine z_aln C dX3_tellOf_141 0 rfl ?_
    refine z_get (v := .ref (a 4)) C 0 8 dX3_tellOf_142 rfl rfl rfl hX3 (by decide) (by decide +kernel) rfl ?_
    refine z_iln C dX3_tellOf_145 1 rfl ?_
    refine z_iald (f := (g 1)) C 4 k dX3_tellOf_146 rfl (by decide) rfl (by omega) ?_
    exact z_iret C hQ dX3_tellOf_147 (by rw [hF]; first | done | rfl) rfl (by decide) (by decide)
  · refine z_tout C 148 dX3_tellOf_1 (Or.inr (by rw [nI_toInt (by omega)]; omega)) (by decide) ?_
    have hF := hF.trans (if_neg (by omega))
    have hF := hF.trans (if_neg (by omega))
    have hF := hF.trans (if_neg (by omega))
    have hF := hF.trans (if_neg (by omega))
    have hF := hF.trans (if_neg (by omega))
    have hF := hF.trans (if_neg (by omega))
    have hF := hF.trans (if_neg (by omega))
    have hF := hF.trans (if_neg (by omega))
    have hF := hF.trans (if_neg (by omega))
    refine z_aln C dX3_tellOf_148 0 rfl ?_
    refine z_iln C dX3_tellOf_149 1 rfl ?_
    refine z_cVi0 (As := [.int (nI k)]) (rest := []) C (mX3_potential l X a g k (by omega)) gX3_tellOf_X3_potential rfl ⟨rfl, by decide, by decide, (by decide : (parseMethodDescriptor yX3_potential.desc).map (fun d => d.parameters.length) = some 1)⟩ ⟨by decide, by decide⟩ ⟨by decide, by decide⟩ 0 3 rfl rfl (Nat.le_of_ble_eq_true rfl) dX3_tellOf_150 rfl ?_
    exact z_iret C hQ dX3_tellOf_153 (by rw [hF]; first | done | rfl) rfl (by decide) (by decide)
def fX3_becomeLike (g : zG) (gO : zG) : zG := (jn (fX1_becomeLike (g 8) (g 9) (gO 8) (gO 9)) (fun u1 => (va_up (va_up (va_up (va_up (va_up (va_up (va_up (va_up (va_up (va_up (va_up g 10 (upd (g 10) 0 (gO 10 0))) 10 (upd (upd (g 10) 0 (gO 10 0)) 1 (gO 10 1))) 10 (upd (upd (upd (g 10) 0 (gO 10 0)) 1 (gO 10 1)) 2 (gO 10 2))) 10 (upd (upd (upd (upd (g 10) 0 (gO 10 0)) 1 (gO 10 1)) 2 (gO 10 2)) 3 (gO 10 3))) 10 (upd (upd (upd (upd (upd (g 10) 0 (gO 10 0)) 1 (gO 10 1)) 2 (gO 10 2)) 3 (gO 10 3)) 4 (gO 10 4))) 8 u1.1) 9 u1.2) 0 (va_cpy (gO 0) (g 0) 0 0 12)) 1 (va_cpy (gO 1) (g 1) 0 0 12)) 2 (va_cpy (gO 2) (g 2) 0 0 12)) 3 (va_cpy (gO 3) (g 3) 0 0 12))))
set_option maxHeartbeats 4000000 in
set_option maxRecDepth 100000 in
theorem mX3_becomeLike (l : Launch) (X : zX) (a : Nat → Nat) (b : Nat → Nat) (g : zG) (gO : zG) : CV l yX3_becomeLike wsX3_becomeLike 2 61 0 0 X (L2 a b X g gO) [.ref (a 0), .ref (b 0)] (L2 a b X (fX3_becomeLike g gO) gO) := by
  obtain ⟨res, hF⟩ : ∃ z9r, z9r = fX3_becomeLike g gO := ⟨_, rfl⟩
  rw [← hF]
  refine cu_intro (cc := cX3_becomeLike) (ret := none) (maxL := 2) (by decide +kernel) rfl (Nat.le_of_ble_eq_true rfl) ?_
  intro p e s m args below meth c A Q C hQ
  have hX3 : ∀ w ∈ wsX30, w ∈ wsX3_becomeLike := by decide +kernel
  show Z p l e { frames := 2, cells := 0, slots := 0, locals := 61 } s m args below meth c X A 2 Q 0 0 (L2 a b X g gO) [(0, .ref (a 0)), (1, .ref (b 0))] 0 []
  refine z_aln C dX3_becomeLike_0 0 rfl ?_
  refine z_aln C dX3_becomeLike_1 1 rfl ?_
  refine z_get (v := .int (gO 10 0)) C 13 0 dX3_becomeLike_2 rfl rfl rfl hX3 (by decide) (by decide +kernel) rfl ?_
  refine z_put C 0 0 (L2 a b X (va_up g 10 (upd (g 10) 0 (gO 10 0))) gO) dX3_becomeLike_5 rfl rfl hX3 tyX3_ok nmX3 (by decide) (by decide +kernel) rfl rfl rfl rfl rfl (Nat.le_of_ble_eq_true rfl) rfl ?_
  refine z_aln C dX3_becomeLike_8 0 rfl ?_
  refine z_aln C dX3_becomeLike_9 1 rfl ?_
  refine z_get (v := .int (gO 10 1)) C 13 1 dX3_becomeLike_10 rfl rfl rfl hX3 (by decide) (by decide +kernel) rfl ?_
  refine z_put C 0 1 (L2 a b X (va_up (va_up g 10 (upd (g 10) 0 (gO 10 0))) 10 (upd (upd (g 10) 0 (gO 10 0)) 1 (gO 10 1))) gO) dX3_becomeLike_13 rfl rfl hX3 tyX3_ok nmX3 (by decide) (by decide +kernel) rfl rfl rfl rfl rfl (Nat.le_of_ble_eq_true rfl) rfl ?_
  refine z_aln C dX3_becomeLike_16 0 rfl ?_
  refine z_aln C dX3_becomeLike_17 1 rfl ?_
  refine z_get (v := .int (gO 10 2)) C 13 2 dX3_becomeLike_18 rfl rfl rfl hX3 (by decide) (by decide +kernel) rfl ?_
  refine z_put C 0 2 (L2 a b X (va_up (va_up (va_up g 10 (upd (g 10) 0 (gO 10 0))) 10 (upd (upd (g 10) 0 (gO 10 0)) 1 (gO 10 1))) 10 (upd (upd (upd (g 10) 0 (gO 10 0)) 1 (gO 10 1)) 2 (gO 10 2))) gO) dX3_becomeLike_21 rfl rfl hX3 tyX3_ok nmX3 (by decide) (by decide +kernel) rfl rfl rfl rfl rfl (Nat.le_of_ble_eq_true rfl) rfl ?_
  refine z_aln C dX3_becomeLike_24 0 rfl ?_
  refine z_aln C dX3_becomeLike_25 1 rfl ?_
  refine z_get (v := .int (gO 10 3)) C 13 3 dX3_becomeLike_26 rfl rfl rfl hX3 (by decide) (by decide +kernel) rfl ?_
  refine z_put C 0 3 (L2 a b X (va_up (va_up (va_up (va_up g 10 (upd (g 10) 0 (gO 10 0))) 10 (upd (upd (g 10) 0 (gO 10 0)) 1 (gO 10 1))) 10 (upd (upd (upd (g 10) 0 (gO 10 0)) 1 (gO 10 1)) 2 (gO 10 2))) 10 (upd (upd (upd (upd (g 10) 0 (gO 10 0)) 1 (gO 10 1)) 2 (gO 10 2)) 3 (gO 10 3))) gO) dX3_becomeLike_29 rfl rfl hX3 tyX3_ok nmX3 (by decide) (by decide +kernel) rfl rfl rfl rfl rfl (Nat.le_of_ble_eq_true rfl) rfl ?_
  refine z_aln C dX3_becomeLike_32 0 rfl ?_
  refine z_aln C dX3_becomeLike_33 1 rfl ?_
  refine z_get (v := .int (gO 10 4)) C 13 4 dX3_becomeLike_34 rfl rfl rfl hX3 (by decide) (by decide +kernel) rfl ?_
  refine z_put C 0 4 (L2 a b X (va_up (va_up (va_up (va_up (va_up g 10 (upd (g 10) 0 (gO 10 0))) 10 (upd (upd (g 10) 0 (gO 10 0)) 1 (gO 10 1))) 10 (upd (upd (upd (g 10) 0 (gO 10 0)) 1 (gO 10 1)) 2 (gO 10 2))) 10 (upd (upd (upd (upd (g 10) 0 (gO 10 0)) 1 (gO 10 1)) 2 (gO 10 2)) 3 (gO 10 3))) 10 (upd (upd (upd (upd (upd (g 10) 0 (gO 10 0)) 1 (gO 10 1)) 2 (gO 10 2)) 3 (gO 10 3)) 4 (gO 10 4))) gO) dX3_becomeLike_37 rfl rfl hX3 tyX3_ok nmX3 (by decide) (by decide +kernel) rfl rfl rfl rfl rfl (Nat.le_of_ble_eq_true rfl) rfl ?_
  refine z_aln C dX3_becomeLike_40 0 rfl ?_
  refine z_get (v := .ref (a 1)) C 0 5 dX3_becomeLike_41 rfl rfl rfl hX3 (by decide) (by decide +kernel) rfl ?_
  refine z_aln C dX3_becomeLike_44 1 rfl ?_
  refine z_get (v := .ref (b 1)) C 13 5 dX3_becomeLike_45 rfl rfl rfl hX3 (by decide) (by decide +kernel) rfl ?_
  refine z_cVu (As := [.ref (b 1)]) (rest := []) C (mX1_becomeLike l X a b (g 8) (g 9) (gO 8) (gO 9) ) gX3_becomeLike_X1_becomeLike rfl ⟨rfl, by decide, by decide, (by decide : (parseMethodDescriptor yX1_becomeLike.desc).map (fun d => d.parameters.length) = some 1)⟩ ⟨by decide, by decide⟩ ⟨by decide, by decide⟩ 0 1 rfl rfl [1, 11, 12, 14, 24, 25] [0, 2, 3, 4, 5, 6, 7, 8, 9, 10, 13, 15, 16, 17, 18, 19, 20, 21, 22, 23] [0, 20, 1, 2, 3, 4, 5, 6, 7, 8, 9, 21, 22, 10, 23, 11, 12, 13, 14, 15, 16, 17, 18, 19, 24, 25] rfl rfl (by decide) (by decide) (by decide) (by decide) (fun _ => (L2 a b X (va_up (va_up (va_up (va_up (va_up (va_up (va_up g 10 (upd (g 10) 0 (gO 10 0))) 10 (upd (upd (g 10) 0 (gO 10 0)) 1 (gO 10 1))) 10 (upd (upd (upd (g 10) 0 (gO 10 0)) 1 (gO 10 1)) 2 (gO 10 2))) 10 (upd (upd (upd (upd (g 10) 0 (gO 10 0)) 1 (gO 10 1)) 2 (gO 10 2)) 3 (gO 10 3))) 10 (upd (upd (upd (upd (upd (g 10) 0 (gO 10 0)) 1 (gO 10 1)) 2 (gO 10 2)) 3 (gO 10 3)) 4 (gO 10 4))) 8 ((fX1_becomeLike (g 8) (g 9) (gO 8) (gO 9)).1)) 9 ((fX1_becomeLike (g 8) (g 9) (gO 8) (gO 9)).2)) gO)) (fun _ => rfl) (Nat.le_of_ble_eq_true rfl) dX3_becomeLike_48 rfl (fun _ => ?_)
  obtain ⟨u1, hu1⟩ : ∃ z9u, z9u = (fX1_becomeLike (g 8) (g 9) (gO 8) (gO 9)) := ⟨_, rfl⟩
  rw [← hu1]
  have hF := hF.trans (jn_at hu1)
  refine z_aln C dX3_becomeLike_51 1 rfl ?_
  refine z_get (v := .ref (b 3)) C 13 7 dX3_becomeLike_52 rfl rfl rfl hX3 (by decide) (by decide +kernel) rfl ?_
  refine z_ic C dX3_becomeLike_55 0 (by decide) ?_
  refine z_aln C dX3_becomeLike_56 0 rfl ?_
  refine z_get (v := .ref (a 3)) C 0 7 dX3_becomeLike_57 rfl rfl rfl hX3 (by decide) (by decide +kernel) rfl ?_
  refine z_ic C dX3_becomeLike_60 0 (by decide) ?_
  refine z_bp C dX3_becomeLike_61 12 (by decide) ?_
  refine z_copy (f := (gO 0)) (g := (g 0)) C 16 3 (L2 a b X (va_up (va_up (va_up (va_up (va_up (va_up (va_up (va_up g 10 (upd (g 10) 0 (gO 10 0))) 10 (upd (upd (g 10) 0 (gO 10 0)) 1 (gO 10 1))) 10 (upd (upd (upd (g 10) 0 (gO 10 0)) 1 (gO 10 1)) 2 (gO 10 2))) 10 (upd (upd (upd (upd (g 10) 0 (gO 10 0)) 1 (gO 10 1)) 2 (gO 10 2)) 3 (gO 10 3))) 10 (upd (upd (upd (upd (upd (g 10) 0 (gO 10 0)) 1 (gO 10 1)) 2 (gO 10 2)) 3 (gO 10 3)) 4 (gO 10 4))) 8 u1.1) 9 u1.2) 0 (va_cpy (gO 0) (g 0) 0 0 12)) gO) dX3_becomeLike_63 (by decide +kernel) (by decide +kernel) (by decide +kernel) (by decide +kernel) rfl rfl (by decide) (by decide) (by decide) (by decide) (by decide) (Nat.le_of_ble_eq_true rfl) (Nat.le_of_ble_eq_true rfl) rfl ?_
  refine z_aln C dX3_becomeLike_66 1 rfl ?_
  refine z_get (v := .ref (b 4)) C 13 8 dX3_becomeLike_67 rfl rfl rfl hX3 (by decide) (by decide +kernel) rfl ?_
  refine z_ic C dX3_becomeLike_70 0 (by decide) ?_
  refine z_aln C dX3_becomeLike_71 0 rfl ?_
  refine z_get (v := .ref (a 4)) C 0 8 dX3_becomeLike_72 rfl rfl rfl hX3 (by decide) (by decide +kernel) rfl ?_
  refine z_ic C dX3_becomeLike_75 0 (by decide) ?_
  refine z_bp C dX3_becomeLike_76 12 (by decide) ?_
  refine z_copy (f := (gO 1)) (g := (g 1)) C 17 4 (L2 a b X (va_up (va_up (va_up (va_up (va_up (va_up (va_up (va_up (va_up g 10 (upd (g 10) 0 (gO 10 0))) 10 (upd (upd (g 10) 0 (gO 10 0)) 1 (gO 10 1))) 10 (upd (upd (upd (g 10) 0 (gO 10 0)) 1 (gO 10 1)) 2 (gO 10 2))) 10 (upd (upd (upd (upd (g 10) 0 (gO 10 0)) 1 (gO 10 1)) 2 (gO 10 2)) 3 (gO 10 3))) 10 (upd (upd (upd (upd (upd (g 10) 0 (gO 10 0)) 1 (gO 10 1)) 2 (gO 10 2)) 3 (gO 10 3)) 4 (gO 10 4))) 8 u1.1) 9 u1.2) 0 (va_cpy (gO 0) (g 0) 0 0 12)) 1 (va_cpy (gO 1) (g 1) 0 0 12)) gO) dX3_becomeLike_78 (by decide +kernel) (by decide +kernel) (by decide +kernel) (by decide +kernel) rfl rfl (by decide) (by decide) (by decide) (by decide) (by decide) (Nat.le_of_ble_eq_true rfl) (Nat.le_of_ble_eq_true rfl) rfl ?_
  refine z_aln C dX3_becomeLike_81 1 rfl ?_
  refine z_get (v := .ref (b 5)) C 13 9 dX3_becomeLike_82 rfl rfl rfl hX3 (by decide) (by decide +kernel) rfl ?_
  refine z_ic C dX3_becomeLike_85 0 (by decide) ?_
  refine z_aln C dX3_becomeLike_86 0 rfl ?_
  refine z_get (v := .ref (a 5)) C 0 9 dX3_becomeLike_87 rfl rfl rfl hX3 (by decide) (by decide +kernel) rfl ?_
  refine z_ic C dX3_becomeLike_90 0 (by decide) ?_
  refine z_bp C dX3_becomeLike_91 12 (by decide) ?_
  refine z_copy (f := (gO 2)) (g := (g 2)) C 18 5 (L2 a b X (va_up (va_up (va_up (va_up (va_up (va_up (va_up (va_up (va_up (va_up g 10 (upd (g 10) 0 (gO 10 0))) 10 (upd (upd (g 10) 0 (gO 10 0)) 1 (gO 10 1))) 10 (upd (upd (upd (g 10) 0 (gO 10 0)) 1 (gO 10 1)) 2 (gO 10 2))) 10 (upd (upd (upd (upd (g 10) 0 (gO 10 0)) 1 (gO 10 1)) 2 (gO 10 2)) 3 (gO 10 3))) 10 (upd (upd (upd (upd (upd (g 10) 0 (gO 10 0)) 1 (gO 10 1)) 2 (gO 10 2)) 3 (gO 10 3)) 4 (gO 10 4))) 8 u1.1) 9 u1.2) 0 (va_cpy (gO 0) (g 0) 0 0 12)) 1 (va_cpy (gO 1) (g 1) 0 0 12)) 2 (va_cpy (gO 2) (g 2) 0 0 12)) gO) dX3_becomeLike_93 (by decide +kernel) (by decide +kernel) (by decide +kernel) (by decide +kernel) rfl rfl (by decide) (by decide) (by decide) (by decide) (by decide) (Nat.le_of_ble_eq_true rfl) (Nat.le_of_ble_eq_true rfl) rfl ?_
  refine z_aln C dX3_becomeLike_96 1 rfl ?_
  refine z_get (v := .ref (b 6)) C 13 10 dX3_becomeLike_97 rfl rfl rfl hX3 (by decide) (by decide +kernel) rfl ?_
  refine z_ic C dX3_becomeLike_100 0 (by decide) ?_
  refine z_aln C dX3_becomeLike_101 0 rfl ?_
  refine z_get (v := .ref (a 6)) C 0 10 dX3_becomeLike_102 rfl rfl rfl hX3 (by decide) (by decide +kernel) rfl ?_
  refine z_ic C dX3_becomeLike_105 0 (by decide) ?_
  refine z_bp C dX3_becomeLike_106 12 (by decide) ?_
  refine z_copy (f := (gO 3)) (g := (g 3)) C 19 6 (L2 a b X (va_up (va_up (va_up (va_up (va_up (va_up (va_up (va_up (va_up (va_up (va_up g 10 (upd (g 10) 0 (gO 10 0))) 10 (upd (upd (g 10) 0 (gO 10 0)) 1 (gO 10 1))) 10 (upd (upd (upd (g 10) 0 (gO 10 0)) 1 (gO 10 1)) 2 (gO 10 2))) 10 (upd (upd (upd (upd (g 10) 0 (gO 10 0)) 1 (gO 10 1)) 2 (gO 10 2)) 3 (gO 10 3))) 10 (upd (upd (upd (upd (upd (g 10) 0 (gO 10 0)) 1 (gO 10 1)) 2 (gO 10 2)) 3 (gO 10 3)) 4 (gO 10 4))) 8 u1.1) 9 u1.2) 0 (va_cpy (gO 0) (g 0) 0 0 12)) 1 (va_cpy (gO 1) (g 1) 0 0 12)) 2 (va_cpy (gO 2) (g 2) 0 0 12)) 3 (va_cpy (gO 3) (g 3) 0 0 12)) gO) dX3_becomeLike_108 (by decide +kernel) (by decide +kernel) (by decide +kernel) (by decide +kernel) rfl rfl (by decide) (by decide) (by decide) (by decide) (by decide) (Nat.le_of_ble_eq_true rfl) (Nat.le_of_ble_eq_true rfl) rfl ?_
  exact z_vret C hQ () dX3_becomeLike_111 (by rw [hF]; first | done | rfl) (by decide) (by decide)
