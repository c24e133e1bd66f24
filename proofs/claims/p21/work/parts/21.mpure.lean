theorem mp_fr {g G : zG} {b yr fb bb : Nat} (h : MP g b yr fb bb) (e10 : G 10 = g 10) (e0 : ∀ i, i < 12 → G 0 i = g 0 i) (e1 : G 0 89 = g 0 89) (e2 : G 0 90 = g 0 90) (e3 : ∀ i, 100 ≤ i → i < 832 → G 0 i = g 0 i) : MP G b yr fb bb := by
  obtain ⟨m1, m2, m3, m4, m5, m6⟩ := h
  unfold MP
  rw [e10, e1, e2]
  refine ⟨m1, ⟨fun k j hk hj => ?_, ?_⟩, m3, fun k hk => ?_, m5, m6⟩
  · rw [e3 _ (by omega) (by omega)]
    exact m2.1 k j hk hj
  · rw [tS_c (S := g 0) 12 (fun k hk => lS_c 61 (fun j hj => e3 _ (by omega) (by omega)))]
    exact m2.2
  · rw [e0 k hk]
    exact m4 k hk
theorem mp_of {g G : zG} {b b1 yr fb bb : Nat} (h : MP g b yr fb bb) (e10 : G 10 = g 10) (e0 : ∀ i, i < 12 → G 0 i = g 0 i) (e1 : G 0 89 = g 0 89) (e2 : G 0 90 = g 0 90) (hm : ML (G 0) b1) : MP G b1 yr fb bb := by
  obtain ⟨m1, m2, m3, m4, m5, m6⟩ := h
  unfold MP
  rw [e10, e1, e2]
  exact ⟨m1, hm, m3, fun k hk => by rw [e0 k hk]; exact m4 k hk, m5, m6⟩
theorem ml_upd {S T : Nat → Int32} {b b1 k j : Nat} {d : Int} (h : ML S b) (hk : k < 12) (hj : j < 61) (h1 : (T (100 + 61 * k + j)).toInt = (S (100 + 61 * k + j)).toInt + d) (h0 : 0 ≤ (S (100 + 61 * k + j)).toInt + d) (hb : (b : Int) + d ≤ b1) (hs : ∀ i, 100 ≤ i → i < 832 → i ≠ 100 + 61 * k + j → T i = S i) : ML T b1 := by
  have ht := tS_upd hk hj h1 hs
  have h2 := h.2
  refine ⟨fun c y hc hy => ?_, ?_⟩
  · by_cases e : 100 + 61 * c + y = 100 + 61 * k + j
    · rw [e, h1]
      exact h0
    · rw [hs _ (by omega) (by omega) e]
      exact h.1 c y hc hy
  · rw [ht.2.2]
    omega
theorem ml_fr {S T : Nat → Int32} {b : Nat} (h : ML S b) (hs : ∀ i, 100 ≤ i → i < 832 → T i = S i) : ML T b := by
  refine ⟨fun k j hk hj => ?_, ?_⟩
  · rw [hs _ (by omega) (by omega)]
    exact h.1 k j hk hj
  · rw [tS_c (S := S) 12 (fun k hk => lS_c 61 (fun j hj => hs _ (by omega) (by omega)))]
    exact h.2
theorem mp_ite {c : Prop} [Decidable c] {x y : zG} {b yr fb bb : Nat} (h1 : MP x b yr fb bb) (h2 : MP y b yr fb bb) : MP (if c then x else y) b yr fb bb := by
  by_cases h : c
  · rw [if_pos h]; exact h1
  · rw [if_neg h]; exact h2
theorem snow_c {x1 g12 g13 g14 g20 g21 : zG} {k b yr fb bb : Nat} {v6 v7 v8 c1 c4 c5 : Int32} (hi : MP x1 b yr fb bb) (hk : k < 12) (hb : b + 20 ≤ 1000000)
    (h12 : g12 = va_up x1 0 (upd (x1 0) (48 + k) v8)) (h13 : g13 = va_up g12 0 (upd (g12 0) 86 c1)) (h14 : g14 = va_up g13 0 (upd (g13 0) (100 + 61 * k + (g13 0 89).toNatClampNeg) (g13 0 (100 + 61 * k + (g13 0 89).toNatClampNeg) + g13 0 (48 + k))))
    (h20 : g20 = va_up g14 0 (upd (g14 0) (24 + k) c4)) (h21 : g21 = va_up g20 0 (upd (g20 0) 88 c5)) (h8 : v8 = if 0 ≤ v7 then 0 else if 0 < v6 then x1 10 3 else if fX6_isInSea x1 k = 0 then x1 10 3 else 0) :
    (0 ≤ v8.toInt ∧ v8.toInt ≤ 20) ∧ ML (g21 0) (b + 20) ∧ lS (g21 0) k 61 = lS (x1 0) k 61 + v8.toInt ∧ MP g21 (b + 20) yr fb bb := by
  have hyr := mp_yr hi
  have e89 : g13 0 89 = nI yr := snow_yr hi h12 h13 hk
  have ec : (nI yr).toNatClampNeg = yr := nI_clamp (by omega)
  rw [e89, ec] at h14
  have e10 : x1 10 3 = x1 10 3 := rfl
  have h3 := hi.2.2.1
  have e0 : (0 : Int32).toInt = 0 := rfl
  have hv8 : 0 ≤ v8.toInt ∧ v8.toInt ≤ 20 := by
    rw [h8]
    split
    · rw [e0]; omega
    · split
      · exact h3
      · split
        · exact h3
        · rw [e0]; omega
  have a48 : g13 0 (48 + k) = v8 := by rw [h13, up_t, pk_un (by omega), h12, up_t, pk_us]
  have a13 : ∀ i, 100 ≤ i → i < 832 → g13 0 i = x1 0 i := fun i a c => by rw [h13, up_t, pk_un (by omega), h12, up_t, pk_un (by omega)]
  have hl := ml_layer hi.2.1 hk (j := yr) (by omega)
  have s2 : (g21 0 (100 + 61 * k + yr)).toInt = (x1 0 (100 + 61 * k + yr)).toInt + v8.toInt := by
    rw [h21, up_t, pk_un (by omega), h20, up_t, pk_un (by omega), h14, up_t, pk_us, a48, a13 _ (by omega) (by omega), add_t (by omega) (by omega)]
  have s1 : ∀ i, 100 ≤ i → i < 832 → i ≠ 100 + 61 * k + yr → g21 0 i = x1 0 i := fun i a c q => by
    rw [h21, up_t, pk_un (by omega), h20, up_t, pk_un (by omega), h14, up_t, pk_un q, a13 i a c]
  have hm : ML (g21 0) (b + 20) := ml_upd hi.2.1 hk (show yr < 61 by omega) s2 (by omega) (by omega) s1
  refine ⟨hv8, hm, (tS_upd hk (show yr < 61 by omega) s2 s1).2.1, mp_of hi ?_ (fun i q => ?_) ?_ ?_ hm⟩
  · rw [h21, h20, h14, h13, h12]
    rfl
  · rw [h21, up_t, pk_un (by omega), h20, up_t, pk_un (by omega), h14, up_t, pk_un (by omega), h13, up_t, pk_un (by omega), h12, up_t, pk_un (by omega)]
  · rw [h21, up_t, pk_un (by omega), h20, up_t, pk_un (by omega), h14, up_t, pk_un (by omega), e89, hi.1.2]
  · rw [h21, up_t, pk_un (by omega), h20, up_t, pk_un (by omega), h14, up_t, pk_un (by omega), h13, up_t, pk_un (by omega), h12, up_t, pk_un (by omega)]
theorem surf_t {g : zG} {b yr fb bb k : Nat} (h : MP g b yr fb bb) (hk : k < 12) (hb : b ≤ 1000000) (hbb : bb ≤ 1000) : (fX6_surfaceOf g k).toInt = (g 0 k).toInt + lS (g 0) k 61 ∧ (g 0 k).toInt + lS (g 0) k 61 ≤ 1001500 ∧ -1000 ≤ (g 0 k).toInt + lS (g 0) k 61 := by
  have h1 := iceOf_t h.2.1 hk (by omega)
  have h2 := ml_cell h.2.1 hk
  have h3 := h.2.2.2.1 k hk
  unfold fX6_surfaceOf
  rw [Nat.zero_add, add_t (by omega) (by omega), h1]
  omega
theorem flow_rng {g : zG} {b yr fb bb k j : Nat} (h : MP g b yr fb bb) (hk : k < 12) (hj : j < 12) (hb : b ≤ 1000000) (hbb : bb ≤ 1000) (hs : ¬ fX6_surfaceOf g k ≤ fX6_surfaceOf g j) : 0 ≤ (fX6_flowOf g k j).toInt ∧ 4 * (fX6_flowOf g k j).toInt ≤ lS (g 0) k 61 := by
  have a1 := surf_t h hk hb hbb
  have a2 := surf_t h hj hb hbb
  have hv := iceOf_t h.2.1 hk (by omega)
  have hc := ml_cell h.2.1 hk
  rw [fa_le] at hs
  unfold fX6_flowOf
  rw [jn_eq, jn_eq, jn_eq, jn_eq]
  generalize fX6_iceOf g k = v at hv
  have hd : (fX6_surfaceOf g k - fX6_surfaceOf g j).toInt = (fX6_surfaceOf g k).toInt - (fX6_surfaceOf g j).toInt := sub_t (by omega) (by omega)
  generalize fX6_surfaceOf g k - fX6_surfaceOf g j = d at hd
  have hd1 : 0 ≤ d.toInt := by omega
  have hd2 : d.toInt ≤ 1002500 := by omega
  have e4 : (4 : Int32).toInt = 4 := by decide
  have h4 : (v / 4).toInt = v.toInt / 4 := by
    rw [Int32.toInt_div, e4, Int.tdiv_eq_ediv_of_nonneg (by omega)]
    exact Int.bmod_eq_of_le (by omega) (by omega)
  have p1 : 0 ≤ d.toInt * v.toInt := Int.mul_nonneg hd1 (by omega)
  have p2 : d.toInt * v.toInt ≤ 1002500 * 1000000 := Int.mul_le_mul hd2 (by omega) (by omega) (by omega)
  have hm : (d.toInt64 * v.toInt64).toInt = d.toInt * v.toInt := by
    rw [Int64.toInt_mul, Int32.toInt_toInt64, Int32.toInt_toInt64]
    exact Int.bmod_eq_of_le (by omega) (by omega)
  generalize d.toInt * v.toInt = P at p1 p2 hm
  have e200 : (200 : Int64).toInt = 200 := by decide
  have e2 : (2 : Int64).toInt = 2 := by decide
  have hq : (d.toInt64 * v.toInt64 / 200).toInt = P / 200 := by
    rw [Int64.toInt_div, hm, e200, Int.tdiv_eq_ediv_of_nonneg p1]
    exact Int.bmod_eq_of_le (by omega) (by omega)
  generalize d.toInt64 * v.toInt64 / 200 = w at hq
  have hw : 0 ≤ (if g 0 (24 + k) < 4 then w else 2 * w).toInt := by
    split
    · omega
    · rw [Int64.toInt_mul, e2, hq, Int.bmod_eq_of_le (by omega) (by omega)]
      omega
  generalize (if g 0 (24 + k) < 4 then w else 2 * w) = u at hw
  by_cases c : 0 ≤ lg_cmp u ((v / 4).toInt64)
  · rw [if_pos c, h4]
    omega
  · rw [if_neg c]
    rw [lg_cmp_ge, fa_le64, Int32.toInt_toInt64, h4] at c
    rw [Int64.toInt_toInt32, Int.bmod_eq_of_le (by omega) (by omega)]
    omega
theorem td_zero {S : Nat → Int32} {k : Nat} {v : Int32} (h : TD S k 0 v) : v ≤ 0 := by
  have h1 := h.2
  rw [fa_le]
  exact h1
theorem td_step {S : Nat → Int32} {k n : Nat} {v w : Int32} (h : TD S k (n + 1) v) (hv : ¬ v ≤ 0) (hw : w = if v ≤ S (100 + 61 * k + n) then v else S (100 + 61 * k + n)) : TD (upd S (100 + 61 * k + n) (S (100 + 61 * k + n) - w)) k n (v - w) := by
  have e0 : (0 : Int32).toInt = 0 := rfl
  rw [fa_le, e0] at hv
  have ha := h.1 n (by omega)
  have h2 : v.toInt ≤ lS S k n + (S (100 + 61 * k + n)).toInt := h.2
  have hp := lS_pos (S := S) (k := k) n (fun j hj => h.1 j (by omega))
  have hr := fb_rng v
  have hs : ∀ j, j < n → upd S (100 + 61 * k + n) (S (100 + 61 * k + n) - w) (100 + 61 * k + j) = S (100 + 61 * k + j) := fun j hj => pk_un (by omega)
  refine ⟨fun j hj => by rw [hs j hj]; exact h.1 j (by omega), ?_⟩
  rw [lS_c n hs]
  by_cases c : v ≤ S (100 + 61 * k + n)
  · rw [if_pos c] at hw
    rw [hw, sub_t (by omega) (by omega)]
    omega
  · rw [if_neg c] at hw
    rw [fa_le] at c
    rw [hw, sub_t (by omega) (by omega)]
    omega
theorem snow_td {x1 g12 g13 g14 g20 g21 : zG} {k b yr fb bb : Nat} {v6 v7 v8 v15 v17 c1 c3 c4 c5 : Int32} (hi : MP x1 b yr fb bb) (hk : k < 12) (hb : b + 20 ≤ 1000000)
    (h12 : g12 = va_up x1 0 (upd (x1 0) (48 + k) v8)) (h13 : g13 = va_up g12 0 (upd (g12 0) 86 c1)) (h14 : g14 = va_up g13 0 (upd (g13 0) (100 + 61 * k + (g13 0 89).toNatClampNeg) (g13 0 (100 + 61 * k + (g13 0 89).toNatClampNeg) + g13 0 (48 + k))))
    (h20 : g20 = va_up g14 0 (upd (g14 0) (24 + k) c4)) (h21 : g21 = va_up g20 0 (upd (g20 0) 88 c5)) (h6 : v6 = fX6_iceOf x1 k) (h7 : v7 = c3) (h8 : v8 = if 0 ≤ v7 then 0 else if 0 < v6 then x1 10 3 else if fX6_isInSea x1 k = 0 then x1 10 3 else 0)
    {c6 : Int32} (h15 : v15 = if v7 ≤ 0 then 0 else c6) (h17 : v17 = if v6 ≤ v15 then (if v7 ≤ 0 then 0 else v6) else v15) : TD (g21 0) k 61 v17 := by
  obtain ⟨hv8, hm, hl, -⟩ := snow_c hi hk hb h12 h13 h14 h20 h21 h8
  refine ⟨fun j hj => hm.1 k j hk hj, ?_⟩
  have h6t : v6.toInt = lS (x1 0) k 61 := by rw [h6]; exact iceOf_t hi.2.1 hk (by omega)
  have hc := ml_cell hi.2.1 hk
  have e0 : (0 : Int32).toInt = 0 := rfl
  rw [hl, h17]
  split
  · split
    · rw [e0]; omega
    · omega
  · rename_i q
    rw [fa_le] at q
    omega
theorem mp_snow {x : zG} {k b yr fb bb : Nat} (h : MP x (b + 20 * k) yr fb bb) (hk : k < 12) (hb : b + 240 ≤ 1000000) : MP (mSnow k x) (b + 20 * (k + 1)) yr fb bb := by
  have H : ∀ (n : Nat) (v : Int32) (x : zG) (b1 : Nat), n ≤ 61 → TD (x 0) k n v → MP x b1 yr fb bb → MP (fX6_snows_L182 k n v x) b1 yr fb bb := by
    intro n
    induction n with
    | zero => intro v x b1 _ ht hx; unfold fX6_snows_L182; exact hx
    | succ n ih =>
      intro v x b1 hn ht hx
      unfold fX6_snows_L182
      split
      · exact hx
      · rename_i hv
        rw [jn_eq]
        generalize hw : (if v ≤ x 0 (100 + 61 * k + n) then v else x 0 (100 + 61 * k + n)) = w
        have hs := td_step ht hv hw.symm
        have hl := hx.2.1.1 k n hk (by omega)
        have hlr := fb_rng (x 0 (100 + 61 * k + n))
        have e0 : (0 : Int32).toInt = 0 := rfl
        rw [fa_le, e0] at hv
        have hww : 0 ≤ w.toInt ∧ w.toInt ≤ (x 0 (100 + 61 * k + n)).toInt := by
          rw [← hw]
          split
          · rename_i q
            rw [fa_le] at q
            omega
          · omega
        refine ih _ _ b1 (by omega) (by rw [up_t]; exact hs) ?_
        refine mp_of hx rfl (fun i hi => by rw [up_t, pk_un (by omega)]) (by rw [up_t, pk_un (by omega)]) (by rw [up_t, pk_un (by omega)]) ?_
        rw [up_t]
        exact ml_upd (d := -w.toInt) hx.2.1 hk (show n < 61 by omega) (by rw [pk_us, sub_t (by omega) (by omega)]; omega) (by omega) (by omega) (fun i _ _ q => pk_un q)
  unfold mSnow
  rw [jn_eq, jn_eq, jn_eq, jn_eq, jn_eq, jn_eq, jn_eq, jn_eq, jn_eq, jn_eq, jn_eq]
  generalize h6 : fX6_iceOf x k = v6
  generalize h7 : x 10 2 - (fX6_surfaceOf x k >>> (1 &&& 31)) = v7
  generalize h8 : (if 0 ≤ v7 then (0 : Int32) else (if 0 < v6 then (x 10 3) else (if (fX6_isInSea x k) = 0 then (x 10 3) else 0))) = v8
  generalize h12 : va_up x 0 (upd (x 0) (48 + k) v8) = g12
  generalize h13 : va_up g12 0 (upd (g12 0) 86 (g12 0 86 + g12 0 (48 + k))) = g13
  generalize h14 : va_up g13 0 (upd (g13 0) (100 + 61 * k + (g13 0 89).toNatClampNeg) (g13 0 (100 + 61 * k + (g13 0 89).toNatClampNeg) + g13 0 (48 + k))) = g14
  generalize h15 : (if v7 ≤ 0 then (0 : Int32) else v7 * g14 10 4 / 10) = v15
  generalize h17 : (if v6 ≤ v15 then (if v7 ≤ 0 then 0 else v6) else v15) = v17
  generalize h20 : va_up g14 0 (upd (g14 0) (24 + k) (g14 0 (24 + k) + v17)) = g20
  generalize h21 : va_up g20 0 (upd (g20 0) 88 (g20 0 88 + v17)) = g21
  have hb2 : b + 20 * k + 20 ≤ 1000000 := by omega
  have hc := snow_c h hk hb2 h12.symm h13.symm h14.symm h20.symm h21.symm h8.symm
  have ht := snow_td h hk hb2 h12.symm h13.symm h14.symm h20.symm h21.symm h6.symm (rfl : v7 = v7) h8.symm h15.symm h17.symm
  rw [show b + 20 * (k + 1) = b + 20 * k + 20 by omega]
  exact H 61 v17 g21 _ (Nat.le_refl _) ht hc.2.2.2
theorem mp_flow0 {x : zG} {b yr fb bb : Nat} (h : MP x b yr fb bb) (k : Nat) (hk : k < 12) : MP (va_up (va_up x 0 (upd (x 0) (60 + k) 0)) 0 (upd (upd (x 0) (60 + k) 0) (72 + k) 0)) b yr fb bb := mp_fr h rfl (fun i hi => by rw [up_t, pk_un (by omega), pk_un (by omega)]) (by rw [up_t, pk_un (by omega), pk_un (by omega)]) (by rw [up_t, pk_un (by omega), pk_un (by omega)]) (fun i a b => by rw [up_t, pk_un (by omega), pk_un (by omega)])
theorem flowA_keep {x : zG} {k b yr fb bb : Nat} (h : MP x b yr fb bb) (hf : FA x k) (hk : k < 11) (hb : b ≤ 1000000) (hbb : bb ≤ 1000) : MP (mFlowA k x) b yr fb bb ∧ FA (mFlowA k x) (k + 1) := by
  unfold mFlowA
  rw [jn_eq, jn_eq, jn_eq]
  refine ⟨mp_fr h rfl (fun _ _ => rfl) rfl rfl (fun _ _ _ => rfl), fun c hc => ?_⟩
  have h1 := ml_cell h.2.1 (k := k) (by omega)
  have h2 := ml_cell h.2.1 (k := k + 1) (by omega)
  have e0 : (0 : Int32).toInt = 0 := rfl
  rw [up_t]
  show _ ≤ lS (x 0) c 61 ∧ _ ≤ lS (x 0) (c + 1) 61
  by_cases e : c = k
  · subst e
    rw [pk_us]
    split
    · split
      · rw [e0]; omega
      · rename_i q1 q2
        have hf := flow_rng h (k := c + 1) (j := c) (by omega) (by omega) hb hbb q2
        have hr := fb_rng (fX6_flowOf x (c + 1) c)
        rw [Int32.toInt_neg, Int.bmod_eq_of_le (by omega) (by omega)]
        omega
    · rename_i q1
      have hf := flow_rng h (k := c) (j := c + 1) (by omega) (by omega) hb hbb q1
      omega
  · rw [pk_un e]
    exact hf c (by omega)
theorem flowB_init {x : zG} {b yr fb bb : Nat} (h : MP x b yr fb bb) (hb : b ≤ 1000000) (hf : FA x 11) : ∃ q : Nat → Int, FB x q 0 := by
  have hc := fun k (hk : k < 12) => ml_cell h.2.1 hk
  refine ⟨fun k => lS (x 0) k 61 / 4, fun k hk => ?_, fun k hk => ?_, ?_, fun k _ hk => ?_⟩
  · have := hc k hk
    show 0 ≤ lS (x 0) k 61 / 4
    omega
  · have := hf k hk
    show _ ≤ lS (x 0) k 61 / 4 ∧ _ ≤ lS (x 0) (k + 1) 61 / 4
    omega
  · have := hc 0 (by omega)
    show 3 * (lS (x 0) 0 61 / 4) ≤ _
    omega
  · have := hc k hk
    show 4 * (lS (x 0) k 61 / 4) ≤ _
    omega
theorem fu_zero {S : Nat → Int32} {f k : Nat} {v : Int32} (h : FU S f k v) (hk : k = 61) : v ≤ 0 := by
  subst hk
  have h1 := h.2
  rw [fa_le]
  have e0 : (0 : Int32).toInt = 0 := rfl
  omega
theorem fu_step {x y : zG} {f k i : Nat} {v a w c : Int32} (h : FU (x 0) f k v) (hk : k < 61) (hv : ¬ v ≤ 0) (hf : f = i ∨ f = i + 1) (hi : i < 11) (ha : a = x 0 (100 + 61 * f + k)) (hw : w = if v ≤ a then v else a) (hy : y = va_up x 0 (upd (x 0) (100 + 61 * f + k) (x 0 (100 + 61 * f + k) - w))) : FU (va_up y 0 (upd (y 0) (100 + 61 * (2 * i + 1 - f) + k) c) 0) f (k + 1) (v - w) := by
  have e0 : (0 : Int32).toInt = 0 := rfl
  rw [fa_le, e0] at hv
  have hak := h.1 k hk
  have hm := lS_mono h.1 61 (Nat.le_refl _) k hk
  have hr := fb_rng v
  have hr2 := fb_rng a
  subst hy
  rw [up_t, up_t]
  generalize hS : upd (upd (x 0) (100 + 61 * f + k) (x 0 (100 + 61 * f + k) - w)) (100 + 61 * (2 * i + 1 - f) + k) c = S
  have s1 : ∀ j, j < 61 → j ≠ k → S (100 + 61 * f + j) = x 0 (100 + 61 * f + j) := fun j hj hjk => by
    rw [← hS, pk_un (by omega), pk_un (by omega)]
  have s2 : S (100 + 61 * f + k) = x 0 (100 + 61 * f + k) - w := by rw [← hS, pk_un (by omega), pk_us]
  have hww : 0 ≤ w.toInt ∧ w.toInt ≤ a.toInt ∧ (v - w).toInt = v.toInt - w.toInt ∧ v.toInt - w.toInt ≤ lS (x 0) f 61 - lS (x 0) f (k + 1) := by
    show _ ∧ _ ∧ _ ∧ _ ≤ _ - (lS (x 0) f k + _)
    rw [← ha] at hak hm ⊢
    have h2 := h.2
    by_cases cc : v ≤ a
    · rw [if_pos cc] at hw
      rw [fa_le] at cc
      subst hw
      refine ⟨by omega, by omega, sub_t (by omega) (by omega), by omega⟩
    · rw [if_neg cc] at hw
      rw [fa_le] at cc
      subst hw
      refine ⟨by omega, by omega, sub_t (by omega) (by omega), by omega⟩
  have s3 : (S (100 + 61 * f + k)).toInt = (x 0 (100 + 61 * f + k)).toInt + -w.toInt := by
    rw [s2, ← ha, sub_t (by rw [← ha] at hak; omega) (by omega)]
    omega
  have hT : ∀ j, j < 61 → 0 ≤ (S (100 + 61 * f + j)).toInt := fun j hj => by
    by_cases e : j = k
    · subst e
      rw [s3, ← ha]
      omega
    · rw [s1 j hj e]
      exact h.1 j hj
  have l1 : lS S f k = lS (x 0) f k := lS_c k (fun j hj => s1 j (by omega) (by omega))
  have l2 : ∀ n : Nat, k < n → n ≤ 61 → lS S f n = lS (x 0) f n + -w.toInt := by
    intro n
    induction n with
    | zero => intro hn _; omega
    | succ n ih =>
      intro hn hn2
      show lS S f n + _ = lS (x 0) f n + _ + _
      by_cases e : n = k
      · subst e
        rw [l1, s3]
        omega
      · rw [ih (by omega) (by omega), s1 n (by omega) e]
        omega
  refine ⟨hT, ?_⟩
  rw [l2 61 hk (Nat.le_refl _), l2 (k + 1) (by omega) hk, hww.2.2.1]
  have := hww.2.2.2
  omega
theorem flow_fu {x g16 g17 : zG} {k f b yr fb bb : Nat} {v c1 c2 : Int32} (h : MP x b yr fb bb ∧ ∃ q : Nat → Int, FB x q k) (hk : k < 11) (hf : f = if 0 ≤ x 9 k then k else k + 1) (hv : v = if 0 ≤ x 9 k then x 9 k else -(x 9 k)) (h16 : g16 = va_up x 0 (upd (x 0) (72 + f) c1)) (h17 : g17 = va_up g16 0 (upd (g16 0) (60 + (2 * k + 1 - f)) c2)) : FU (g17 0) f 0 v := by
  obtain ⟨hm, q, hq⟩ := h
  obtain ⟨q0, q1, q2, q3⟩ := hq
  have s1 : ∀ i, 100 ≤ i → i < 832 → g17 0 i = x 0 i := fun i a c => by
    rw [h17, up_t, pk_un (by split at hf <;> omega), h16, up_t, pk_un (by split at hf <;> omega)]
  have hf12 : f < 12 := by split at hf <;> omega
  refine ⟨fun j hj => by rw [s1 _ (by omega) (by omega)]; exact hm.2.1.1 f j hf12 hj, ?_⟩
  rw [lS_c (S := x 0) 61 (fun j hj => s1 _ (by omega) (by omega))]
  show v.toInt ≤ lS (x 0) f 61 - 0
  have hc := ml_cell hm.2.1 hf12
  have hk1 := q1 k hk
  have hqk := q0 k (by omega)
  have hqk1 := q0 (k + 1) (by omega)
  have h4 := q3 (k + 1) (by omega) (by omega)
  have e0 : (0 : Int32).toInt = 0 := rfl
  by_cases c : 0 ≤ x 9 k
  · rw [if_pos c] at hf hv
    subst hf hv
    omega
  · rw [if_neg c] at hf hv
    subst hf hv
    rw [fa_le, e0] at c
    have hr := fb_rng (x 9 k)
    rw [Int32.toInt_neg]
    by_cases e : (x 9 k).toInt = -2147483648
    · rw [e]
      have e9 : Int.bmod (-(-2147483648)) (2 ^ 32) = -2147483648 := by decide
      rw [e9]
      omega
    · rw [Int.bmod_eq_of_le (by omega) (by omega)]
      omega
theorem run_ne {k : Nat} {v7 : Int32} {x : zG} (h7 : v7 = if fX6_isInSea x k = 0 then (if k = 11 then 1 else 0) else 1) (h : v7 = 0) : ¬ k = 11 := by
  subst h7
  intro e
  subst e
  by_cases c : fX6_isInSea x 11 = 0
  · rw [if_pos c, if_pos rfl] at h
    exact absurd h (by decide)
  · rw [if_neg c] at h
    exact absurd h (by decide)
theorem run_lt {k : Nat} {v7 : Int32} {x : zG} {w : Nat} (hk : k < 12) (h7 : v7 = if fX6_isInSea x k = 0 then (if k = 11 then 1 else 0) else 1) (hw : w = if v7 = 0 then (if k = 0 then k + 1 else if fX6_potentialOf x (k - 1) < fX6_potentialOf x (k + 1) then k - 1 else k + 1) else k) : w < 12 := by
  subst hw
  by_cases c : v7 = 0
  · have h11 := run_ne h7 c
    rw [if_pos c]
    split
    · omega
    · split <;> omega
  · rw [if_neg c]
    exact hk
theorem mp_break {x : zG} {k b yr fb bb : Nat} (h : MP x b yr (fb + k) bb) (hk : k < 12) (hfb : fb + 12 ≤ 720) : MP (mBreak k x) b yr (fb + (k + 1)) bb := by
  unfold mBreak
  rw [jn_eq, jn_eq]
  have hw : MP x b yr (fb + (k + 1)) bb := by
    obtain ⟨m1, m2, m3, m4, ⟨fl, m5, m6⟩, m7⟩ := h
    exact ⟨m1, m2, m3, m4, ⟨fl, by omega, m6⟩, m7⟩
  split
  · exact hw
  · split
    · exact hw
    · split
      · exact hw
      · rw [jn_eq, jn_eq]
        obtain ⟨m1, m2, m3, m4, ⟨fl, m5, m6⟩, m7⟩ := h
        have s0 : ∀ i, i ≠ 90 → i ≠ 84 → i ≠ 24 + k → (∀ z1 z2 z3 : Int32, ∀ y : zG, y 0 = x 0 → va_up (va_up (va_up y 0 (upd (y 0) 90 z1)) 0 (upd (va_up y 0 (upd (y 0) 90 z1) 0) 84 z2)) 0 (upd (va_up (va_up y 0 (upd (y 0) 90 z1)) 0 (upd (va_up y 0 (upd (y 0) 90 z1) 0) 84 z2) 0) (24 + k) z3) 0 i = x 0 i) := fun i a1 a2 a3 z1 z2 z3 y hy => by
          rw [up_t, up_t, up_t, pk_un a3, pk_un a2, pk_un a1, hy]
        refine ⟨⟨m1.1, ?_⟩, ⟨fun c j hc hj => ?_, ?_⟩, m3, fun c hc => ?_, ⟨fl + 1, by omega, ?_⟩, m7⟩
        · exact (s0 89 (by omega) (by omega) (by omega) _ _ _ _ rfl).trans m1.2
        · have e := s0 (100 + 61 * c + j) (by omega) (by omega) (by omega) (x 0 90 + 1) (va_up (va_up (va_up (va_up x 3 (upd (x 3) (x 0 90).toNatClampNeg (x 0 89))) 4 (upd (x 4) (x 0 90).toNatClampNeg (nI k))) 5 (upd (x 5) (x 0 90).toNatClampNeg (x 0 (24 + k)))) 0 (upd (x 0) 90 (x 0 90 + 1)) 0 84 + x 0 (24 + k)) 0 (va_up (va_up (va_up x 3 (upd (x 3) (x 0 90).toNatClampNeg (x 0 89))) 4 (upd (x 4) (x 0 90).toNatClampNeg (nI k))) 5 (upd (x 5) (x 0 90).toNatClampNeg (x 0 (24 + k)))) rfl
          have e2 := m2.1 c j hc hj
          rw [← e] at e2
          exact e2
        · refine Int.le_trans (Int.le_of_eq ?_) m2.2
          exact tS_c (S := x 0) 12 (fun c hc => lS_c 61 (fun j hj => s0 (100 + 61 * c + j) (by omega) (by omega) (by omega) _ _ _ _ rfl))
        · have e2 := m4 c hc
          rw [← s0 c (by omega) (by omega) (by omega) (x 0 90 + 1) (va_up (va_up (va_up (va_up x 3 (upd (x 3) (x 0 90).toNatClampNeg (x 0 89))) 4 (upd (x 4) (x 0 90).toNatClampNeg (nI k))) 5 (upd (x 5) (x 0 90).toNatClampNeg (x 0 (24 + k)))) 0 (upd (x 0) 90 (x 0 90 + 1)) 0 84 + x 0 (24 + k)) 0 (va_up (va_up (va_up x 3 (upd (x 3) (x 0 90).toNatClampNeg (x 0 89))) 4 (upd (x 4) (x 0 90).toNatClampNeg (nI k))) 5 (upd (x 5) (x 0 90).toNatClampNeg (x 0 (24 + k)))) rfl] at e2
          exact e2
        · rw [up_t, pk_un (by omega), up_t, pk_un (by omega), up_t, pk_us]
          show x 0 90 + 1 = _
          rw [m6]
          exact nI_1 fl
theorem front_nat {x : Int32} (h : x.toInt < 12 ∧ -1 ≤ x.toInt) (hx : ¬ x = -1) : nI x.toNatClampNeg = x := by
  have e0 : (0 : Int32).toInt = 0 := rfl
  have e1 : (-1 : Int32).toInt = -1 := by decide
  refine zn_in (n := 12) (vp_in_iff.mpr ⟨?_, h.1⟩)
  have : x.toInt ≠ -1 := fun q => hx ((fa_eq x (-1)).mpr (by rw [e1]; exact q))
  omega
theorem front_lt {x : Int32} (h : x.toInt < 12 ∧ -1 ≤ x.toInt) (hx : ¬ x = -1) : 36 + x.toNatClampNeg < 1024 := by
  have e1 : (-1 : Int32).toInt = -1 := by decide
  have hv : vp_in x 12 := by
    refine vp_in_iff.mpr ⟨?_, h.1⟩
    have : x.toInt ≠ -1 := fun q => hx ((fa_eq x (-1)).mpr (by rw [e1]; exact q))
    omega
  have := zn_lt hv
  omega
theorem end_keep {x : Int32} {g : zG} {k yr : Nat} (h : g 0 89 = nI yr ∧ x.toInt < 12 ∧ -1 ≤ x.toInt) (hk : k < 12) : (mEnd k x g).2 0 89 = nI yr ∧ (mEnd k x g).1.toInt < 12 ∧ -1 ≤ (mEnd k x g).1.toInt := by
  unfold mEnd
  rw [jn_eq, jn_eq, jn_eq, jn_eq]
  dsimp only
  refine ⟨?_, ?_⟩
  · rw [up_t, pk_un (by omega)]
    exact h.1
  · split
    · exact h.2
    · rw [nI_toInt (by omega)]
      omega
theorem mp_year1 {g : zG} {b yr fb bb : Nat} (h : MP g b yr fb bb) (hy : yr < 60) : MP (va_up g 0 (upd (g 0) 89 (g 0 89 + 1))) b (yr + 1) fb bb := by
  obtain ⟨m1, m2, m3, m4, m5, m6⟩ := h
  refine ⟨⟨by omega, ?_⟩, ⟨fun k j hk hj => ?_, ?_⟩, m3, fun k hk => ?_, ?_, m6⟩
  · rw [up_t, pk_us, m1.2]
    exact nI_1 yr
  · rw [up_t, pk_un (by omega)]
    exact m2.1 k j hk hj
  · rw [up_t, tS_c (S := g 0) 12 (fun k hk => lS_c 61 (fun j hj => pk_un (by omega)))]
    exact m2.2
  · rw [up_t, pk_un (by omega)]
    exact m4 k hk
  · rw [up_t, pk_un (by decide)]
    exact m5
theorem mp_snows {g : zG} {b yr fb bb : Nat} (h : MP g b yr fb bb) (hb : b + 240 ≤ 1000000) : MP (fX6_snows g) (b + 240) yr fb bb := by
  have H : ∀ (n k : Nat) (x : zG), k + n = 12 → MP x (b + 20 * k) yr fb bb → MP (fX6_snows_L2 n k x) (b + 240) yr fb bb := by
    intro n
    induction n with
    | zero => intro k x hk hx; unfold fX6_snows_L2; rw [show b + 240 = b + 20 * k by omega]; exact hx
    | succ n ih =>
      intro k x hk hx
      unfold fX6_snows_L2
      rw [jn_eq]
      exact ih (k + 1) _ (by omega) (mp_snow hx (by omega) hb)
  exact H 12 0 g rfl h
theorem flows_in {k f b yr fb bb : Nat} (hk : k < 11) (hf : f = k ∨ f = k + 1) (hb : b ≤ 1000000) : ∀ (n i : Nat) (v : Int32) (x : zG), i + n = 61 → MP x b yr fb bb → FU (x 0) f i v →
    MP (fX6_flows_L193 k f n i v x) b yr fb bb ∧ (∀ c, c < 12 → c ≠ k → c ≠ k + 1 → lS (fX6_flows_L193 k f n i v x 0) c 61 = lS (x 0) c 61) ∧ (fX6_flows_L193 k f n i v x 9 = x 9) ∧ (v ≤ 0 ∨ lS (x 0) f 61 - v.toInt ≤ lS (fX6_flows_L193 k f n i v x 0) f 61) ∧ (v ≤ 0 → lS (x 0) f 61 ≤ lS (fX6_flows_L193 k f n i v x 0) f 61) ∧ lS (x 0) (2 * k + 1 - f) 61 ≤ lS (fX6_flows_L193 k f n i v x 0) (2 * k + 1 - f) 61 := by
  intro n
  induction n with
  | zero =>
    intro i v x hi hx hfu
    unfold fX6_flows_L193
    exact ⟨hx, fun _ _ _ _ => rfl, rfl, Or.inl (fu_zero hfu (by omega)), fun _ => Int.le_refl _, Int.le_refl _⟩
  | succ n ih =>
    intro i v x hi hx hfu
    unfold fX6_flows_L193
    by_cases hv : v ≤ 0
    · rw [if_pos hv]
      exact ⟨hx, fun _ _ _ _ => rfl, rfl, Or.inl hv, fun _ => Int.le_refl _, Int.le_refl _⟩
    · rw [if_neg hv, jn_eq, jn_eq, jn_eq]
      generalize ha : x 0 (100 + 61 * f + i) = a
      generalize hw : (if v ≤ a then v else a) = w
      generalize hy : va_up x 0 (upd (x 0) (100 + 61 * f + i) (a - w)) = y
      have hstep := fu_step (y := y) (c := y 0 (100 + 61 * (2 * k + 1 - f) + i) + w) hfu (by omega) hv hf hk ha.symm hw.symm (by rw [ha]; exact hy.symm)
      have hla := ml_layer hx.2.1 (k := f) (j := i) (by omega) (by omega)
      have hlo := ml_layer hx.2.1 (k := 2 * k + 1 - f) (j := i) (by omega) (by omega)
      have e0 : (0 : Int32).toInt = 0 := rfl
      have hv' := hv
      rw [fa_le, e0] at hv'
      rw [ha] at hla
      have hww : 0 ≤ w.toInt ∧ w.toInt ≤ a.toInt ∧ w.toInt ≤ v.toInt ∧ (v - w).toInt = v.toInt - w.toInt := by
        have hr := fb_rng v
        have hr2 := fb_rng a
        rw [← hw]
        by_cases q : v ≤ a
        · rw [if_pos q]
          rw [fa_le] at q
          exact ⟨by omega, by omega, by omega, sub_t (by omega) (by omega)⟩
        · rw [if_neg q]
          rw [fa_le] at q
          exact ⟨by omega, by omega, by omega, sub_t (by omega) (by omega)⟩
      have y1 : ∀ j, j ≠ 100 + 61 * f + i → y 0 j = x 0 j := fun j hj => by rw [← hy, up_t, pk_un hj]
      have y2 : (y 0 (100 + 61 * f + i)).toInt = (x 0 (100 + 61 * f + i)).toInt + -w.toInt := by
        rw [← hy, up_t, pk_us, ha, sub_t (by omega) (by omega)]
        omega
      have hy10 : y 10 = x 10 := by rw [← hy]; rfl
      have hy9 : y 9 = x 9 := by rw [← hy]; rfl
      have hmy : ML (y 0) (b) := ml_upd (d := -w.toInt) hx.2.1 (show f < 12 by omega) (show i < 61 by omega) y2 (by rw [ha]; omega) (by omega) (fun j _ _ q => y1 j q)
      have t1 := tS_upd (show f < 12 by omega) (show i < 61 by omega) y2 (fun j _ _ q => y1 j q)
      generalize hz : va_up y 0 (upd (y 0) (100 + 61 * (2 * k + 1 - f) + i) (y 0 (100 + 61 * (2 * k + 1 - f) + i) + w)) = z at hstep ⊢
      have z1 : ∀ j, j ≠ 100 + 61 * (2 * k + 1 - f) + i → z 0 j = y 0 j := fun j hj => by rw [← hz, up_t, pk_un hj]
      have z2 : (z 0 (100 + 61 * (2 * k + 1 - f) + i)).toInt = (y 0 (100 + 61 * (2 * k + 1 - f) + i)).toInt + w.toInt := by
        rw [← hz, up_t, pk_us, add_t]
        · rw [y1 _ (by omega)]; omega
        · rw [y1 _ (by omega)]; omega
      have t2 := tS_upd (show 2 * k + 1 - f < 12 by omega) (show i < 61 by omega) z2 (fun j _ _ q => z1 j q)
      have hz10 : z 10 = x 10 := by rw [← hz]; exact hy10
      have hz9 : z 9 = x 9 := by rw [← hz]; exact hy9
      have hmz : ML (z 0) b := by
        refine ⟨fun c j hc hj => ?_, ?_⟩
        · by_cases e : 100 + 61 * c + j = 100 + 61 * (2 * k + 1 - f) + i
          · rw [e, z2, y1 _ (by omega)]
            omega
          · rw [z1 _ e]
            exact hmy.1 c j hc hj
        · rw [t2.2.2, t1.2.2]
          have := hx.2.1.2
          omega
      have hzx : ∀ j, j < 100 → z 0 j = x 0 j := fun j hj => by rw [z1 _ (by omega), y1 _ (by omega)]
      have hmpz : MP z b yr fb bb := mp_of hx hz10 (fun j hj => hzx j (by omega)) (hzx 89 (by omega)) (hzx 90 (by omega)) hmz
      obtain ⟨r1, r2, r3, r4, r5, r6⟩ := ih (i + 1) (v - w) z (by omega) hmpz hstep
      have l1 : lS (z 0) f 61 = lS (x 0) f 61 - w.toInt := by
        rw [t2.1 f (by omega) (by omega), t1.2.1]
        omega
      have l2 : lS (z 0) (2 * k + 1 - f) 61 = lS (x 0) (2 * k + 1 - f) 61 + w.toInt := by
        rw [t2.2.1, t1.1 _ (by omega) (by omega)]
      refine ⟨r1, fun c hc c1 c2 => ?_, r3.trans hz9, Or.inr ?_, fun q => absurd q hv, ?_⟩
      · rw [r2 c hc c1 c2, t2.1 c hc (by omega), t1.1 c hc (by omega)]
      · rcases r4 with r4 | r4
        · have := r5 r4
          omega
        · omega
      · omega
theorem flowB_keep {x : zG} {k b yr fb bb : Nat} (h : MP x b yr fb bb ∧ ∃ q : Nat → Int, FB x q k) (hk : k < 11) (hb : b ≤ 1000000) : MP (mFlowB k x) b yr fb bb ∧ ∃ q : Nat → Int, FB (mFlowB k x) q (k + 1) := by
  obtain ⟨hm, q, hq⟩ := id h
  obtain ⟨q0, q1, q2, q3⟩ := hq
  unfold mFlowB
  rw [jn_eq, jn_eq, jn_eq, jn_eq, jn_eq]
  generalize hf : (if 0 ≤ x 9 k then k else k + 1) = f
  generalize hv : (if 0 ≤ x 9 k then x 9 k else -x 9 k) = v
  generalize h16 : va_up x 0 (upd (x 0) (72 + f) (x 0 (72 + f) + v)) = g16
  generalize h17 : va_up g16 0 (upd (g16 0) (60 + (2 * k + 1 - f)) (g16 0 (60 + (2 * k + 1 - f)) + v)) = g17
  have hfu := flow_fu h hk hf.symm hv.symm h16.symm h17.symm
  have hf2 : f = k ∨ f = k + 1 := by
    rw [← hf]
    split
    · exact Or.inl rfl
    · exact Or.inr rfl
  have s1 : ∀ i, i ≠ 72 + f → i ≠ 60 + (2 * k + 1 - f) → g17 0 i = x 0 i := fun i a c => by
    rw [← h17, up_t, pk_un c, ← h16, up_t, pk_un a]
  have hm17 : MP g17 b yr fb bb := mp_fr hm (by rw [← h17, ← h16]; rfl) (fun i hi => s1 i (by omega) (by omega)) (s1 89 (by omega) (by omega)) (s1 90 (by omega) (by omega)) (fun i a c => s1 i (by omega) (by omega))
  have h9 : g17 9 = x 9 := by rw [← h17, ← h16]; rfl
  have l17 : ∀ c, c < 12 → lS (g17 0) c 61 = lS (x 0) c 61 := fun c hc => lS_c 61 (fun j hj => s1 _ (by omega) (by omega))
  obtain ⟨r1, r2, r3, r4, r5, r6⟩ := flows_in hk hf2 hb 61 0 v g17 rfl hm17 hfu
  refine ⟨r1, q, q0, fun c hc => ?_, ?_, fun c c1 c2 => ?_⟩
  · rw [r3, h9]
    exact q1 c hc
  · have hk1 := q1 k hk
    have hk4 := q3 (k + 1) (by omega) (by omega)
    have hqq := q0 (k + 1) (by omega)
    have e0 : (0 : Int32).toInt = 0 := rfl
    by_cases c : 0 ≤ x 9 k
    · rw [if_pos c] at hf
      subst hf
      rw [show 2 * k + 1 - k = k + 1 by omega, l17 (k + 1) (by omega)] at r6
      omega
    · rw [if_neg c] at hf hv
      subst hf
      rw [l17 (k + 1) (by omega)] at r4 r5
      rcases r4 with r4 | r4
      · have := r5 r4
        omega
      · rw [fa_le, e0] at c
        have hcl := ml_cell hm.2.1 (k := k + 1) (by omega)
        have e1 : v.toInt = -(x 9 k).toInt := by
          rw [← hv, Int32.toInt_neg]
          exact Int.bmod_eq_of_le (by omega) (by omega)
        omega
  · rw [r2 c c2 (by omega) (by omega), l17 c c2]
    exact q3 c (by omega) c2
theorem mp_flows {g : zG} {b yr fb bb : Nat} (h : MP g b yr fb bb) (hb : b ≤ 1000000) (hbb : bb ≤ 1000) : MP (fX6_flows g) b yr fb bb := by
  have HB : ∀ (n k : Nat) (x : zG), k + n = 11 → (MP x b yr fb bb ∧ ∃ q : Nat → Int, FB x q k) → MP (fX6_flows_L104 n k x) b yr fb bb := by
    intro n
    induction n with
    | zero => intro k x _ hx; unfold fX6_flows_L104; exact hx.1
    | succ n ih =>
      intro k x hk hx
      unfold fX6_flows_L104
      rw [jn_eq]
      exact ih (k + 1) _ (by omega) (flowB_keep hx (by omega) hb)
  have HA : ∀ (n k : Nat) (x : zG), k + n = 11 → (MP x b yr fb bb ∧ FA x k) → MP (fX6_flows_L36 n k x) b yr fb bb := by
    intro n
    induction n with
    | zero =>
      intro k x hk hx
      unfold fX6_flows_L36
      exact HB 11 0 x rfl ⟨hx.1, flowB_init hx.1 hb (fa_all hx.2 (by omega))⟩
    | succ n ih =>
      intro k x hk hx
      unfold fX6_flows_L36
      rw [jn_eq]
      exact ih (k + 1) _ (by omega) (flowA_keep hx.1 hx.2 (by omega) hb hbb)
  have H0 : ∀ (n k : Nat) (x : zG), k + n = 12 → MP x b yr fb bb → MP (fX6_flows_L2 n k x) b yr fb bb := by
    intro n
    induction n with
    | zero =>
      intro k x hk hx
      unfold fX6_flows_L2
      exact HA 11 0 x rfl ⟨hx, fun k hk => by omega⟩
    | succ n ih =>
      intro k x hk hx
      unfold fX6_flows_L2
      exact ih (k + 1) _ (by omega) (mp_flow0 hx k (by omega))
  exact H0 12 0 g rfl h
theorem mp_runs {g : zG} {b yr fb bb : Nat} (h : MP g b yr fb bb) : MP (fX6_runs g) b yr fb bb := by
  have H : ∀ (n k : Nat) (x : zG), k + n = 12 → MP x b yr fb bb → MP (fX6_runs_L2 n k x) b yr fb bb := by
    intro n
    induction n with
    | zero => intro k x hk hx; unfold fX6_runs_L2; exact hx
    | succ n ih =>
      intro k x hk hx
      unfold fX6_runs_L2
      rw [jn_eq]
      refine ih (k + 1) _ (by omega) ?_
      unfold mRun
      rw [jn_eq, jn_eq, jn_eq]
      generalize h7 : (if fX6_isInSea x k = 0 then (if k = 11 then (1 : Int32) else 0) else 1) = v7
      generalize hw : (if v7 = 0 then (if k = 0 then k + 1 else if fX6_potentialOf x (k - 1) < fX6_potentialOf x (k + 1) then k - 1 else k + 1) else k) = w
      have hlt := run_lt (by omega) h7.symm hw.symm
      by_cases c : v7 = 0
      · rw [if_pos c]
        split
        · exact hx
        · exact mp_fr hx rfl (fun i hi => by rw [up_t, pk_un (by omega), pk_un (by omega)]) (by rw [up_t, pk_un (by omega), pk_un (by omega)]) (by rw [up_t, pk_un (by omega), pk_un (by omega)]) (fun i a b => by rw [up_t, pk_un (by omega), pk_un (by omega)])
      · rw [if_neg c]
        exact mp_fr hx rfl (fun i hi => by rw [up_t, pk_un (by omega), pk_un (by omega)]) (by rw [up_t, pk_un (by omega), pk_un (by omega)]) (by rw [up_t, pk_un (by omega), pk_un (by omega)]) (fun i a b => by rw [up_t, pk_un (by omega), pk_un (by omega)])
  exact H 12 0 g rfl h
theorem mp_breaks {g : zG} {b yr fb bb : Nat} (h : MP g b yr fb bb) (hfb : fb + 12 ≤ 720) : MP (fX6_breaks g) b yr (fb + 12) bb := by
  have H : ∀ (n k : Nat) (x : zG), k + n = 12 → MP x b yr (fb + k) bb → MP (fX6_breaks_L2 n k x) b yr (fb + 12) bb := by
    intro n
    induction n with
    | zero => intro k x hk hx; unfold fX6_breaks_L2; rw [show 12 = k by omega]; exact hx
    | succ n ih =>
      intro k x hk hx
      unfold fX6_breaks_L2
      rw [jn_eq]
      exact ih (k + 1) _ (by omega) (mp_break hx (by omega) hfb)
  exact H 12 0 g rfl h
theorem mp_calves {g : zG} {b yr fb bb : Nat} (h : MP g b yr fb bb) (hb : b ≤ 1000000) : MP (fX6_calves g) b yr fb bb := by
  have H1 : ∀ (c n k : Nat) (x : zG), c < 12 → k + n = 61 → MP x b yr fb bb → MP (fX6_calves_L78 c n k x) b yr fb bb := by
    intro c n
    induction n with
    | zero => intro k x hc hk hx; unfold fX6_calves_L78; exact hx
    | succ n ih =>
      intro k x hc hk hx
      unfold fX6_calves_L78
      refine ih (k + 1) _ hc (by omega) ?_
      have hl := ml_layer hx.2.1 hc (j := k) (by omega)
      have e0 : (0 : Int32).toInt = 0 := rfl
      refine mp_of hx rfl (fun i hi => by rw [up_t, pk_un (by omega)]) (by rw [up_t, pk_un (by omega)]) (by rw [up_t, pk_un (by omega)]) ?_
      rw [up_t]
      exact ml_upd (d := -(x 0 (100 + 61 * c + k)).toInt) hx.2.1 hc (show k < 61 by omega) (by rw [pk_us, e0]; omega) (by omega) (by omega) (fun i _ _ q => pk_un q)
  have H : ∀ (n : Nat) (v : Int32) (x : zG), n ≤ 12 → MP x b yr fb bb → MP (fX6_calves_L5 n v x) b yr fb bb := by
    intro n
    induction n with
    | zero => intro v x hk hx; unfold fX6_calves_L5; exact hx
    | succ n ih =>
      intro v x hk hx
      unfold fX6_calves_L5
      split
      · exact hx
      · rw [jn_eq, jn_eq, jn_eq]
        refine ih _ _ (by omega) (mp_ite hx ?_)
        · rw [jn_eq]
          exact H1 n 61 0 _ (by omega) rfl (mp_fr hx rfl (fun i hi => by rw [up_t, pk_un (by omega)]) (by rw [up_t, pk_un (by omega)]) (by rw [up_t, pk_un (by omega)]) (fun i a b => by rw [up_t, pk_un (by omega)]))
  exact H 12 1 g (Nat.le_refl _) h
theorem mp_ends {g : zG} {b yr fb bb : Nat} (h : MP g b yr fb bb) (hbb : bb < 1000) : MP (fX6_ends g) b yr fb (bb + 1) := by
  have H : ∀ (n k : Nat) (v : Int32) (x : zG), k + n = 12 → x 10 = g 10 → (∀ i, 12 ≤ i → x 0 i = g 0 i) → (∀ c, c < 12 → (k ≤ c → x 0 c = g 0 c) ∧ (g 0 c).toInt - 1 ≤ (x 0 c).toInt ∧ (x 0 c).toInt ≤ (g 0 c).toInt + 1) → (v.toInt < 12 ∧ -1 ≤ v.toInt) → MP (fX6_ends_L4 n k v x) b yr fb (bb + 1) := by
    intro n
    induction n with
    | zero =>
      intro k v x hk h10 h12 hc hv
      unfold fX6_ends_L4
      rw [jn_eq]
      have e89 : x 0 89 = nI yr := (h12 89 (by omega)).trans h.1.2
      have hy := h.1.1
      rw [e89, nI_clamp (by omega)]
      have hM : MP x b yr fb (bb + 1) := by
        obtain ⟨m1, m2, m3, m4, m5, m6⟩ := h
        unfold MP
        rw [h10, h12 89 (by omega), h12 90 (by omega)]
        refine ⟨m1, ml_fr m2 (fun i a _ => h12 i (by omega)), m3, fun c h9 => ?_, m5, m6⟩
        have := m4 c h9
        have := hc c h9
        omega
      have hM1 : MP (va_up x 0 (upd (x 0) (900 + yr) v)) b yr fb (bb + 1) := mp_fr hM rfl (fun i hi => by rw [up_t, pk_un (by omega)]) (by rw [up_t, pk_un (by omega)]) (by rw [up_t, pk_un (by omega)]) (fun i a b => by rw [up_t, pk_un (by omega)])
      split
      · exact hM1
      · rename_i hne
        have hf := front_lt hv hne
        have hf2 : v.toNatClampNeg < 12 := by
          have e1 : (-1 : Int32).toInt = -1 := by decide
          have : v.toInt ≠ -1 := fun q => hne ((fa_eq v (-1)).mpr (by rw [e1]; exact q))
          exact zn_lt (vp_in_iff.mpr ⟨by omega, hv.1⟩)
        exact mp_fr hM1 rfl (fun i hi => by rw [up_t, pk_un (by omega)]) (by rw [up_t, pk_un (by omega)]) (by rw [up_t, pk_un (by omega)]) (fun i a b => by rw [up_t, pk_un (by omega)])
    | succ n ih =>
      intro k v x hk h10 h12 hc hv
      unfold fX6_ends_L4
      rw [jn_eq]
      have hek := end_keep (k := k) (yr := yr) (x := v) (g := x) ⟨(h12 89 (by omega)).trans h.1.2, hv⟩ (by omega)
      have hb4 := h.2.2.2.1 k (by omega)
      have hck := hc k (by omega)
      have hd : ∃ d : Int32, (d.toInt = 0 ∨ d.toInt = -1 ∨ d.toInt = 1) ∧ (mEnd k v x).2 = va_up x 0 (upd (x 0) k (x 0 k + d)) := by
        unfold mEnd
        rw [jn_eq, jn_eq, jn_eq, jn_eq]
        dsimp only
        rw [Nat.zero_add]
        refine ⟨_, ?_, rfl⟩
        split
        · split
          · exact Or.inl rfl
          · exact Or.inr (Or.inl (by decide))
        · exact Or.inr (Or.inr (by decide))
      obtain ⟨d, hd1, hd2⟩ := hd
      have hx : (x 0 k + d).toInt = (x 0 k).toInt + d.toInt := add_t (by omega) (by omega)
      rw [hd2] at hek ⊢
      refine ih (k + 1) _ _ (by omega) h10 (fun i hi => ?_) (fun c h9 => ?_) hek.2
      · rw [up_t, pk_un (by omega)]
        exact h12 i hi
      · by_cases e : c = k
        · subst e
          refine ⟨fun q => by omega, ?_⟩
          rw [up_t, pk_us, hx, hck.1 (Nat.le_refl _)]
          omega
        · have := hc c h9
          rw [up_t, pk_un e]
          exact ⟨fun q => this.1 (by omega), this.2⟩
  exact H 12 0 (-1) g rfl rfl (fun _ _ => rfl) (fun c h9 => ⟨fun _ => rfl, by omega, by omega⟩) (by decide)
