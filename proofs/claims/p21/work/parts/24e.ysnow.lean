def gS (g : zG) (k yr : Nat) (v8 v17 : Int32) : zG := va_up g 0 (upd (upd (upd (upd (upd (g 0) (48 + k) v8) 86 (g 0 86 + v8)) (100 + 61 * k + yr) (g 0 (100 + 61 * k + yr) + v8)) (24 + k) (g 0 (24 + k) + v17)) 88 (g 0 88 + v17))
theorem up_up {f : Nat → Nat → Int32} {x y : Nat → Int32} : va_up (va_up f 0 x) 0 y = va_up f 0 y := by
  funext j
  by_cases e : j = 0
  · subst e
    rw [up_t, up_t]
  · rw [up_n e, up_n e, up_n e]
theorem snow_form {g : zG} {k b yr fb bb : Nat} (hk : k < 12) (hm : MP g b yr fb bb) : ∃ v7 v8 v17 : Int32, v7 = g 10 2 - (fX6_surfaceOf g k >>> (1 &&& 31)) ∧ mSnow k g = fX6_snows_L182 k 61 v17 (gS g k yr v8 v17) ∧
    (v8 = if 0 ≤ v7 then (0 : Int32) else if 0 < fX6_iceOf g k then g 10 3 else if fX6_isInSea g k = 0 then g 10 3 else 0) ∧
    (v17 = if fX6_iceOf g k ≤ (if v7 ≤ 0 then (0 : Int32) else v7 * g 10 4 / 10) then (if v7 ≤ 0 then (0 : Int32) else fX6_iceOf g k) else (if v7 ≤ 0 then (0 : Int32) else v7 * g 10 4 / 10)) := by
  refine ⟨_, _, _, rfl, ?_, rfl, rfl⟩
  have hy := mp_yr hm
  have e89 : (g 0 89).toNatClampNeg = yr := by rw [mp_year hm]; exact nI_clamp (by omega)
  unfold mSnow
  simp only [jn_eq]
  generalize g 10 2 - (fX6_surfaceOf g k >>> (1 &&& 31)) = v7
  generalize (if 0 ≤ v7 then (0 : Int32) else if 0 < fX6_iceOf g k then g 10 3 else if fX6_isInSea g k = 0 then g 10 3 else 0) = v8
  have e10 : ∀ x : Nat → Int32, va_up g 0 x 10 4 = g 10 4 := fun x => rfl
  simp only [up_up, up_t, e10]
  have q1 : upd (g 0) (48 + k) v8 86 = g 0 86 := pk_un (by omega)
  have q2 : upd (g 0) (48 + k) v8 (48 + k) = v8 := pk_us
  simp only [q1, q2]
  have q3 : upd (upd (g 0) (48 + k) v8) 86 (g 0 86 + v8) 89 = g 0 89 := by rw [pk_un (by omega), pk_un (by omega)]
  have q4 : upd (upd (g 0) (48 + k) v8) 86 (g 0 86 + v8) (48 + k) = v8 := by rw [pk_un (by omega), pk_us]
  simp only [q3, q4, e89]
  have q5 : upd (upd (g 0) (48 + k) v8) 86 (g 0 86 + v8) (100 + 61 * k + yr) = g 0 (100 + 61 * k + yr) := by rw [pk_un (by omega), pk_un (by omega)]
  simp only [q5]
  have q6 : upd (upd (upd (g 0) (48 + k) v8) 86 (g 0 86 + v8)) (100 + 61 * k + yr) (g 0 (100 + 61 * k + yr) + v8) (24 + k) = g 0 (24 + k) := by rw [pk_un (by omega), pk_un (by omega), pk_un (by omega)]
  simp only [q6]
  generalize (if fX6_iceOf g k ≤ (if v7 ≤ 0 then (0 : Int32) else v7 * g 10 4 / 10) then (if v7 ≤ 0 then (0 : Int32) else fX6_iceOf g k) else (if v7 ≤ 0 then (0 : Int32) else v7 * g 10 4 / 10)) = v17
  have q7 : upd (upd (upd (upd (g 0) (48 + k) v8) 86 (g 0 86 + v8)) (100 + 61 * k + yr) (g 0 (100 + 61 * k + yr) + v8)) (24 + k) (g 0 (24 + k) + v17) 88 = g 0 88 := by rw [pk_un (by omega), pk_un (by omega), pk_un (by omega), pk_un (by omega)]
  simp only [q7]
  rfl
theorem snow_fin {o : Nat → Int32} {gP gQ g X : zG} {k yr : Nat} {v8 v17 : Int32} (hk : k < 12) (hy : yr < 61) (h : YR o gP g) (x0 : ∀ i, (i < 100 ∨ 832 ≤ i) → X 0 i = gS g k yr v8 v17 0 i) (xj : X 10 = g 10)
    (q0 : gQ 0 = gP 0) (q1 : gQ 1 = gP 1) (q3 : gQ 3 = gP 3) (q10 : gQ 10 = gP 10) (q2 : ∀ c, c ≠ k → gQ 2 c = gP 2 c) (q2k : gQ 2 k = gP 2 k + v17) (hl : LR (gQ 8) (gQ 9) X)
    (p0 : gQ 11 0 = gP 11 0 + v8) (p2 : gQ 11 2 = gP 11 2 + v17) (p1 : gQ 11 1 = gP 11 1) (p3 : gQ 11 3 = gP 11 3) (p4 : gQ 11 4 = gP 11 4) : YR o gQ X := by
  obtain ⟨h1, h2, h3, ⟨s0, s2, s3, s4⟩, s1⟩ := h
  have t : ∀ i, (i < 100 ∨ 832 ≤ i) → i ≠ 48 + k → i ≠ 86 → i ≠ 24 + k → i ≠ 88 → X 0 i = g 0 i := fun i a b c d e => by
    rw [x0 i a]
    unfold gS
    rw [up_t, pk_un e, pk_un d, pk_un (by omega), pk_un c, pk_un b]
  have t86 : X 0 86 = g 0 86 + v8 := by
    rw [x0 86 (by omega)]
    unfold gS
    rw [up_t, pk_un (by omega), pk_un (by omega), pk_un (by omega), pk_us]
  have t88 : X 0 88 = g 0 88 + v17 := by
    rw [x0 88 (by omega)]
    unfold gS
    rw [up_t, pk_us]
  have t24 : X 0 (24 + k) = g 0 (24 + k) + v17 := by
    rw [x0 _ (by omega)]
    unfold gS
    rw [up_t, pk_un (by omega), pk_us]
  refine ⟨fun c hc => ?_, hl, ?_, ⟨?_, ?_, ?_, ?_⟩, ?_⟩
  · rw [q0, q1, q3, t c (by omega) (by omega) (by omega) (by omega) (by omega), t (12 + c) (by omega) (by omega) (by omega) (by omega) (by omega), t (36 + c) (by omega) (by omega) (by omega) (by omega) (by omega)]
    refine ⟨(h1 c hc).1, (h1 c hc).2.1, ?_, (h1 c hc).2.2.2⟩
    by_cases e : c = k
    · subst e
      rw [q2k, t24, (h1 c hc).2.2.1]
    · rw [q2 c e, t (24 + c) (by omega) (by omega) (by omega) (by omega) (by omega)]
      exact (h1 c hc).2.2.1
  · rw [q10, xj, t 89 (by omega) (by omega) (by omega) (by omega) (by omega)]
    exact h3
  · rw [p0, t86, s0, Int32.add_assoc, Int32.add_comm (o 0), ← Int32.add_assoc]
  · rw [p2, t88, s2, Int32.add_assoc, Int32.add_comm (o 2), ← Int32.add_assoc]
  · rw [p3, t 84 (by omega) (by omega) (by omega) (by omega) (by omega)]
    exact s3
  · rw [p4, t 85 (by omega) (by omega) (by omega) (by omega) (by omega)]
    exact s4
  · rw [p1, t 87 (by omega) (by omega) (by omega) (by omega) (by omega)]
    exact s1
theorem gS_lr {fI fU : Nat → Int32} {g : zG} {k yr : Nat} {v17 : Int32} (hk : k < 12) (hy : yr < 61) (h : LR fI fU g) : LR fI fU (gS g k yr 0 v17) := by
  refine lr_c h (fun i a b => ?_)
  unfold gS
  rw [up_t, pk_un (by omega), pk_un (by omega)]
  by_cases e : i = 100 + 61 * k + yr
  · subst e
    rw [pk_us, Int32.add_zero]
  · rw [pk_un e, pk_un (by omega), pk_un (by omega)]
theorem gS_lr8 {fI fU : Nat → Int32} {g : zG} {k yr : Nat} {v8 v17 : Int32} (hk : k < 12) (hy : yr < 61) (h : LR fI fU g) : LR (fX1_lay fI fU k yr v8).1 (fX1_lay fI fU k yr v8).2 (gS g k yr v8 v17) := by
  refine lr_c (lr_lay h hk hy) (fun i a b => ?_)
  unfold gS
  rw [up_t, up_t, pk_un (by omega), pk_un (by omega)]
  by_cases e : i = 100 + 61 * k + yr
  · subst e
    rw [pk_us, pk_us]
  · rw [pk_un e, pk_un e, pk_un (by omega), pk_un (by omega)]
theorem year_snow {o : Nat → Int32} {gP g : zG} {k b yr fb bb : Nat} (hk : k < 12) (h : YR o gP g) (hm : MP g b yr fb bb) (hb : b ≤ 1000000) (hbb : bb ≤ 1000) : YR o (fX3_snowOrMelt gP k) (mSnow k g) ∧ (∀ c, c ≠ k → fX3_snowOrMelt gP k 4 c = gP 4 c) ∧ (∀ j, j ≠ 2 → j ≠ 4 → j ≠ 8 → j ≠ 9 → j ≠ 11 → fX3_snowOrMelt gP k j = gP j) ∧ fX3_snowOrMelt gP k 4 k = mSnow k g 0 (48 + k) ∧ ∀ c, c < 12 → c ≠ k → mSnow k g 0 (48 + c) = g 0 (48 + c) := by
  have hy := mp_yr hm
  obtain ⟨v7, v8, v17, h7, hF, h8, h17⟩ := snow_form hk hm
  have hs := surf_eq h hk
  have hsea := sea_eq h hk
  have hst := surf_t hm hk hb hbb
  have h12 := h.2.2.1.2.2.1
  have h13 := h.2.2.1.2.2.2.1
  have h14 := h.2.2.1.2.2.2.2
  have hi := h.2.1.1 k hk
  have e89 : (gP 10 0).toNatClampNeg = yr := by rw [h.2.2.1.1, mp_year hm]; exact nI_clamp (by omega)
  have hw := hm.2.2.2.2.2.1
  have hfc := hm.2.2.2.2.2.2
  have e0 : (0 : Int32).toInt = 0 := rfl
  have hsea4 : ∀ x : Nat → Int32, fX3_standsInSea (va_up gP 4 x) k = fX3_standsInSea gP k := fun x => rfl
  have s48 : ∀ i, (i < 24 ∨ 36 ≤ i) → i < 84 → i ≠ 48 + k → gS g k yr v8 v17 0 i = g 0 i := fun i a a2 q => by
    unfold gS
    rw [up_t, pk_un (by omega), pk_un (by omega), pk_un (by omega), pk_un (by omega), pk_un q]
  have s48k : gS g k yr v8 v17 0 (48 + k) = v8 := by
    unfold gS
    rw [up_t, pk_un (by omega), pk_un (by omega), pk_un (by omega), pk_un (by omega), pk_us]
  unfold fX3_snowOrMelt
  simp only [jn_eq, h12, hs, half_eq, hsea4, hsea, h13, h14, e89, hi, ← h7]
  have hv7 : v7.toInt ≤ 1000 := by
    have e1 : (fX6_surfaceOf g k >>> (1 &&& 31)).toInt = (fX6_surfaceOf g k).toInt / 2 := by
      rw [pk_shr _ _ 1 (by decide), Int.shiftRight_eq_div_pow]
      rfl
    rw [h7, sub_t (by omega) (by omega), e1]
    omega
  -- the model after the layers are taken
  have nop : v8 = 0 → v17 = 0 → mSnow k g = gS g k yr 0 0 := fun a c => by
    rw [hF, a, c]
    unfold fX6_snows_L182
    rw [if_pos (by decide)]
  have lay8 : v17 = 0 → mSnow k g = gS g k yr v8 0 := fun c => by
    rw [hF, c]
    unfold fX6_snows_L182
    rw [if_pos (by decide)]
  have N4 : ∀ (x : zG), x 4 = upd (gP 4) k 0 → ∀ c, c ≠ k → x 4 c = gP 4 c := fun x e c hc => by rw [e, pk_un hc]
  -- nothing happens
  have CN : v8 = 0 → v17 = 0 → (YR o (va_up gP 4 (upd (gP 4) k 0)) (mSnow k g) ∧ (∀ c, c ≠ k → va_up gP 4 (upd (gP 4) k 0) 4 c = gP 4 c) ∧ (∀ j, j ≠ 2 → j ≠ 4 → j ≠ 8 → j ≠ 9 → j ≠ 11 → va_up gP 4 (upd (gP 4) k 0) j = gP j) ∧ va_up gP 4 (upd (gP 4) k 0) 4 k = mSnow k g 0 (48 + k) ∧ ∀ c, c < 12 → c ≠ k → mSnow k g 0 (48 + c) = g 0 (48 + c)) := fun a c => by
    rw [nop a c]
    subst a c
    refine ⟨snow_fin hk (by omega) h (v8 := 0) (v17 := 0) (fun _ _ => rfl) rfl rfl rfl rfl rfl (fun _ _ => rfl) (Int32.add_zero _).symm (gS_lr hk (by omega) h.2.1) (Int32.add_zero _).symm (Int32.add_zero _).symm rfl rfl rfl, fun c hc => by rw [up_t, pk_un hc], fun j _ a _ _ _ => up_n a, by rw [up_t, pk_us, s48k], fun c hc hck => s48 _ (by omega) (by omega) (by omega)⟩
  -- ice melts
  have CM : ∀ w : Int32, v8 = 0 → v17 = w → (YR o (va_up (va_up (va_up (va_up (va_up gP 4 (upd (gP 4) k 0)) 8 (fX1_takeLatest (gP 8) (gP 9) k w).1) 9 (fX1_takeLatest (gP 8) (gP 9) k w).2) 2 (upd (gP 2) k (gP 2 k + w))) 11 (upd (gP 11) 2 (gP 11 2 + w))) (mSnow k g) ∧ (∀ c, c ≠ k → (va_up (va_up (va_up (va_up (va_up gP 4 (upd (gP 4) k 0)) 8 (fX1_takeLatest (gP 8) (gP 9) k w).1) 9 (fX1_takeLatest (gP 8) (gP 9) k w).2) 2 (upd (gP 2) k (gP 2 k + w))) 11 (upd (gP 11) 2 (gP 11 2 + w))) 4 c = gP 4 c) ∧ (∀ j, j ≠ 2 → j ≠ 4 → j ≠ 8 → j ≠ 9 → j ≠ 11 → (va_up (va_up (va_up (va_up (va_up gP 4 (upd (gP 4) k 0)) 8 (fX1_takeLatest (gP 8) (gP 9) k w).1) 9 (fX1_takeLatest (gP 8) (gP 9) k w).2) 2 (upd (gP 2) k (gP 2 k + w))) 11 (upd (gP 11) 2 (gP 11 2 + w))) j = gP j) ∧ (va_up (va_up (va_up (va_up (va_up gP 4 (upd (gP 4) k 0)) 8 (fX1_takeLatest (gP 8) (gP 9) k w).1) 9 (fX1_takeLatest (gP 8) (gP 9) k w).2) 2 (upd (gP 2) k (gP 2 k + w))) 11 (upd (gP 11) 2 (gP 11 2 + w))) 4 k = mSnow k g 0 (48 + k) ∧ ∀ c, c < 12 → c ≠ k → mSnow k g 0 (48 + c) = g 0 (48 + c)) := fun w a c => by
    rw [hF]
    subst a c
    obtain ⟨r1, r2, r3⟩ := take_eq hk 61 v17 (gP 8) (gP 9) (gS g k yr 0 v17) (Nat.le_refl _) (gS_lr hk (by omega) h.2.1)
    refine ⟨snow_fin hk (by omega) h (v8 := 0) (v17 := v17) (fun i hi => r3 i hi) ((r2 10 (by decide)).trans rfl) rfl rfl rfl rfl (fun c hc => ?_) ?_ r1 ?_ ?_ ?_ ?_ ?_, fun c hc => ?_, fun j a b c d e => ?_, ?_, fun c hc hck => ?_⟩
    · rw [up_n (by decide), up_t, pk_un hc]
    · rw [up_n (by decide), up_t, pk_us]
    · rw [up_t, pk_un (by decide)]
      exact (Int32.add_zero _).symm
    · rw [up_t, pk_us]
    · rw [up_t, pk_un (by decide)]
    · rw [up_t, pk_un (by decide)]
    · rw [up_t, pk_un (by decide)]
    · rw [up_n (by decide), up_n (by decide), up_n (by decide), up_n (by decide), up_t, pk_un hc]
    · rw [up_n e, up_n a, up_n d, up_n c, up_n b]
    · rw [r3 _ (by omega), s48k, up_n (by decide), up_n (by decide), up_n (by decide), up_n (by decide), up_t, pk_us]
    · rw [r3 _ (by omega)]
      exact s48 _ (by omega) (by omega) (by omega)
  -- snow falls
  have CS : v8 = g 10 3 → v17 = 0 → (YR o (va_up (va_up (va_up (va_up (va_up gP 4 (upd (gP 4) k 0)) 4 (upd (upd (gP 4) k 0) k (g 10 3))) 8 (fX1_lay (gP 8) (gP 9) k yr (g 10 3)).1) 9 (fX1_lay (gP 8) (gP 9) k yr (g 10 3)).2) 11 (upd (gP 11) 0 (gP 11 0 + g 10 3))) (mSnow k g) ∧ (∀ c, c ≠ k → (va_up (va_up (va_up (va_up (va_up gP 4 (upd (gP 4) k 0)) 4 (upd (upd (gP 4) k 0) k (g 10 3))) 8 (fX1_lay (gP 8) (gP 9) k yr (g 10 3)).1) 9 (fX1_lay (gP 8) (gP 9) k yr (g 10 3)).2) 11 (upd (gP 11) 0 (gP 11 0 + g 10 3))) 4 c = gP 4 c) ∧ (∀ j, j ≠ 2 → j ≠ 4 → j ≠ 8 → j ≠ 9 → j ≠ 11 → (va_up (va_up (va_up (va_up (va_up gP 4 (upd (gP 4) k 0)) 4 (upd (upd (gP 4) k 0) k (g 10 3))) 8 (fX1_lay (gP 8) (gP 9) k yr (g 10 3)).1) 9 (fX1_lay (gP 8) (gP 9) k yr (g 10 3)).2) 11 (upd (gP 11) 0 (gP 11 0 + g 10 3))) j = gP j) ∧ (va_up (va_up (va_up (va_up (va_up gP 4 (upd (gP 4) k 0)) 4 (upd (upd (gP 4) k 0) k (g 10 3))) 8 (fX1_lay (gP 8) (gP 9) k yr (g 10 3)).1) 9 (fX1_lay (gP 8) (gP 9) k yr (g 10 3)).2) 11 (upd (gP 11) 0 (gP 11 0 + g 10 3))) 4 k = mSnow k g 0 (48 + k) ∧ ∀ c, c < 12 → c ≠ k → mSnow k g 0 (48 + c) = g 0 (48 + c)) := fun a c => by
    rw [lay8 c]
    subst a c
    refine ⟨snow_fin hk (by omega) h (v8 := g 10 3) (v17 := 0) (fun _ _ => rfl) rfl rfl rfl rfl rfl (fun c hc => rfl) (Int32.add_zero _).symm (gS_lr8 hk (by omega) h.2.1) ?_ ?_ ?_ ?_ ?_, fun c hc => ?_, fun j a b c d e => ?_, ?_, fun c hc hck => ?_⟩
    · rw [up_t, pk_us]
    · rw [up_t, pk_un (by decide)]
      exact (Int32.add_zero _).symm
    · rw [up_t, pk_un (by decide)]
    · rw [up_t, pk_un (by decide)]
    · rw [up_t, pk_un (by decide)]
    · rw [up_n (by decide), up_n (by decide), up_n (by decide), up_t, pk_un hc, pk_un hc]
    · rw [up_n e, up_n d, up_n c, up_n b, up_n b]
    · rw [s48k, up_n (by decide), up_n (by decide), up_n (by decide), up_t, pk_us]
    · exact s48 _ (by omega) (by omega) (by omega)
  by_cases c1 : 0 ≤ v7
  · rw [if_pos c1] at h8
    simp only [if_pos c1]
    by_cases c2 : v7 ≤ 0
    · simp only [if_pos c2] at h17 ⊢
      exact CN h8 (by rw [h17]; split <;> rfl)
    · simp only [if_neg c2] at h17 ⊢
      rw [fa_le, e0] at c1 c2
      have hp : 0 ≤ (v7 * g 10 4).toInt := by
        have p1 : 0 ≤ v7.toInt * (g 10 4).toInt := Int.mul_nonneg c1 hfc.1
        have p2 : v7.toInt * (g 10 4).toInt ≤ 1000 * 9 := Int.mul_le_mul hv7 hfc.2 hfc.1 (by omega)
        rw [Int32.toInt_mul, Int.bmod_eq_of_le (by omega) (by omega)]
        exact p1
      rw [div_eq _ 10 hp (by decide), min_eq]
      rw [← min_eq] at h17 ⊢
      refine CM _ h8 ?_
      rw [h17]
      by_cases q : fX6_iceOf g k < v7 * g 10 4 / 10
      · rw [if_pos q]
        by_cases q2 : v7 * g 10 4 / 10 < fX6_iceOf g k
        · exact absurd (fa_of_lt q).2.2.1 (fun z => z q2)
        · rw [if_neg q2]
      · rw [if_neg q]
        by_cases q2 : v7 * g 10 4 / 10 < fX6_iceOf g k
        · rw [if_pos q2]
        · rw [if_neg q2]
          rw [fa_lt] at q q2
          exact (fa_eq _ _).mpr (by omega)
  · have c2 : v7 ≤ 0 := (fa_of_lt (fa_of_nle c1)).1
    rw [if_neg c1] at h8
    simp only [if_neg c1]
    have z17 : v17 = 0 := by
      rw [h17]
      simp only [if_pos c2]
      split <;> rfl
    by_cases c3 : 0 < fX6_iceOf g k
    · rw [if_pos c3] at h8
      simp only [if_pos c3]
      exact CS h8 z17
    · rw [if_neg c3] at h8
      simp only [if_neg c3]
      by_cases c4 : fX6_isInSea g k = 0
      · rw [if_pos c4] at h8
        simp only [if_pos c4]
        exact CS h8 z17
      · rw [if_neg c4] at h8
        simp only [if_neg c4, if_pos c2]
        exact CN h8 z17
