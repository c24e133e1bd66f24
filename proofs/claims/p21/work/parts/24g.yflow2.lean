theorem surfO_c {x y : zG} (e : y 0 = x 0) (k : Nat) : fX6_surfaceOf y k = fX6_surfaceOf x k := by
  unfold fX6_surfaceOf
  rw [e, iceOf_c (fun j _ => by rw [e])]
theorem flowO_c {x y : zG} (e : y 0 = x 0) (k j : Nat) : fX6_flowOf y k j = fX6_flowOf x k j := by
  unfold fX6_flowOf
  rw [e, iceOf_c (g := x) (g1 := y) (fun j _ => by rw [e]), surfO_c e, surfO_c e]
def v32 (g : zG) (k : Nat) : Int32 := if fX6_surfaceOf g k ≤ fX6_surfaceOf g (k + 1) then (if fX6_surfaceOf g (k + 1) ≤ fX6_surfaceOf g k then 0 else (-(fX6_flowOf g (k + 1) k))) else (fX6_flowOf g k (k + 1))
theorem v32_c {x y : zG} (e : y 0 = x 0) (k : Nat) : v32 y k = v32 x k := by
  unfold v32
  rw [surfO_c e, surfO_c e, flowO_c e, flowO_c e]
theorem next_c {x y : zG} (e0 : y 0 = x 0) (e2 : y 2 = x 2) (e8 : y 8 = x 8) (k : Nat) : fX3_givenToNext y k = fX3_givenToNext x k := by
  unfold fX3_givenToNext fX3_surface fX3_givenBy
  rw [e0, e2, e8]
theorem cA {gP : zG} : ∀ (n k : Nat) (x : zG), k + n = 11 → (∀ j, j ≠ 6 → x j = gP j) → (∀ c, c < k → x 6 c = fX3_givenToNext gP c) → ∃ y : zG, fX3_flow_L2 n k x = fX3_flow_L27 12 0 y ∧ (∀ j, j ≠ 6 → y j = gP j) ∧ ∀ c, c < 11 → y 6 c = fX3_givenToNext gP c := by
  intro n
  induction n with
  | zero =>
    intro k x hk h1 h2
    refine ⟨x, ?_, h1, fun c hc => h2 c (by omega)⟩
    conv => lhs; unfold fX3_flow_L2
  | succ n ih =>
    intro k x hk h1 h2
    conv => enter [1, y, 1, 1]; unfold fX3_flow_L2
    refine ih (k + 1) _ (by omega) (fun j hj => by rw [up_n hj]; exact h1 j hj) (fun c hc => ?_)
    rw [up_t]
    by_cases e : c = k
    · subst e
      rw [pk_us]
      exact next_c (h1 0 (by decide)) (h1 2 (by decide)) (h1 8 (by decide)) c
    · rw [pk_un e]
      exact h2 c (by omega)
theorem cZ : ∀ (n k : Nat) (x : zG), k + n = 12 → ∃ y : zG, fX3_flow_L27 n k x = fX3_flow_L48 11 0 y ∧ (∀ j, j ≠ 5 → y j = x j) ∧ (∀ c, k ≤ c → c < 12 → y 5 c = 0) ∧ ∀ c, c < k → y 5 c = x 5 c := by
  intro n
  induction n with
  | zero =>
    intro k x hk
    refine ⟨x, ?_, fun _ _ => rfl, fun c _ _ => by omega, fun _ _ => rfl⟩
    conv => lhs; unfold fX3_flow_L27
  | succ n ih =>
    intro k x hk
    obtain ⟨y, r1, r2, r3, r4⟩ := ih (k + 1) (va_up x 5 (upd (x 5) k 0)) (by omega)
    refine ⟨y, ?_, fun j hj => by rw [r2 j hj, up_n hj], fun c h1 h2 => ?_, fun c hc => ?_⟩
    · conv => lhs; unfold fX3_flow_L27
      exact r1
    · by_cases e : c = k
      · subst e
        rw [r4 c (by omega), up_t, pk_us]
      · exact r3 c (by omega) h2
    · rw [r4 c (by omega), up_t, pk_un (by omega)]
theorem mZ : ∀ (n k : Nat) (x : zG), k + n = 12 → ∃ y : zG, fX6_flows_L2 n k x = fX6_flows_L36 11 0 y ∧ (∀ j, j ≠ 0 → y j = x j) ∧ (∀ i, (i < 60 ∨ 84 ≤ i) → y 0 i = x 0 i) ∧ (∀ c, k ≤ c → c < 12 → y 0 (60 + c) = 0 ∧ y 0 (72 + c) = 0) ∧ ∀ c, c < k → y 0 (60 + c) = x 0 (60 + c) ∧ y 0 (72 + c) = x 0 (72 + c) := by
  intro n
  induction n with
  | zero =>
    intro k x hk
    refine ⟨x, ?_, fun _ _ => rfl, fun _ _ => rfl, fun c _ _ => by omega, fun _ _ => ⟨rfl, rfl⟩⟩
    conv => lhs; unfold fX6_flows_L2
  | succ n ih =>
    intro k x hk
    obtain ⟨y, r1, r2, r3, r4, r5⟩ := ih (k + 1) (va_up (va_up x 0 (upd (x 0) (60 + k) 0)) 0 (upd (upd (x 0) (60 + k) 0) (72 + k) 0)) (by omega)
    refine ⟨y, ?_, fun j hj => by rw [r2 j hj, up_n hj, up_n hj], fun i hi => ?_, fun c h1 h2 => ?_, fun c hc => ?_⟩
    · conv => lhs; unfold fX6_flows_L2
      exact r1
    · rw [r3 i hi, up_t, pk_un (by omega), pk_un (by omega)]
    · by_cases e : c = k
      · subst e
        have h := r5 c (by omega)
        rw [h.1, h.2, up_t, pk_us, pk_un (by omega), pk_us]
        exact ⟨rfl, rfl⟩
      · exact r4 c (by omega) h2
    · have h := r5 c (by omega)
      rw [h.1, h.2, up_t, pk_un (by omega), pk_un (by omega), pk_un (by omega), pk_un (by omega)]
      exact ⟨rfl, rfl⟩
theorem mA : ∀ (n k : Nat) (x : zG), k + n = 11 → ∃ y : zG, fX6_flows_L36 n k x = fX6_flows_L104 11 0 y ∧ (∀ j, j ≠ 9 → y j = x j) ∧ (∀ c, k ≤ c → c < 11 → y 9 c = v32 x c) ∧ ∀ c, c < k → y 9 c = x 9 c := by
  intro n
  induction n with
  | zero =>
    intro k x hk
    refine ⟨x, ?_, fun _ _ => rfl, fun c _ _ => by omega, fun _ _ => rfl⟩
    conv => lhs; unfold fX6_flows_L36
  | succ n ih =>
    intro k x hk
    have e : mFlowA k x = va_up x 9 (upd (x 9) k (v32 x k)) := by
      unfold mFlowA v32
      simp only [jn_eq]
    obtain ⟨y, r1, r2, r3, r4⟩ := ih (k + 1) (mFlowA k x) (by omega)
    refine ⟨y, ?_, fun j hj => by rw [r2 j hj, e, up_n hj], fun c h1 h2 => ?_, fun c hc => ?_⟩
    · conv => lhs; unfold fX6_flows_L36
      rw [jn_eq]
      exact r1
    · by_cases e2 : c = k
      · subst e2
        rw [r4 c (by omega), e, up_t, pk_us]
      · rw [r3 c (by omega) h2, e]
        exact v32_c (up_n (by decide)) c
    · rw [r4 c (by omega), e, up_t, pk_un (by omega)]
theorem fB {o : Nat → Int32} : ∀ (n k : Nat) (x y : zG), k + n = 11 → YR o x y → (∀ c, c < 11 → x 6 c = y 9 c) → (∀ c, c < 12 → x 5 c = y 0 (60 + c) - y 0 (72 + c)) → YR o (fX3_flow_L48 n k x) (fX6_flows_L104 n k y) ∧ (∀ c, c < 12 → fX3_flow_L48 n k x 5 c = fX6_flows_L104 n k y 0 (60 + c) - fX6_flows_L104 n k y 0 (72 + c)) ∧ (∀ j, j ≠ 5 → j ≠ 8 → j ≠ 9 → fX3_flow_L48 n k x j = x j) ∧ ∀ i, (i < 60 ∨ (84 ≤ i ∧ i < 100) ∨ 832 ≤ i) → fX6_flows_L104 n k y 0 i = y 0 i := by
  intro n
  induction n with
  | zero =>
    intro k x y hk h h6 h5
    unfold fX3_flow_L48 fX6_flows_L104
    exact ⟨h, h5, fun _ _ _ _ => rfl, fun _ _ => rfl⟩
  | succ n ih =>
    intro k x y hk h h6 h5
    obtain ⟨q, e1, e2, e3, e4, e5, e6⟩ := flow_step (show k < 11 by omega) h (h6 k (by omega)) h5
    obtain ⟨r1, r2, r3, r4⟩ := ih (k + 1) q (mFlowB k y) (by omega) e2 (fun c hc => by rw [e4 6 (by decide) (by decide) (by decide), e5 9 (by decide)]; exact h6 c hc) e3
    have em : fX6_flows_L104 (n + 1) k y = fX6_flows_L104 n (k + 1) (mFlowB k y) := by
      conv => lhs; unfold fX6_flows_L104
      rw [jn_eq]
    rw [e1 n, em]
    exact ⟨r1, r2, fun j a b c => by rw [r3 j a b c, e4 j a b c], fun i hi => by rw [r4 i hi, e6 i hi]⟩
theorem year_flow {o : Nat → Int32} {gP g : zG} {b yr fb bb : Nat} (h : YR o gP g) (hm : MP g b yr fb bb) (hb : b ≤ 1000000) (hbb : bb ≤ 1000) : YR o (fX3_flow gP) (fX6_flows g) ∧ YG 12 (fX3_flow gP) (fX6_flows g) ∧ (∀ j, j ≠ 5 → j ≠ 6 → j ≠ 8 → j ≠ 9 → fX3_flow gP j = gP j) ∧ ∀ i, (i < 60 ∨ (84 ≤ i ∧ i < 100) ∨ 832 ≤ i) → fX6_flows g 0 i = g 0 i := by
  obtain ⟨x1, a1, a2, a3⟩ := cA (gP := gP) 11 0 gP rfl (fun _ _ => rfl) (fun c hc => by omega)
  obtain ⟨x2, b1, b2, b3, -⟩ := cZ 12 0 x1 rfl
  obtain ⟨y1, c1, c2, c3, c4, -⟩ := mZ 12 0 g rfl
  obtain ⟨y2, d1, d2, d3, -⟩ := mA 11 0 y1 rfl
  have ex : fX3_flow gP = fX3_flow_L48 11 0 x2 := by
    unfold fX3_flow
    rw [a1, b1]
  have ey : fX6_flows g = fX6_flows_L104 11 0 y2 := by
    unfold fX6_flows
    rw [c1, d1]
  have xj : ∀ j, j ≠ 5 → j ≠ 6 → x2 j = gP j := fun j p q => by rw [b2 j p, a2 j q]
  have y0 : y2 0 = y1 0 := d2 0 (by decide)
  have yi : ∀ i, (i < 60 ∨ 84 ≤ i) → y2 0 i = g 0 i := fun i hi => by rw [y0]; exact c3 i hi
  obtain ⟨h1, h2, h3, ⟨s0, s2, s3, s4⟩, s1⟩ := id h
  have hy1m : MP y1 b yr fb bb := mp_fr hm (c2 10 (by decide)) (fun i hi => c3 i (by omega)) (c3 89 (by omega)) (c3 90 (by omega)) (fun i p q => c3 i (by omega))
  have hY1 : YR o gP y1 := by
    refine ⟨fun c hc => ?_, lr_c h2 (fun i p q => c3 i (by omega)), ?_, ⟨?_, ?_, ?_, ?_⟩, ?_⟩
    · rw [c3 c (by omega), c3 (12 + c) (by omega), c3 (24 + c) (by omega), c3 (36 + c) (by omega)]
      exact h1 c hc
    · rw [c3 89 (by omega), c2 10 (by decide)]
      exact h3
    · rw [c3 86 (by omega)]; exact s0
    · rw [c3 88 (by omega)]; exact s2
    · rw [c3 84 (by omega)]; exact s3
    · rw [c3 85 (by omega)]; exact s4
    · rw [c3 87 (by omega)]; exact s1
  have hY2 : YR o x2 y2 := by
    refine ⟨fun c hc => ?_, ?_, ?_, ⟨?_, ?_, ?_, ?_⟩, ?_⟩
    · rw [xj 0 (by decide) (by decide), xj 1 (by decide) (by decide), xj 2 (by decide) (by decide), xj 3 (by decide) (by decide), y0]
      exact hY1.1 c hc
    · rw [xj 8 (by decide) (by decide), xj 9 (by decide) (by decide)]
      exact lr_c hY1.2.1 (fun i _ _ => by rw [y0])
    · rw [xj 10 (by decide) (by decide), y0, d2 10 (by decide)]
      exact hY1.2.2.1
    · rw [xj 11 (by decide) (by decide), y0]; exact hY1.2.2.2.1.1
    · rw [xj 11 (by decide) (by decide), y0]; exact hY1.2.2.2.1.2.1
    · rw [xj 11 (by decide) (by decide), y0]; exact hY1.2.2.2.1.2.2.1
    · rw [xj 11 (by decide) (by decide), y0]; exact hY1.2.2.2.1.2.2.2
    · rw [xj 11 (by decide) (by decide), y0]; exact hY1.2.2.2.2
  obtain ⟨r1, r2, r3, r4⟩ := fB 11 0 x2 y2 rfl hY2 (fun c hc => by
    rw [b2 6 (by decide), a3 c hc, d3 c (by omega) hc]
    exact next_eq hc hY1 hy1m hb hbb) (fun c hc => by
    rw [b3 c (by omega) hc, y0, (c4 c (by omega) hc).1, (c4 c (by omega) hc).2]
    rfl)
  rw [ex, ey]
  exact ⟨r1, r2, fun j p q r t => by rw [r3 j p r t, xj j p q], fun i hi => by rw [r4 i hi, yi i (by omega)]⟩
