/-! years one behind another: class, annals and forecasts beside the reference -/
def RY (b yr : Nat) (gP gA gF g : zG) : Prop := MP g b yr (12 * yr) yr ∧ RELc gP gA gF g ∧ RELa yr gA g ∧ RELf gP gA gF g
theorem yr_of {gP gA gF g : zG} (h : RELc gP gA gF g) : YR (fun _ => 0) gP g := by
  obtain ⟨-, h2, h3, h4, s0, s1, s2, s3, s4⟩ := h
  refine ⟨fun k hk => ?_, ⟨fun c hc => ?_, fun c y hc hy => ?_⟩, h4, ⟨?_, ?_, ?_, ?_⟩, ?_⟩
  · have h := h2 k hk
    exact ⟨h.1, h.2.1, h.2.2.1, h.2.2.2.1⟩
  · exact (h2 c hc).2.2.2.2.2.2
  · exact h3 c y hc hy
  · rw [s0]; exact (Int32.add_zero _).symm
  · rw [s2]; exact (Int32.add_zero _).symm
  · rw [s3]; exact (Int32.add_zero _).symm
  · rw [s4]; exact (Int32.add_zero _).symm
  · rw [s1]; exact (Int32.add_zero _).symm
theorem relc_of {gP gA gF g : zG} (h : YR (fun _ => 0) gP g) (h4 : YS 12 gP g) (h5 : YG 12 gP g) (hw : WQ (g 0)) (hg : ∀ c, c < 12 → -500000 ≤ (gP 5 c).toInt) : RELc gP gA gF g := by
  obtain ⟨h1, ⟨l1, l2⟩, h3, ⟨s0, s2, s3, s4⟩, s1⟩ := h
  have hw2 : ∀ k, k < 12 → 0 ≤ (g 0 (24 + k)).toInt := by
    obtain ⟨_, _, _, hw3⟩ := hw
    exact hw3.1
  refine ⟨⟨hw, fun k hk => ⟨hw2 k hk, ?_⟩⟩, fun k hk => ?_, fun k y hk hy => l2 k y hk hy, h3, ?_, ?_, ?_, ?_, ?_⟩
  · have := hg k hk
    omega
  · have h := h1 k hk
    exact ⟨h.1, h.2.1, h.2.2.1, h.2.2.2, h4 k hk, h5 k hk, l1 k hk⟩
  · rw [s0]; exact Int32.add_zero _
  · rw [s1]; exact Int32.add_zero _
  · rw [s2]; exact Int32.add_zero _
  · rw [s3]; exact Int32.add_zero _
  · rw [s4]; exact Int32.add_zero _
theorem relc_t {gP gA gF gA1 gF1 u v : zG} (e0 : ∀ i, i < 1024 → v 0 i = u 0 i) (e10 : ∀ j, j ≠ 0 → j ≠ 5 → v 10 j = u 10 j) (h : RELc gP gA gF u) : RELc gP gA1 gF1 v := by
  obtain ⟨q1, q2, q3, q4, q5⟩ := h
  unfold RELc
  rw [e0 89 (by omega), e0 86 (by omega), e0 87 (by omega), e0 88 (by omega), e0 84 (by omega), e0 85 (by omega), e10 1 (by decide) (by decide), e10 2 (by decide) (by decide), e10 3 (by decide) (by decide), e10 4 (by decide) (by decide)]
  refine ⟨⟨wq_c q1.1 (e0 89 (by omega)) (fun j hj => e0 (24 + j) (by omega)), fun c hc => by rw [e0 _ (by omega)]; exact q1.2 c hc⟩, fun k hk => ?_, fun k y hk hy => by rw [e0 _ (by omega)]; exact q3 k y hk hy, q4, q5⟩
  rw [iceOf_c (g := u) (g1 := v) (fun j _ => e0 _ (by omega)), e0 k (by omega), e0 (12 + k) (by omega), e0 (24 + k) (by omega), e0 (36 + k) (by omega), e0 (48 + k) (by omega), e0 (60 + k) (by omega), e0 (72 + k) (by omega)]
  exact q2 k hk
theorem mp_t {u v : zG} {b yr fb bb : Nat} (e0 : ∀ i, i < 1024 → v 0 i = u 0 i) (e10 : ∀ j, j ≠ 0 → j ≠ 5 → v 10 j = u 10 j) (h : MP u b yr fb bb) : MP v b yr fb bb := by
  unfold MP at h ⊢
  rw [e0 89 (by omega), e0 90 (by omega), e10 3 (by decide) (by decide), e10 2 (by decide) (by decide), e10 4 (by decide) (by decide)]
  refine ⟨h.1, ⟨fun k j hk hj => by rw [e0 _ (by omega)]; exact h.2.1.1 k j hk hj, ?_⟩, h.2.2.1, fun k hk => by rw [e0 k (by omega)]; exact h.2.2.2.1 k hk, h.2.2.2.2⟩
  rw [tS_c (S := u 0) 12 (fun c hc => lS_c 61 (fun j hj => e0 _ (by omega)))]
  exact h.2.1.2
theorem rela_t {gA u v : zG} {yr : Nat} (hyr : yr ≤ 60) (e0 : ∀ i, i < 1024 → v 0 i = u 0 i) (e2 : v 2 = u 2) (e3 : ∀ i, i < 720 → nI i < u 0 90 → v 3 i = u 3 i ∧ v 4 i = u 4 i ∧ v 5 i = u 5 i) (h : RELa yr gA u) : RELa yr gA v := by
  obtain ⟨q1, q2, q3, q4⟩ := h
  unfold RELa
  rw [e2, e0 90 (by omega)]
  refine ⟨q1, fun y hy => by rw [e0 _ (by omega)]; exact q2 y hy, q3, fun i hi hc => ?_⟩
  obtain ⟨p3, p4, p5⟩ := e3 i hi hc
  rw [p3, p4, p5]
  exact q4 i hi hc
theorem allIce_0 {g g1 : zG} (h : g1 0 = g 0) : fX6_allIce g1 = fX6_allIce g := allIce_c (fun k _ => iceOf_c (fun j _ => by rw [h]))
def fcMv (g : zG) (f : Nat) : Int32 := if g 6 f = g 0 89 then (if 0 ≤ fX6_allIce g - g 7 f then fX6_allIce g - g 7 f else -(fX6_allIce g - g 7 f)) else g 8 f
theorem l56 : ∀ (n k : Nat) (g : zG) (f : Nat), fX6_pass_L56 n k g 8 f = if k ≤ f ∧ f < k + n then fcMv g f else g 8 f := by
  intro n
  induction n with
  | zero => intro k g f; rw [if_neg (by omega)]; unfold fX6_pass_L56; rfl
  | succ n ih =>
    intro k g f
    have es : fX6_pass_L56 (n + 1) k g = fX6_pass_L56 n (k + 1) (va_up g 8 (upd (g 8) k (fcMv g k))) := by
      conv => lhs; unfold fX6_pass_L56
      rw [jn_eq, jn_eq]
      rfl
    rw [es, ih]
    have em : ∀ q, q ≠ k → fcMv (va_up g 8 (upd (g 8) k (fcMv g k))) q = fcMv g q := fun q hq => by
      generalize fcMv g k = w
      unfold fcMv
      rw [allIce_0 (g := g) (up_n (by decide)), up_n (j := 6) (by decide), up_n (j := 0) (by decide), up_n (j := 7) (by decide), up_t, pk_un hq]
    by_cases c : f = k
    · subst c
      rw [if_neg (by omega), if_pos (by omega), up_t, pk_us]
    · by_cases c2 : k + 1 ≤ f ∧ f < k + 1 + n
      · rw [if_pos c2, if_pos (by omega), em f c]
      · rw [if_neg c2, if_neg (by omega), up_t, pk_un c]
theorem abs_sw (a b : Int32) : (if 0 ≤ a - b then a - b else -(a - b)) = (if 0 ≤ b - a then b - a else 0 - (b - a)) := by
  have e : b - a = -(a - b) := (Int32.neg_sub).symm
  rw [e]
  generalize a - b = d
  have e0 : (0 : Int32).toInt = 0 := rfl
  have hd := fb_rng d
  by_cases m : d.toInt = -2147483648
  · have q : d = -2147483648 := by
      rw [fa_eq, m]
      decide +kernel
    rw [q]
    decide +kernel
  · have hn : (-d).toInt = -d.toInt := by rw [Int32.toInt_neg, Int.bmod_eq_of_le (by omega) (by omega)]
    have h0 : 0 - -d = d := by rw [Int32.sub_eq_add_neg, Int32.neg_neg, Int32.zero_add]
    by_cases c : 0 ≤ d
    · rw [if_pos c]
      rw [fa_le, e0] at c
      by_cases c2 : 0 ≤ -d
      · rw [if_pos c2]
        rw [fa_le, e0, hn] at c2
        rw [fa_eq, hn]
        omega
      · rw [if_neg c2, h0]
    · rw [if_neg c]
      rw [fa_le, e0] at c
      rw [if_pos (by rw [fa_le, e0, hn]; omega)]
/-- one year of all -/
theorem ry_step {b yr : Nat} {gP gA gF g : zG} (h : RY b yr gP gA gF g) (hy : yr < 60) (hb : b + 240 ≤ 1000000) : RY (b + 240) (yr + 1) (fX3_goThroughYear gP) (fX0_note gA (fX3_goThroughYear gP)) gF (fX6_pass_L56 (fX6_passes g 1 10 5).toNatClampNeg 0 (fX6_passes g 1)) := by
  obtain ⟨m1, m2, m3, m4⟩ := h
  have Y := yr_of m2
  obtain ⟨b1, b2, b3, b4, b5, b6⟩ := year_all Y m1 hy hb (by omega) (by omega)
  have hgn := year_gain Y m1 hy hb (by omega) (by omega)
  have mG := mp_passes m1 (y := 1) (by omega) (by omega) (by omega) (by omega)
  obtain ⟨wy, w1, w2, w3⟩ := m2.1.1
  have ewy : wy = yr := (nI_eq (by omega) (by omega)).mp (by rw [← w2]; exact mp_year m1)
  rw [ewy] at w3
  have hW := wb_year m1 hy hb (by omega) w3 (by omega)
  rw [show 12000000 * yr + 12000000 = 12000000 * (yr + 1) by omega] at hW
  rw [show b + 240 * 1 = b + 240 by omega, show 12 * yr + 12 * 1 = 12 * (yr + 1) by omega] at mG
  have j2 := passes_j (j := 2) (by decide) (by decide) (by decide) (by decide) (by decide) g 1
  have j6 := passes_j (j := 6) (by decide) (by decide) (by decide) (by decide) (by decide) g 1
  have j7 := passes_j (j := 7) (by decide) (by decide) (by decide) (by decide) (by decide) g 1
  have j8 := passes_j (j := 8) (by decide) (by decide) (by decide) (by decide) (by decide) g 1
  have j10 := passes_10 g 1
  generalize fX3_goThroughYear gP = gQ at b1 b2 b3 b4 b6 hgn ⊢
  generalize fX6_passes g 1 = G at b1 b2 b3 b4 b5 b6 mG hW j2 j6 j7 j8 j10 ⊢
  have q0 : gQ 10 0 = nI (yr + 1) := by rw [b1.2.2.1.1]; exact mp_year mG
  have c1 : RELc gQ gA gF G := relc_of b1 b2 b3 ⟨yr + 1, by omega, mp_year mG, hW⟩ hgn
  obtain ⟨fl, hfl, e90⟩ := mp_fl m1
  obtain ⟨n1, n2, n3⟩ := note_eq hy m3 hfl e90 q0 b4 j2 b5 b6
  have v := pass56 (G 10 5).toNatClampNeg 0 G
  have v8 := l56 (G 10 5).toNatClampNeg 0 G
  generalize fX6_pass_L56 (G 10 5).toNatClampNeg 0 G = V at v v8 ⊢
  refine ⟨mG.of (v 0 (by decide)) (by rw [v 10 (by decide)]) (by rw [v 10 (by decide)]) (by rw [v 10 (by decide)]), relc_t (fun i _ => by rw [v 0 (by decide)]) (fun j _ _ => by rw [v 10 (by decide)]) c1, ?_, ?_⟩
  · unfold RELa at n1 ⊢
    rw [v 0 (by decide), v 2 (by decide), v 3 (by decide), v 4 (by decide), v 5 (by decide)]
    exact n1
  · obtain ⟨⟨k, hk, ek⟩, f2, f3⟩ := m4
    unfold RELf
    rw [v 10 (by decide), v 6 (by decide), v 7 (by decide), j10, j6, j7]
    refine ⟨⟨k, hk, ek⟩, f2, fun f hf hc => ?_⟩
    obtain ⟨p1, p2, p3, p4⟩ := f3 f hf hc
    refine ⟨p1, p2, p3, ?_⟩
    rw [ek] at hc
    have hlt := (nI_ltI (by omega) (by omega)).mp hc
    rw [v8, j10, ek, nI_clamp (n := k) (by omega), if_pos (c := 0 ≤ f ∧ f < 0 + k) (by omega)]
    unfold fcMv
    rw [j6, j7, j8, mp_year mG]
    obtain ⟨a, ha, ea⟩ := vp_in_of p3 (by decide)
    have e6 : g 6 f = nI a := by rw [← p1]; exact ea
    have ey : gP 10 0 = nI yr := by rw [m2.2.2.2.1.1]; exact mp_year m1
    have ec : (nI a).toNatClampNeg = a := nI_clamp (by omega)
    have eA : fX1_allIce (gQ 8) (gQ 9) = fX6_allIce G := all_eq (fun c hc9 => b1.2.1.1 c hc9)
    rw [e6, ea, ec, q0]
    rw [ea, ec, ey] at p4
    by_cases ca : a = yr + 1
    · subst ca
      rw [if_pos rfl, if_pos (c := nI (yr + 1) ≤ nI (yr + 1)) ((nI_leI (by omega) (by omega)).mpr (Nat.le_refl _)), n3, eA, p2]
      exact abs_sw _ _
    · rw [if_neg (fun q => ca ((nI_eq (by omega) (by omega)).mp q)), n2 a ca, p4]
      by_cases cb : a ≤ yr
      · rw [if_pos (c := nI a ≤ nI yr) ((nI_leI (by omega) (by omega)).mpr cb), if_pos (c := nI a ≤ nI (yr + 1)) ((nI_leI (by omega) (by omega)).mpr (by omega))]
      · rw [if_neg (c := nI a ≤ nI yr) (fun q => cb ((nI_leI (by omega) (by omega)).mp q)), if_neg (c := nI a ≤ nI (yr + 1)) (fun q => by have := (nI_leI (by omega) (by omega)).mp q; omega)]
theorem ry_pass {gF : zG} : ∀ (n k b yr : Nat) (gP gA g : zG), RY b yr gP gA gF g → yr + n ≤ 60 → b + 240 * n ≤ 1000000 → (fX5_pass_L14 n k gP gA).1 = (fX6_pass_L43 n k g).1 ∧ RY (b + 240 * n) (yr + n) (fX5_pass_L14 n k gP gA).2.1 (fX5_pass_L14 n k gP gA).2.2 gF (fX6_pass_L43 n k g).2 ∧ (fX6_pass_L43 n k g).2 10 0 = g 10 0 := by
  intro n
  induction n with
  | zero =>
    intro k b yr gP gA g h _ _
    unfold fX5_pass_L14 fX6_pass_L43
    exact ⟨h.2.1.2.2.2.1.1, h, rfl⟩
  | succ n ih =>
    intro k b yr gP gA g h hy hb
    have e5 : fX5_pass_L14 (n + 1) k gP gA = fX5_pass_L14 n (k + 1) (fX3_goThroughYear gP) (fX0_note gA (fX3_goThroughYear gP)) := by
      conv => lhs; unfold fX5_pass_L14
      rw [jn_eq, jn_eq]
    have e6 : fX6_pass_L43 (n + 1) k g = fX6_pass_L43 n (k + 1) (fX6_pass_L56 (fX6_passes g 1 10 5).toNatClampNeg 0 (fX6_passes g 1)) := by
      conv => lhs; unfold fX6_pass_L43
      rw [jn_eq, jn_eq]
    have e10 : fX6_pass_L56 (fX6_passes g 1 10 5).toNatClampNeg 0 (fX6_passes g 1) 10 0 = g 10 0 := by
      rw [pass56 _ _ _ 10 (by decide), passes_10]
    have hs := ry_step h (by omega) (by omega)
    rw [e5, e6]
    generalize fX6_pass_L56 (fX6_passes g 1 10 5).toNatClampNeg 0 (fX6_passes g 1) = V at hs e10 ⊢
    generalize fX3_goThroughYear gP = gQ at hs ⊢
    obtain ⟨r1, r2, r3⟩ := ih (k + 1) (b + 240) (yr + 1) gQ (fX0_note gA gQ) V hs (by omega) (by omega)
    rw [show b + 240 * (n + 1) = b + 240 + 240 * n by omega, show yr + (n + 1) = yr + 1 + n by omega]
    exact ⟨r1, r2, by rw [r3, e10]⟩
