/-! what would be: the class's second land beside the reference that goes ahead and comes back -/
def TB (fl : Nat) (g0 g : zG) : Prop := (∃ f1, fl ≤ f1 ∧ f1 ≤ 720 ∧ g 0 90 = nI f1) ∧ ∀ i, i < fl → g 3 i = g0 3 i ∧ g 4 i = g0 4 i ∧ g 5 i = g0 5 i
theorem fbl_lo {f7 : Nat → Int32} {yI : Int32} {fl : Nat} {g0 : zG} : ∀ (n k f1 : Nat) (z : zG), fl ≤ f1 → f1 + n ≤ 720 → z 0 90 = nI f1 → (∀ i, i < fl → z 3 i = g0 3 i ∧ z 4 i = g0 4 i ∧ z 5 i = g0 5 i) → TB fl g0 (fbl f7 yI n k z) := by
  intro n
  induction n with
  | zero => intro k f1 z h1 h2 h3 h4; unfold fbl; exact ⟨⟨f1, h1, by omega, h3⟩, h4⟩
  | succ n ih =>
    intro k f1 z h1 h2 h3 h4
    unfold fbl
    by_cases c : 0 < f7 k
    · rw [if_pos c]
      have ec : (z 0 90).toNatClampNeg = f1 := by rw [h3]; exact nI_clamp (by omega)
      rw [ec]
      refine ih (k + 1) (f1 + 1) _ (by omega) (by omega) ?_ (fun i hi => ?_)
      · rw [up_t, pk_us, h3]
        exact nI_1 f1
      · show upd (z 3) f1 yI i = g0 3 i ∧ upd (z 4) f1 (nI k) i = g0 4 i ∧ upd (z 5) f1 (f7 k) i = g0 5 i
        rw [pk_un (by omega), pk_un (by omega), pk_un (by omega)]
        exact h4 i hi
    · rw [if_neg c]
      exact ih (k + 1) f1 z h1 (by omega) h3 h4
def TZ (gP g : zG) : Prop := YS 12 gP g ∧ YG 12 gP g ∧ ∀ c, c < 12 → -500000 ≤ (gP 5 c).toInt
def TY (o : Nat → Int32) (b yr fl : Nat) (g0 gP g : zG) : Prop := YR o gP g ∧ MP g b yr (12 * yr) yr ∧ TB fl g0 g
theorem ty_step {o : Nat → Int32} {b yr fl : Nat} {g0 gP g : zG} (h : TY o b yr fl g0 gP g) (hy : yr < 60) (hb : b + 240 ≤ 1000000) : TY o (b + 240) (yr + 1) fl g0 (fX3_goThroughYear gP) (fX6_passes g 1) ∧ TZ (fX3_goThroughYear gP) (fX6_passes g 1) := by
  obtain ⟨Y, m1, ⟨f1, t1, t2, t3⟩, t4⟩ := h
  obtain ⟨b1, b2, b3, b4, b5, b6⟩ := year_all Y m1 hy hb (by omega) (by omega)
  have hgn := year_gain Y m1 hy hb (by omega) (by omega)
  have mG := mp_passes m1 (y := 1) (by omega) (by omega) (by omega) (by omega)
  rw [show b + 240 * 1 = b + 240 by omega, show 12 * yr + 12 * 1 = 12 * (yr + 1) by omega] at mG
  obtain ⟨f2, s1, s2⟩ := mp_fl m1
  have e12 : f1 = f2 := (nI_eq (by omega) (by omega)).mp (by rw [← t3]; exact s2)
  obtain ⟨⟨f3, u1, u2, u3⟩, u4⟩ := fbl_lo (f7 := fX3_goThroughYear gP 7) (yI := nI (yr + 1)) (fl := fl) (g0 := g0) 12 0 f1 g t1 (by omega) t3 t4
  obtain ⟨v3, v4, v5, v9⟩ := b6
  refine ⟨⟨b1, mG, ⟨f3, u1, u2, by rw [v9]; exact u3⟩, fun i hi => ?_⟩, b2, b3, hgn⟩
  rw [v3, v4, v5]
  exact u4 i hi
theorem passes_1 (x : zG) : fX6_passes x 1 = fX6_ends (fX6_calves (fX6_breaks (fX6_runs (fX6_flows (fX6_snows (va_up x 0 (upd (x 0) 89 (x 0 89 + 1)))))))) := by
  unfold fX6_passes fX6_passes_L2
  simp only [jn_eq]
  unfold fX6_passes_L2
  rfl
theorem passes_s (n k : Nat) (x : zG) : fX6_passes_L2 (n + 1) k x = fX6_passes_L2 n (k + 1) (fX6_passes x 1) := by
  rw [passes_1]
  conv => lhs; unfold fX6_passes_L2
  simp only [jn_eq]
theorem try_s (n k : Nat) (x : zG) : fX5_tryOut_L13 (n + 1) k x = fX5_tryOut_L13 n (k + 1) (fX3_goThroughYear x) := by
  conv => lhs; unfold fX5_tryOut_L13
  rw [jn_eq]
theorem ty_n {o : Nat → Int32} {fl : Nat} {g0 : zG} : ∀ (n k j b yr : Nat) (x g : zG), TY o b yr fl g0 x g → TZ x g → yr + n ≤ 60 → b + 240 * n ≤ 1000000 → TY o (b + 240 * n) (yr + n) fl g0 (fX5_tryOut_L13 n k x) (fX6_passes_L2 n j g) ∧ TZ (fX5_tryOut_L13 n k x) (fX6_passes_L2 n j g) := by
  intro n
  induction n with
  | zero => intro k j b yr x g h hz _ _; unfold fX5_tryOut_L13 fX6_passes_L2; exact ⟨h, hz⟩
  | succ n ih =>
    intro k j b yr x g h _ hy hb
    obtain ⟨r1, r2⟩ := ty_step h (by omega) (by omega)
    rw [try_s, passes_s, show b + 240 * (n + 1) = b + 240 + 240 * n by omega, show yr + (n + 1) = yr + 1 + n by omega]
    exact ih (k + 1) (j + 1) (b + 240) (yr + 1) _ _ r1 r2 (by omega) (by omega)
theorem ty_p {o : Nat → Int32} {b yr fl p : Nat} {g0 x g : zG} (h : TY o b yr fl g0 x g) (hp : 1 ≤ p) (hy : yr + p ≤ 60) (hb : b + 240 * p ≤ 1000000) : TY o (b + 240 * p) (yr + p) fl g0 (fX5_tryOut_L13 p 0 x) (fX6_passes g p) ∧ TZ (fX5_tryOut_L13 p 0 x) (fX6_passes g p) := by
  obtain ⟨n, rfl⟩ : ∃ n, p = n + 1 := ⟨p - 1, by omega⟩
  obtain ⟨r1, r2⟩ := ty_step h (by omega) (by omega)
  have e : fX6_passes g (n + 1) = fX6_passes_L2 n (0 + 1) (fX6_passes g 1) := by
    conv => lhs; unfold fX6_passes
    rw [passes_s]
  rw [e, try_s, show b + 240 * (n + 1) = b + 240 + 240 * n by omega, show yr + (n + 1) = yr + 1 + n by omega]
  exact ty_n n _ _ (b + 240) (yr + 1) _ _ r1 r2 (by omega) (by omega)
theorem yr_c {o : Nat → Int32} {gP x y : zG} (h : YR o gP x) (e0 : y 0 = x 0) (e10 : y 10 = x 10) : YR o gP y := by
  obtain ⟨h1, h2, h3, h4, h5⟩ := h
  unfold YR
  rw [e0, e10]
  exact ⟨h1, lr_c h2 (fun i _ _ => by rw [e0]), h3, h4, h5⟩
theorem keeps1_L : ∀ (n k : Nat) (g : zG) (j : Nat), (fX6_keeps_L2 1 n k g) 0 j = if k ≤ j ∧ j < k + n then g 1 j else g 0 j := by
  intro n
  induction n with
  | zero => intro k g j; rw [if_neg (by omega)]; unfold fX6_keeps_L2; rfl
  | succ n ih =>
    intro k g j
    have e : fX6_keeps_L2 1 (n + 1) k g = fX6_keeps_L2 1 n (k + 1) (va_up (va_up g 0 (upd (g 0) k (g 1 k))) 1 (upd (g 1) k (g 0 k))) := by
      conv => lhs; unfold fX6_keeps_L2
      rw [jn_eq, if_neg (c := (1 : Int32) = 0) (by decide)]
    rw [e, ih]
    show (if k + 1 ≤ j ∧ j < k + 1 + n then upd (g 1) k (g 0 k) j else upd (g 0) k (g 1 k) j) = _
    by_cases c : j = k
    · subst c
      rw [if_neg (by omega), if_pos (by omega), pk_us]
    · rw [pk_un c, pk_un c]
      by_cases c2 : k + 1 ≤ j ∧ j < k + 1 + n
      · rw [if_pos c2, if_pos (by omega)]
      · rw [if_neg c2, if_neg (by omega)]
theorem keeps1_0 {j : Nat} (hj : j < 1024) (g : zG) : fX6_keeps g 1 0 j = g 1 j := by
  have q := keeps1_L 1024 0 g j
  rw [if_pos (by omega)] at q
  exact q
theorem keeps_n {j : Nat} (h0 : j ≠ 0) (h1 : j ≠ 1) (g : zG) (v : Int32) : fX6_keeps g v j = g j := keeps_10L v 1024 0 g j h0 h1
/-- the years tried out, from what is kept -/
theorem tried {o : Nat → Int32} {b yr fl p : Nat} {g0 x : zG} (hY : YR o x g0) (hm : MP g0 b yr (12 * yr) yr) (hfl : fl ≤ 720) (h90 : g0 0 90 = nI fl) (hp : 1 ≤ p) (hy : yr + p ≤ 60) (hb : b + 240 * p ≤ 1000000) : TY o (b + 240 * p) (yr + p) fl g0 (fX5_tryOut_L13 p 0 x) (fX6_passes (fX6_keeps g0 0) p) ∧ TZ (fX5_tryOut_L13 p 0 x) (fX6_passes (fX6_keeps g0 0) p) ∧ (∀ j, j < 1024 → fX6_passes (fX6_keeps g0 0) p 1 j = g0 0 j) ∧ ∀ j, j ≠ 0 → j ≠ 1 → j ≠ 3 → j ≠ 4 → j ≠ 5 → j ≠ 9 → fX6_passes (fX6_keeps g0 0) p j = g0 j := by
  have k1 : ∀ j, j ≠ 1 → fX6_keeps g0 0 j = g0 j := (keeps0_L 1024 0 g0).1
  have k2 : ∀ j, fX6_keeps g0 0 1 j = if 0 ≤ j ∧ j < 0 + 1024 then g0 0 j else g0 1 j := (keeps0_L 1024 0 g0).2
  have mk := mp_keeps0 hm
  generalize fX6_keeps g0 0 = K at k1 k2 mk ⊢
  have t0 : TY o b yr fl g0 x K := ⟨yr_c hY (k1 0 (by decide)) (k1 10 (by decide)), mk, ⟨fl, Nat.le_refl _, hfl, by rw [k1 0 (by decide)]; exact h90⟩, fun i _ => by rw [k1 3 (by decide), k1 4 (by decide), k1 5 (by decide)]; exact ⟨rfl, rfl, rfl⟩⟩
  obtain ⟨r1, r2⟩ := ty_p t0 hp hy hb
  refine ⟨r1, r2, fun j hj => ?_, fun j j0 j1 j3 j4 j5 j9 => ?_⟩
  · rw [passes_j (j := 1) (by decide) (by decide) (by decide) (by decide) (by decide), k2 j, if_pos (by omega)]
  · rw [passes_j j0 j3 j4 j5 j9, k1 j j1]
/-- the class's second land, made like the first -/
theorem like_yr {gP gA gF gT g : zG} (h : RELc gP gA gF g) : YR (fun i => if i = 0 then gT 11 0 - g 0 86 else if i = 1 then gT 11 1 - g 0 87 else if i = 2 then gT 11 2 - g 0 88 else if i = 3 then gT 11 3 - g 0 84 else gT 11 4 - g 0 85) (fX3_becomeLike gT gP) g := by
  obtain ⟨-, h2, h3, h4, -⟩ := h
  have hs : ∀ a b : Int32, a = b + (a - b) := fun a b => by rw [Int32.add_comm, Int32.sub_add_cancel]
  have e11 : fX3_becomeLike gT gP 11 = gT 11 := by
    unfold fX3_becomeLike
    rw [jn_eq, up_n (by decide), up_n (by decide), up_n (by decide), up_n (by decide), up_n (by decide), up_n (by decide), up_n (by decide), up_n (by decide), up_n (by decide), up_n (by decide), up_n (by decide)]
  have e0 : fX3_becomeLike gT gP 0 = va_cpy (gP 0) (gT 0) 0 0 12 := by
    unfold fX3_becomeLike
    rw [jn_eq, up_n (by decide), up_n (by decide), up_n (by decide), up_t]
  have e1 : fX3_becomeLike gT gP 1 = va_cpy (gP 1) (gT 1) 0 0 12 := by
    unfold fX3_becomeLike
    rw [jn_eq, up_n (by decide), up_n (by decide), up_t]
  have e2 : fX3_becomeLike gT gP 2 = va_cpy (gP 2) (gT 2) 0 0 12 := by
    unfold fX3_becomeLike
    rw [jn_eq, up_n (by decide), up_t]
  have e3 : fX3_becomeLike gT gP 3 = va_cpy (gP 3) (gT 3) 0 0 12 := by
    unfold fX3_becomeLike
    rw [jn_eq, up_t]
  have e8 : fX3_becomeLike gT gP 8 = va_cpy (gP 8) (gT 8) 0 0 12 := by
    unfold fX3_becomeLike
    rw [jn_eq, up_n (by decide), up_n (by decide), up_n (by decide), up_n (by decide), up_n (by decide), up_t]
    rfl
  have e9 : fX3_becomeLike gT gP 9 = va_cpy (gP 9) (gT 9) 0 0 732 := by
    unfold fX3_becomeLike
    rw [jn_eq, up_n (by decide), up_n (by decide), up_n (by decide), up_n (by decide), up_t]
    rfl
  have e10 : fX3_becomeLike gT gP 10 = upd (upd (upd (upd (upd (gT 10) 0 (gP 10 0)) 1 (gP 10 1)) 2 (gP 10 2)) 3 (gP 10 3)) 4 (gP 10 4) := by
    unfold fX3_becomeLike
    rw [jn_eq, up_n (by decide), up_n (by decide), up_n (by decide), up_n (by decide), up_n (by decide), up_n (by decide), up_t]
  have cp : ∀ (f f1 : Nat → Int32) (n k : Nat), k < n → va_cpy f f1 0 0 n k = f k := fun f f1 n k hk => by
    rw [pk_cpy_in (Nat.zero_le _) (by omega), Nat.zero_add, Nat.sub_zero]
  unfold YR
  rw [e0, e1, e2, e3, e8, e9, e10, e11]
  refine ⟨fun k hk => ?_, ⟨fun c hc => ?_, fun c y hc hy => ?_⟩, ?_, ⟨hs _ _, hs _ _, hs _ _, hs _ _⟩, hs _ _⟩
  · rw [cp _ _ 12 k hk, cp _ _ 12 k hk, cp _ _ 12 k hk, cp _ _ 12 k hk]
    have q := h2 k hk
    exact ⟨q.1, q.2.1, q.2.2.1, q.2.2.2.1⟩
  · rw [cp _ _ 12 c hc]
    exact (h2 c hc).2.2.2.2.2.2
  · rw [cp _ _ 732 _ (by omega)]
    exact h3 c y hc hy
  · refine ⟨?_, ?_, ?_, ?_, ?_⟩
    · rw [pk_un (by decide), pk_un (by decide), pk_un (by decide), pk_un (by decide), pk_us]; exact h4.1
    · rw [pk_un (by decide), pk_un (by decide), pk_un (by decide), pk_us]; exact h4.2.1
    · rw [pk_un (by decide), pk_un (by decide), pk_us]; exact h4.2.2.1
    · rw [pk_un (by decide), pk_us]; exact h4.2.2.2.1
    · rw [pk_us]; exact h4.2.2.2.2
theorem tz_tell {o : Nat → Int32} {T U : zG} {k w : Nat} (hk : k < 12) (hw : w < 10) (h : YR o T U) (hz : TZ T U) : fX3_tellOf T k w = fX6_tells U k (nI w) := by
  obtain ⟨h1, ⟨l1, -⟩, h3, -⟩ := h
  obtain ⟨z1, z2, z3⟩ := hz
  have q := h1 k hk
  have q5 := z3 k hk
  exact tell_eq hw (by omega) ⟨q.1, q.2.1, q.2.2.1, q.2.2.2, z1 k hk, z2 k hk, l1 k hk⟩ h3.2.1
/-- back from what would be: all that is asked of later is as it was -/
theorem rb_back {b yr fl : Nat} {gP gA gF g0 U v : zG} (m1 : MP g0 b yr (12 * yr) yr) (m2 : RELc gP gA gF g0) (m3 : RELa yr gA g0) (hfl : fl ≤ 720) (h90 : g0 0 90 = nI fl) (ht : ∀ i, i < fl → U 3 i = g0 3 i ∧ U 4 i = g0 4 i ∧ U 5 i = g0 5 i) (e0 : ∀ i, i < 1024 → v 0 i = g0 0 i) (e10 : ∀ j, j ≠ 0 → j ≠ 5 → v 10 j = g0 10 j) (e2 : v 2 = g0 2) (e3 : v 3 = U 3) (e4 : v 4 = U 4) (e5 : v 5 = U 5) : MP v b yr (12 * yr) yr ∧ (∀ gA1 gF1, RELc gP gA1 gF1 v) ∧ RELa yr gA v := by
  have hy := mp_yr m1
  obtain ⟨f2, s1, s2⟩ := mp_fl m1
  refine ⟨mp_t e0 e10 m1, fun _ _ => relc_t e0 e10 m2, rela_t hy e0 e2 (fun i hi hc => ?_) m3⟩
  rw [e3, e4, e5]
  refine ht i ?_
  have e12 : f2 = fl := (nI_eq (by omega) (by omega)).mp (by rw [← s2]; exact h90)
  rw [h90] at hc
  exact (nI_ltI (by omega) (by omega)).mp hc
