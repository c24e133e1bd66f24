/-! the class's state beside the reference's, after n calls -/
def WQ (S : Nat → Int32) : Prop := ∃ yr : Nat, yr ≤ 60 ∧ S 89 = nI yr ∧ WB S (12000000 * yr)
theorem wq_c {S T : Nat → Int32} (h : WQ S) (e9 : T 89 = S 89) (e : ∀ k, k < 12 → T (24 + k) = S (24 + k)) : WQ T := by
  obtain ⟨yr, h1, h2, h3⟩ := h
  exact ⟨yr, h1, by rw [e9]; exact h2, wb_c h3 e⟩
def RELc (gP gA gF g : zG) : Prop :=
  (WQ (g 0) ∧ ∀ k, k < 12 → 0 ≤ (g 0 (24 + k)).toInt ∧ -2147483648 < (gP 5 k).toInt) ∧
  (∀ k, k < 12 → gP 0 k = g 0 k ∧ gP 1 k = g 0 (12 + k) ∧ gP 2 k = g 0 (24 + k) ∧ gP 3 k = g 0 (36 + k) ∧ gP 4 k = g 0 (48 + k) ∧ gP 5 k = g 0 (60 + k) - g 0 (72 + k) ∧ gP 8 k = fX6_iceOf g k) ∧
  (∀ k y, k < 12 → y < 61 → gP 9 (k * 61 + y) = g 0 (100 + 61 * k + y)) ∧
  (gP 10 0 = g 0 89 ∧ gP 10 1 = g 10 1 ∧ gP 10 2 = g 10 2 ∧ gP 10 3 = g 10 3 ∧ gP 10 4 = g 10 4) ∧
  (gP 11 0 = g 0 86 ∧ gP 11 1 = g 0 87 ∧ gP 11 2 = g 0 88 ∧ gP 11 3 = g 0 84 ∧ gP 11 4 = g 0 85)
def RELa (yr : Nat) (gA g : zG) : Prop :=
  (∀ y, y < 61 → gA 0 y = g 2 y ∧ (g 2 y = 0 ∨ g 2 y = 1)) ∧ (∀ y, y ≤ yr → gA 1 y = g 0 (900 + y)) ∧ gA 6 0 = g 0 90 ∧
  ∀ i, i < 720 → nI i < g 0 90 → gA 3 i = g 3 i ∧ gA 4 i = g 4 i ∧ gA 5 i = g 5 i
def RELf (gP gA gF g : zG) : Prop := (∃ fl, fl ≤ 10 ∧ g 10 5 = nI fl) ∧ gF 2 0 = g 10 5 ∧
  ∀ f, f < 10 → nI f < g 10 5 → gF 0 f = g 6 f ∧ gF 1 f = g 7 f ∧ vp_in (gF 0 f) 61 ∧ g 8 f = (if gF 0 f ≤ gP 10 0 then (if 0 ≤ gF 1 f - gA 2 (gF 0 f).toNatClampNeg then gF 1 f - gA 2 (gF 0 f).toNatClampNeg else 0 - (gF 1 f - gA 2 (gF 0 f).toNatClampNeg)) else -1)
def REL (n : Nat) (gP gA gF g : zG) : Prop := ∃ yr : Nat, MP g (999 * n + 240 * yr) yr (12 * yr) yr ∧ RELc gP gA gF g ∧ RELa yr gA g ∧ RELf gP gA gF g
theorem rel_mp {n : Nat} {gP gA gF g : zG} (h : REL n gP gA gF g) : ∃ yr : Nat, MP g (999 * n + 240 * yr) yr (12 * yr) yr := by
  obtain ⟨yr, h1, -⟩ := h
  exact ⟨yr, h1⟩
theorem rel_ash {n : Nat} {gP gA gF g : zG} (h : REL n gP gA gF g) : ∀ i, i < 61 → g 2 i = 0 ∨ g 2 i = 1 := by
  obtain ⟨yr, -, -, h1, -⟩ := h
  exact fun i hi => (h1.1 i hi).2
theorem rel_fc {n : Nat} {gP gA gF g : zG} (h : REL n gP gA gF g) : ∃ fl, fl ≤ 10 ∧ g 10 5 = nI fl := by
  obtain ⟨yr, -, -, -, h1⟩ := h
  exact h1.1
theorem mp_mono {g : zG} {b b1 yr fb bb : Nat} (h : MP g b yr fb bb) (hb : b ≤ b1) : MP g b1 yr fb bb :=
  ⟨h.1, ⟨h.2.1.1, by have := h.2.1.2; omega⟩, h.2.2⟩
theorem rel_skip {n : Nat} {gP gA gF g : zG} (h : REL n gP gA gF g) : REL (n + 1) gP gA gF g := by
  obtain ⟨yr, h1, h2⟩ := h
  exact ⟨yr, mp_mono h1 (by omega), h2⟩
theorem m0_0 : ∀ i, (gM0 0 i) = (if i = 900 then -1 else if i < 24 then 100 else 0) := by
  intro i
  show upd (fillM 12) 900 (-1) i = _
  unfold upd fillM
  by_cases e : i = 900
  · rw [if_pos e, if_pos e]
  · rw [if_neg e, if_neg e]
    by_cases e2 : i < 24
    · rw [if_pos e2, if_pos (by omega)]
    · rw [if_neg e2, if_neg (by omega)]
theorem m0_n {c : Nat} (h : c ≠ 0) (i : Nat) : gM0 c i = 0 := by
  unfold gM0
  rw [if_neg h]
theorem m0_z {i : Nat} (h : 24 ≤ i) (h2 : i ≠ 900) : gM0 0 i = 0 := by
  rw [m0_0, if_neg h2, if_neg (by omega)]
theorem m0_lS (k : Nat) (hk : k < 12) : ∀ n : Nat, n ≤ 61 → lS (gM0 0) k n = 0 := by
  intro n
  induction n with
  | zero => intro _; rfl
  | succ n ih =>
    intro hn
    show lS (gM0 0) k n + _ = 0
    rw [ih (by omega), m0_z (by omega) (by omega)]
    rfl
theorem m0_tS : ∀ n : Nat, n ≤ 12 → tS (gM0 0) n = 0 := by
  intro n
  induction n with
  | zero => intro _; rfl
  | succ n ih =>
    intro hn
    show tS (gM0 0) n + _ = 0
    rw [ih (by omega), m0_lS n (by omega) 61 (Nat.le_refl _)]
    rfl
theorem m0_wS : ∀ n : Nat, n ≤ 12 → wS (gM0 0) n = 0 := by
  intro n
  induction n with
  | zero => intro _; rfl
  | succ n ih =>
    intro hn
    show wS (gM0 0) n + _ = 0
    rw [ih (by omega), m0_z (by omega) (by omega)]
    rfl
theorem m0_ice {k : Nat} (hk : k < 12) : fX6_iceOf gM0 k = 0 := by
  unfold fX6_iceOf
  have H : ∀ (n i : Nat) (x : Int32), i + n = 61 → x = 0 → fX6_iceOf_L4 gM0 k n i x = 0 := by
    intro n
    induction n with
    | zero => intro i x _ hx; unfold fX6_iceOf_L4; exact hx
    | succ n ih =>
      intro i x hi hx
      unfold fX6_iceOf_L4
      exact ih _ _ (by omega) (by rw [hx, m0_z (by omega) (by omega)]; rfl)
  exact H 61 0 0 rfl rfl
theorem l0_h {c i : Nat} (h : c = 0 ∨ c = 1) (hi : i < 12) : gL0 c i = 100 := by
  unfold gL0 fill1
  rcases h with rfl | rfl
  · rw [if_pos rfl, if_pos hi]
  · rw [if_neg (by decide), if_pos rfl, if_pos hi]
theorem l0_z {c : Nat} (h0 : c ≠ 0) (h1 : c ≠ 1) (h2 : c ≠ 10) (i : Nat) : gL0 c i = 0 := by
  unfold gL0
  rw [if_neg h0, if_neg h1, if_neg h2]
theorem l0_10 {i : Nat} (h : i ≠ 5) : gL0 10 i = 0 := by
  show (if i = 5 then -1 else 0 : Int32) = 0
  rw [if_neg h]
theorem rel_init : REL 0 gL0 gA0 gF0 gM0 := by
  refine ⟨0, ⟨⟨by omega, ?_⟩, ⟨fun k j hk hj => ?_, ?_⟩, ?_, fun k hk => ?_, ⟨0, by omega, ?_⟩, ?_, ?_⟩, ⟨⟨⟨0, by omega, ?_, fun k hk => ?_, ?_⟩, fun k hk => ?_⟩, fun k hk => ?_, fun k y hk hy => ?_, ?_, ?_⟩, ⟨fun y hy => ?_, fun y hy => ?_, ?_, fun i hi h => ?_⟩, ⟨⟨0, by omega, ?_⟩, ?_, fun f hf h => ?_⟩⟩
  · rw [m0_z (by decide) (by decide)]; rfl
  · rw [m0_z (by omega) (by omega)]; exact Int.le_refl 0
  · rw [m0_tS 12 (Nat.le_refl _)]; omega
  · rw [m0_n (by decide)]; decide
  · rw [m0_0, if_neg (by omega), if_pos (by omega)]
    have e : (100 : Int32).toInt = 100 := by decide
    rw [e]
    omega
  · rw [m0_z (by decide) (by decide)]; rfl
  · rw [m0_n (by decide)]; decide
  · rw [m0_n (by decide)]; decide
  · rw [m0_z (by decide) (by decide)]; rfl
  · rw [m0_z (by omega) (by omega)]; exact Int.le_refl 0
  · rw [m0_wS 12 (Nat.le_refl _)]; omega
  · rw [m0_z (by omega) (by omega), l0_z (by decide) (by decide) (by decide)]; decide
  · rw [m0_0 k, m0_0 (12 + k), m0_z (i := 24 + k) (by omega) (by omega), m0_z (i := 36 + k) (by omega) (by omega), m0_z (i := 48 + k) (by omega) (by omega), m0_z (i := 60 + k) (by omega) (by omega), m0_z (i := 72 + k) (by omega) (by omega), m0_ice hk, l0_h (Or.inl rfl) hk, l0_h (Or.inr rfl) hk, l0_z (c := 2) (by decide) (by decide) (by decide), l0_z (c := 3) (by decide) (by decide) (by decide), l0_z (c := 4) (by decide) (by decide) (by decide), l0_z (c := 5) (by decide) (by decide) (by decide), l0_z (c := 8) (by decide) (by decide) (by decide), if_neg (by omega), if_pos (by omega), if_neg (by omega), if_pos (by omega)]
    exact ⟨rfl, rfl, rfl, rfl, rfl, rfl, rfl⟩
  · rw [m0_z (by omega) (by omega), l0_z (by decide) (by decide) (by decide)]
  · rw [l0_10 (by decide), l0_10 (by decide), l0_10 (by decide), l0_10 (by decide), l0_10 (by decide), m0_z (by decide) (by decide), m0_n (by decide), m0_n (by decide), m0_n (by decide), m0_n (by decide)]
    exact ⟨rfl, rfl, rfl, rfl, rfl⟩
  · rw [l0_z (by decide) (by decide) (by decide), l0_z (by decide) (by decide) (by decide), l0_z (by decide) (by decide) (by decide), l0_z (by decide) (by decide) (by decide), l0_z (by decide) (by decide) (by decide), m0_z (i := 86) (by decide) (by decide), m0_z (i := 87) (by decide) (by decide), m0_z (i := 88) (by decide) (by decide), m0_z (i := 84) (by decide) (by decide), m0_z (i := 85) (by decide) (by decide)]
    exact ⟨rfl, rfl, rfl, rfl, rfl⟩
  · rw [m0_n (by decide)]
    exact ⟨rfl, Or.inl rfl⟩
  · rw [show y = 0 by omega, m0_0, if_pos rfl]
    rfl
  · rw [m0_z (by decide) (by decide)]
    rfl
  · rw [m0_z (by decide) (by decide)] at h
    exact absurd h (nI_pos (by omega))
  · exact m0_n (by decide) 5
  · rw [m0_n (by decide)]
    rfl
  · rw [m0_n (by decide)] at h
    exact absurd h (nI_pos (by omega))
