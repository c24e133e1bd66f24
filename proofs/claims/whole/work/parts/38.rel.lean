/-! the class's state beside the reference's, after n calls -/
def RELc (gP gA gF g : zG) : Prop :=
  (∀ k, k < 12 → 0 ≤ (g 0 (24 + k)).toInt) ∧
  (∀ k, k < 12 → gP 0 k = g 0 k ∧ gP 1 k = g 0 (12 + k) ∧ gP 2 k = g 0 (24 + k) ∧ gP 3 k = g 0 (36 + k) ∧ gP 4 k = g 0 (48 + k) ∧ gP 5 k = g 0 (60 + k) - g 0 (72 + k) ∧ gP 8 k = fX6_iceOf g k) ∧
  (∀ k y, k < 12 → y < 61 → gP 9 (k * 61 + y) = g 0 (100 + 61 * k + y)) ∧
  (gP 10 0 = g 0 89 ∧ gP 10 1 = g 10 1 ∧ gP 10 2 = g 10 2 ∧ gP 10 3 = g 10 3 ∧ gP 10 4 = g 10 4) ∧
  (gP 11 0 = g 0 86 ∧ gP 11 1 = g 0 87 ∧ gP 11 2 = g 0 88 ∧ gP 11 3 = g 0 84 ∧ gP 11 4 = g 0 85)
def RELa (yr : Nat) (gA g : zG) : Prop :=
  (∀ y, y < 61 → gA 0 y = g 2 y ∧ (g 2 y = 0 ∨ g 2 y = 1)) ∧ (∀ y, y ≤ yr → gA 1 y = g 0 (900 + y)) ∧ gA 6 0 = g 0 90 ∧
  ∀ i, i < 720 → nI i < g 0 90 → gA 3 i = g 3 i ∧ gA 4 i = g 4 i ∧ gA 5 i = g 5 i
def RELf (gP gA gF g : zG) : Prop := (∃ fl, fl ≤ 10 ∧ g 10 5 = nI fl) ∧ gF 2 0 = g 10 5 ∧
  ∀ f, f < 10 → nI f < g 10 5 → gF 0 f = g 6 f ∧ gF 1 f = g 7 f ∧ vp_in (gF 0 f) 61 ∧ g 8 f = (if gF 0 f ≤ gP 10 0 then (if 0 ≤ gF 1 f - gA 2 (gF 0 f).toNatClampNeg then gF 1 f - gA 2 (gF 0 f).toNatClampNeg else 0 - (gF 1 f - gA 2 (gF 0 f).toNatClampNeg)) else -1)
def REL (n : Nat) (gP gA gF g : zG) : Prop := ∃ yr : Nat, MP g (999 * n + 240 * yr) yr (12 * yr) yr ∧ RELc gP gA gF g ∧ RELa yr gA g ∧ RELf gP gA gF g
theorem rel_mp {n : Nat} {gP gA gF g : zG} (h : REL n gP gA gF g) : ∃ yr : Nat, MP g (999 * n + 240 * yr) yr (12 * yr) yr := by
  obtain ⟨yr, h1, -⟩ := h
  exact ⟨yr, h1⟩
theorem rel_ash {n : Nat} {gP gA gF g : zG} (h : REL n gP gA gF g) : ∀ i, i < 61 → g 2 i = 0 ∨ g 2 i = 1 := by
  obtain ⟨yr, -, -, h1, -⟩ := h
  exact fun i hi => (h1.1 i hi).2
theorem rel_fc {n : Nat} {gP gA gF g : zG} (h : REL n gP gA gF g) : ∃ fl, fl ≤ 10 ∧ g 10 5 = nI fl := by
  obtain ⟨yr, -, -, -, h1⟩ := h
  exact h1.1
theorem mp_mono {g : zG} {b b1 yr fb bb : Nat} (h : MP g b yr fb bb) (hb : b ≤ b1) : MP g b1 yr fb bb :=
  ⟨h.1, ⟨h.2.1.1, by have := h.2.1.2; omega⟩, h.2.2⟩
theorem rel_skip {n : Nat} {gP gA gF g : zG} (h : REL n gP gA gF g) : REL (n + 1) gP gA gF g := by
  obtain ⟨yr, h1, h2⟩ := h
  exact ⟨yr, mp_mono h1 (by omega), h2⟩
theorem rel_init : REL 0 gL0 gA0 gF0 gM0 := by
  sorry
