/-- floods noted: the class's list beside the reference's -/
def NR (fl : Nat) (x z : zG) : Prop := z 0 90 = nI fl ∧ x 6 0 = nI fl ∧ ∀ i, i < fl → x 3 i = z 3 i ∧ x 4 i = z 4 i ∧ x 5 i = z 5 i
theorem note_L {gQ : zG} {yI : Int32} (hy : gQ 10 0 = yI) : ∀ (n k fl : Nat) (x z : zG), k + n = 12 → fl + n ≤ 720 → NR fl x z → (∃ f1, f1 ≤ fl + n ∧ NR f1 (fX0_note_L31 gQ n k x) (fbl (gQ 7) yI n k z)) ∧ (∀ j, j ≠ 3 → j ≠ 4 → j ≠ 5 → j ≠ 6 → fX0_note_L31 gQ n k x j = x j) := by
  intro n
  induction n with
  | zero =>
    intro k fl x z _ _ h
    unfold fX0_note_L31 fbl
    exact ⟨⟨fl, by omega, h⟩, fun _ _ _ _ _ => rfl⟩
  | succ n ih =>
    intro k fl x z hk hfl h
    unfold fX0_note_L31 fbl
    have e0 : (0 : Int32).toInt = 0 := rfl
    by_cases c : gQ 7 k ≤ 0
    · have c2 : ¬ 0 < gQ 7 k := by
        rw [fa_le, e0] at c
        rw [fa_lt, e0]
        omega
      rw [if_pos c, if_neg c2]
      obtain ⟨⟨f1, q1, q2⟩, q3⟩ := ih (k + 1) fl x z (by omega) (by omega) h
      exact ⟨⟨f1, by omega, q2⟩, q3⟩
    · have c2 : 0 < gQ 7 k := by
        rw [fa_le, e0] at c
        rw [fa_lt, e0]
        omega
      obtain ⟨h1, h2, h3⟩ := h
      have e720 : (720 : Int32).toInt = 720 := by decide
      have c3 : ¬ 720 ≤ x 6 0 := by
        rw [h2, fa_le, e720, nI_toInt (by omega)]
        omega
      rw [if_neg c, if_neg c3, if_pos c2]
      have ec : (nI fl).toNatClampNeg = fl := nI_clamp (by omega)
      rw [h1, h2, ec, hy]
      obtain ⟨⟨f1, q1, q2⟩, q3⟩ := ih (k + 1) (fl + 1) (va_up (va_up (va_up (va_up x 3 (upd (x 3) fl yI)) 4 (upd (x 4) fl (nI k))) 5 (upd (x 5) fl (gQ 7 k))) 6 (upd (x 6) 0 (nI fl + 1))) (va_up (va_up (va_up (va_up z 3 (upd (z 3) fl yI)) 4 (upd (z 4) fl (nI k))) 5 (upd (z 5) fl (gQ 7 k))) 0 (upd (z 0) 90 (nI fl + 1))) (by omega) (by omega) (by
        refine ⟨?_, ?_, fun i hi => ?_⟩
        · rw [up_t, pk_us]
          exact nI_1 fl
        · rw [up_t, pk_us]
          exact nI_1 fl
        · show upd (x 3) fl yI i = upd (z 3) fl yI i ∧ upd (x 4) fl (nI k) i = upd (z 4) fl (nI k) i ∧ upd (x 5) fl (gQ 7 k) i = upd (z 5) fl (gQ 7 k) i
          by_cases e : i = fl
          · subst e
            rw [pk_us, pk_us, pk_us, pk_us, pk_us, pk_us]
            exact ⟨rfl, rfl, rfl⟩
          · rw [pk_un e, pk_un e, pk_un e, pk_un e, pk_un e, pk_un e]
            exact h3 i (by omega))
      exact ⟨⟨f1, by omega, q2⟩, fun j a b c d => by rw [q3 j a b c d, up_n d, up_n c, up_n b, up_n a]⟩
theorem note_eq {gA g G gQ : zG} {yr fl : Nat} (hyr : yr < 60) (h : RELa yr gA g) (hfl : fl ≤ 12 * yr) (h90 : g 0 90 = nI fl) (hq0 : gQ 10 0 = nI (yr + 1)) (hq5 : gQ 10 5 = G 0 (900 + (yr + 1))) (h2 : G 2 = g 2) (hfr : ∀ y, y ≤ yr → G 0 (900 + y) = g 0 (900 + y)) (hF : FE G (fbl (gQ 7) (nI (yr + 1)) 12 0 g)) : RELa (yr + 1) (fX0_note gA gQ) G ∧ (∀ y, y ≠ yr + 1 → fX0_note gA gQ 2 y = gA 2 y) ∧ fX0_note gA gQ 2 (yr + 1) = fX1_allIce (gQ 8) (gQ 9) := by
  obtain ⟨a1, a2, a3, a4⟩ := h
  have ec : (gQ 10 0).toNatClampNeg = yr + 1 := by rw [hq0]; exact nI_clamp (by omega)
  unfold fX0_note
  rw [ec, hq5]
  obtain ⟨⟨f1, q1, q2, q3, q4⟩, q5⟩ := note_L hq0 12 0 fl (va_up (va_up gA 1 (upd (gA 1) (yr + 1) (G 0 (900 + (yr + 1))))) 2 (upd (gA 2) (yr + 1) (fX1_allIce (gQ 8) (gQ 9)))) g rfl (by omega) (by
    refine ⟨h90, ?_, fun i hi => ?_⟩
    · show gA 6 0 = nI fl
      rw [a3]
      exact h90
    · exact a4 i (by omega) (by rw [h90]; exact nI_lt hi (by omega)))
  obtain ⟨g3, g4, g5, g9⟩ := hF
  refine ⟨⟨fun y hy => ?_, fun y hy => ?_, ?_, fun i hi hc => ?_⟩, fun y hy => ?_, ?_⟩
  · rw [q5 0 (by decide) (by decide) (by decide) (by decide), up_n (by decide), up_n (by decide), h2]
    exact a1 y hy
  · rw [q5 1 (by decide) (by decide) (by decide) (by decide), up_n (by decide), up_t]
    by_cases e : y = yr + 1
    · subst e
      exact pk_us
    · rw [pk_un e, hfr y (by omega)]
      exact a2 y (by omega)
  · rw [q3, g9, q2]
  · rw [g3, g4, g5]
    rw [g9, q2] at hc
    exact q4 i ((nI_ltI (by omega) (by omega)).mp hc)
  · rw [q5 2 (by decide) (by decide) (by decide) (by decide), up_t, pk_un hy]
  · rw [q5 2 (by decide) (by decide) (by decide) (by decide), up_t, pk_us]
