/-- one year of the class beside one year of the reference -/
theorem year_all {o : Nat → Int32} {gP g : zG} {b yr fb bb : Nat} (h : YR o gP g) (hm : MP g b yr fb bb) (hy : yr < 60) (hb : b + 240 ≤ 1000000) (hfb : fb + 12 ≤ 720) (hbb : bb + 1 ≤ 1000) :
    YR o (fX3_goThroughYear gP) (fX6_passes g 1) ∧ YS 12 (fX3_goThroughYear gP) (fX6_passes g 1) ∧ YG 12 (fX3_goThroughYear gP) (fX6_passes g 1) ∧ fX3_goThroughYear gP 10 5 = fX6_passes g 1 0 (900 + (yr + 1)) ∧ (∀ y, y ≤ yr → fX6_passes g 1 0 (900 + y) = g 0 (900 + y)) ∧ FE (fX6_passes g 1) (fbl (fX3_goThroughYear gP 7) (nI (yr + 1)) 12 0 g) := by
  have m1 := mp_year1 hm hy
  have Y1 : YR o (va_up gP 10 (upd (gP 10) 0 (gP 10 0 + 1))) (va_up g 0 (upd (g 0) 89 (g 0 89 + 1))) := by
    obtain ⟨h1, h2, h3, ⟨s0, s2, s3, s4⟩, s1⟩ := h
    have t : ∀ i, i ≠ 89 → va_up g 0 (upd (g 0) 89 (g 0 89 + 1)) 0 i = g 0 i := fun i q => by rw [up_t, pk_un q]
    refine ⟨fun c hc => ?_, lr_c h2 (fun i p q => t i (by omega)), ?_, ⟨?_, ?_, ?_, ?_⟩, ?_⟩
    · rw [t c (by omega), t (12 + c) (by omega), t (24 + c) (by omega), t (36 + c) (by omega)]
      exact h1 c hc
    · rw [up_t, up_t, pk_us, pk_us, pk_un (by decide), pk_un (by decide), pk_un (by decide), pk_un (by decide), h3.1]
      exact ⟨rfl, h3.2⟩
    · rw [t 86 (by decide)]; exact s0
    · rw [t 88 (by decide)]; exact s2
    · rw [t 84 (by decide)]; exact s3
    · rw [t 85 (by decide)]; exact s4
    · rw [t 87 (by decide)]; exact s1
  obtain ⟨x1, a1, a2, a3, a4, a5, a6⟩ := sL (b := b) hb (by omega) 12 0 _ _ rfl Y1 m1 (fun c hc => by omega)
  have e2 : fX6_snows_L2 12 0 (va_up g 0 (upd (g 0) 89 (g 0 89 + 1))) = fX6_snows (va_up g 0 (upd (g 0) 89 (g 0 89 + 1))) := by unfold fX6_snows; rfl
  rw [e2] at a2 a3 a4 a5 a6
  generalize hg2 : fX6_snows (va_up g 0 (upd (g 0) 89 (g 0 89 + 1))) = g2 at a2 a3 a4 a5 a6
  obtain ⟨b1, b2, b3, b4⟩ := year_flow a2 a3 hb (by omega)
  have m3 := mp_flows a3 hb (by omega)
  have j3 := fun (j : Nat) (p : j ≠ 0) (q : j ≠ 9) => flows_j p q g2
  generalize hg3 : fX6_flows g2 = g3 at b1 b2 b4 m3 j3
  obtain ⟨x2, c1, c2, c3, c4⟩ := rL 12 0 _ _ rfl b1
  have e4 : fX6_runs_L2 12 0 g3 = fX6_runs g3 := by unfold fX6_runs; rfl
  rw [e4] at c2 c4
  have m4 := mp_runs m3
  have j4 := fun (j : Nat) (p : j ≠ 0) => runs_j p g3
  generalize hg4 : fX6_runs g3 = g4 at c2 c4 m4 j4
  have f4 : FE g4 g := by
    refine ⟨?_, ?_, ?_, ?_⟩
    · rw [j4 3 (by decide), j3 3 (by decide) (by decide), a6 3 (by decide), up_n (by decide)]
    · rw [j4 4 (by decide), j3 4 (by decide) (by decide), a6 4 (by decide), up_n (by decide)]
    · rw [j4 5 (by decide), j3 5 (by decide) (by decide), a6 5 (by decide), up_n (by decide)]
    · rw [c4 90 (by omega) (by omega), b4 90 (by omega), a5 90 (by omega), up_t, pk_un (by decide)]
  obtain ⟨x3, d1, d2, d3, d4, -, d6⟩ := bL (yI := nI (yr + 1)) 12 0 _ _ g rfl c2 m4.1.2 f4
  have e5 : fX6_breaks_L2 12 0 g4 = fX6_breaks g4 := by unfold fX6_breaks; rfl
  rw [e5] at d2 d4 d6
  have m5 := mp_breaks m4 hfb
  generalize hg5 : fX6_breaks g4 = g5 at d2 d4 d6 m5
  obtain ⟨k1, k2, k3⟩ := year_calve d2 m5.2.1 hb
  have m6 := mp_calves m5 hb
  have j6 := fun (j : Nat) (p : j ≠ 0) => calves_j p g5
  generalize hg6 : fX6_calves g5 = g6 at k1 k3 m6 j6
  obtain ⟨l1, l2, l3, l4⟩ := year_ends m6.1.2 (by omega) k1 m6.2.1 hb
  have eQ : fX3_goThroughYear gP = fX3_goThroughYear_L77 12 0 (fX3_calve x3) := by
    unfold fX3_goThroughYear
    rw [a1, c1, d1]
  have eG : fX6_passes g 1 = fX6_ends g6 := by
    unfold fX6_passes fX6_passes_L2
    simp only [jn_eq]
    rw [hg2, hg3, hg4, hg5, hg6]
    unfold fX6_passes_L2
    rfl
  rw [eQ, eG]
  have q4 : fX3_goThroughYear_L77 12 0 (fX3_calve x3) 4 = x1 4 := by
    rw [l3 4 (by decide) (by decide) (by decide), k2 4 (by decide) (by decide) (by decide), d3 4 (by decide) (by decide) (by decide), c3 4 (by decide) (by decide), b3 4 (by decide) (by decide) (by decide) (by decide)]
  have q5 : fX3_goThroughYear_L77 12 0 (fX3_calve x3) 5 = fX3_flow x1 5 := by
    rw [l3 5 (by decide) (by decide) (by decide), k2 5 (by decide) (by decide) (by decide), d3 5 (by decide) (by decide) (by decide), c3 5 (by decide) (by decide)]
  have q7 : fX3_goThroughYear_L77 12 0 (fX3_calve x3) 7 = x3 7 := by
    rw [l3 7 (by decide) (by decide) (by decide), k2 7 (by decide) (by decide) (by decide)]
  have i3 : ∀ i, 48 ≤ i → i < 84 → fX6_ends g6 0 i = g3 0 i := fun i p q => by
    rw [l4 i (by omega) p, k3 i (by omega) (by omega), d4 i (by omega) (by omega) (by omega), c4 i (by omega) (by omega)]
  refine ⟨l1, fun c hc => ?_, fun c hc => ?_, l2, fun y hy9 => ?_, ?_⟩
  · rw [q4, i3 (48 + c) (by omega) (by omega), b4 (48 + c) (by omega)]
    exact a4 c hc
  · rw [q5, i3 (60 + c) (by omega) (by omega), i3 (72 + c) (by omega) (by omega)]
    exact b2 c hc
  · rw [l4 (900 + y) (by omega) (by omega), k3 (900 + y) (by omega) (by omega), d4 (900 + y) (by omega) (by omega) (by omega), c4 (900 + y) (by omega) (by omega), b4 (900 + y) (by omega), a5 (900 + y) (by omega), up_t, pk_un (by omega)]
  · rw [q7]
    obtain ⟨f1, f2, f3, f9⟩ := d6
    refine ⟨?_, ?_, ?_, ?_⟩
    · rw [ends_j (by decide), j6 3 (by decide)]; exact f1
    · rw [ends_j (by decide), j6 4 (by decide)]; exact f2
    · rw [ends_j (by decide), j6 5 (by decide)]; exact f3
    · rw [l4 90 (by omega) (by omega), k3 90 (by omega) (by omega)]; exact f9
