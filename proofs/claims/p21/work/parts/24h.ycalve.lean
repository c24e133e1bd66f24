theorem snows_all {k : Nat} : ∀ (n : Nat) (v : Int32) (x : zG), n ≤ 61 → (∀ j, j < 61 → 0 ≤ (x 0 (100 + 61 * k + j)).toInt) → v.toInt = lS (x 0) k n → (∀ j, n ≤ j → j < 61 → x 0 (100 + 61 * k + j) = 0) →
    (∀ j, j < 61 → fX6_snows_L182 k n v x 0 (100 + 61 * k + j) = 0) ∧ ∀ i, (i < 100 + 61 * k ∨ 100 + 61 * k + 61 ≤ i) → fX6_snows_L182 k n v x 0 i = x 0 i := by
  intro n
  induction n with
  | zero =>
    intro v x _ _ _ hz
    unfold fX6_snows_L182
    exact ⟨fun j hj => hz j (by omega) hj, fun _ _ => rfl⟩
  | succ n ih =>
    intro v x hn hp hv hz
    have e0 : (0 : Int32).toInt = 0 := rfl
    have hv2 : v.toInt = lS (x 0) k n + (x 0 (100 + 61 * k + n)).toInt := hv
    have hln := lS_pos (S := x 0) (k := k) n (fun j hj => hp j (by omega))
    have ha := hp n (by omega)
    unfold fX6_snows_L182
    by_cases c : v ≤ 0
    · rw [if_pos c]
      rw [fa_le, e0] at c
      refine ⟨fun j hj => ?_, fun _ _ => rfl⟩
      by_cases q : n + 1 ≤ j
      · exact hz j q hj
      · by_cases q2 : j = n
        · subst q2
          exact (fa_eq _ _).mpr (by rw [e0]; omega)
        · have h1 := lS_mono hp n (by omega) j (by omega)
          have h2 := lS_pos (S := x 0) (k := k) j (fun i hi => hp i (by omega))
          have h3 := hp j hj
          exact (fa_eq _ _).mpr (by rw [e0]; omega)
    · rw [if_neg c, jn_eq]
      rw [fa_le, e0] at c
      generalize hw : (if v ≤ x 0 (100 + 61 * k + n) then v else x 0 (100 + 61 * k + n)) = w
      have hwa : w = x 0 (100 + 61 * k + n) := by
        rw [← hw]
        by_cases q : v ≤ x 0 (100 + 61 * k + n)
        · rw [if_pos q]
          rw [fa_le] at q
          exact (fa_eq _ _).mpr (by omega)
        · rw [if_neg q]
      have hr := fb_rng v
      have hvw : (v - w).toInt = lS (x 0) k n := by
        rw [hwa, sub_t (by omega) (by omega)]
        omega
      have hself : x 0 (100 + 61 * k + n) - w = 0 := by rw [hwa, Int32.sub_self]
      rw [hself]
      obtain ⟨r1, r2⟩ := ih (v - w) (va_up x 0 (upd (x 0) (100 + 61 * k + n) 0)) (by omega) (fun j hj => by
        rw [up_t]
        by_cases e : j = n
        · subst e
          rw [pk_us, e0]
          exact Int.le_refl 0
        · rw [pk_un (by omega)]
          exact hp j hj) (by
        rw [hvw, up_t]
        exact (lS_c n (fun j hj => pk_un (by omega))).symm) (fun j h1 h2 => by
        rw [up_t]
        by_cases e : j = n
        · subst e
          exact pk_us
        · rw [pk_un (by omega)]
          exact hz j (by omega) h2)
      exact ⟨r1, fun i hi => by rw [r2 i hi, up_t, pk_un (by omega)]⟩
theorem calv78 (k : Nat) : ∀ (n i : Nat) (x : zG), i + n = 61 → (∀ j, j ≠ 0 → fX6_calves_L78 k n i x j = x j) ∧ (∀ j, i ≤ j → j < 61 → fX6_calves_L78 k n i x 0 (100 + 61 * k + j) = 0) ∧ ∀ q, (q < 100 + 61 * k + i ∨ 100 + 61 * k + 61 ≤ q) → fX6_calves_L78 k n i x 0 q = x 0 q := by
  intro n
  induction n with
  | zero =>
    intro i x hi
    unfold fX6_calves_L78
    exact ⟨fun _ _ => rfl, fun j _ _ => by omega, fun _ _ => rfl⟩
  | succ n ih =>
    intro i x hi
    unfold fX6_calves_L78
    obtain ⟨r1, r2, r3⟩ := ih (i + 1) (va_up x 0 (upd (x 0) (100 + 61 * k + i) 0)) (by omega)
    refine ⟨fun j hj => by rw [r1 j hj, up_n hj], fun j h1 h2 => ?_, fun q hq => by rw [r3 q (by omega), up_t, pk_un (by omega)]⟩
    by_cases e : j = i
    · subst e
      rw [r3 _ (by omega), up_t, pk_us]
    · exact r2 j (by omega) h2
theorem calv_0 (n : Nat) (x : zG) : fX6_calves_L5 n 0 x = x := by
  cases n with
  | zero => unfold fX6_calves_L5; rfl
  | succ n => unfold fX6_calves_L5; rw [if_pos rfl]
/-- all ice of cell k goes -/
theorem calv_all {o : Nat → Int32} {x y : zG} {k b : Nat} (hk : k < 12) (h : YR o x y) (hm : ML (y 0) b) (hb : b ≤ 1000000) : YR o (va_up (va_up (va_up x 11 (upd (x 11) 4 (x 11 4 + fX6_iceOf y k))) 8 (fX1_takeLatest (x 8) (x 9) k (fX6_iceOf y k)).1) 9 (fX1_takeLatest (x 8) (x 9) k (fX6_iceOf y k)).2) (fX6_calves_L78 k 61 0 (va_up y 0 (upd (y 0) 85 (y 0 85 + fX6_iceOf y k)))) ∧ ML (fX6_calves_L78 k 61 0 (va_up y 0 (upd (y 0) 85 (y 0 85 + fX6_iceOf y k))) 0) b ∧ (∀ q, (q < 100 ∨ 832 ≤ q) → q ≠ 85 → fX6_calves_L78 k 61 0 (va_up y 0 (upd (y 0) 85 (y 0 85 + fX6_iceOf y k))) 0 q = y 0 q) := by
  obtain ⟨h1, h2, h3, ⟨s0, s2, s3, s4⟩, s1⟩ := id h
  obtain ⟨r1, r2, r3⟩ := calv78 k 61 0 (va_up y 0 (upd (y 0) 85 (y 0 85 + fX6_iceOf y k))) rfl
  obtain ⟨t1, t2, t3⟩ := take_eq hk 61 (fX6_iceOf y k) (x 8) (x 9) y (Nat.le_refl _) h2
  obtain ⟨a1, a2⟩ := snows_all (k := k) 61 (fX6_iceOf y k) y (Nat.le_refl _) (fun j hj => hm.1 k j hk hj) (iceOf_t hm hk (by omega)) (fun j _ _ => by omega)
  generalize fX6_calves_L78 k 61 0 (va_up y 0 (upd (y 0) 85 (y 0 85 + fX6_iceOf y k))) = G at r1 r2 r3 ⊢
  have g1 : ∀ q, (q < 100 + 61 * k ∨ 100 + 61 * k + 61 ≤ q) → q ≠ 85 → G 0 q = y 0 q := fun q p1 p2 => by
    rw [r3 q (by omega), up_t, pk_un p2]
  have g85 : G 0 85 = y 0 85 + fX6_iceOf y k := by rw [r3 85 (by omega), up_t, pk_us]
  have e0 : (0 : Int32).toInt = 0 := rfl
  have hl : LR (fX1_takeLatest (x 8) (x 9) k (fX6_iceOf y k)).1 (fX1_takeLatest (x 8) (x 9) k (fX6_iceOf y k)).2 G := by
    refine lr_c t1 (fun i p1 p2 => ?_)
    by_cases q : i < 100 + 61 * k ∨ 100 + 61 * k + 61 ≤ i
    · rw [g1 i q (by omega), a2 i q]
    · have e1 := r2 (i - (100 + 61 * k)) (by omega) (by omega)
      have e2 := a1 (i - (100 + 61 * k)) (by omega)
      rw [show 100 + 61 * k + (i - (100 + 61 * k)) = i by omega] at e1 e2
      rw [e1, e2]
  have hz : lS (G 0) k 61 = 0 := by
    have H : ∀ n : Nat, n ≤ 61 → lS (G 0) k n = 0 := by
      intro n
      induction n with
      | zero => intro _; rfl
      | succ n ih =>
        intro hn
        show lS (G 0) k n + _ = 0
        rw [ih (by omega), r2 n (by omega) (by omega)]
        rfl
    exact H 61 (Nat.le_refl _)
  refine ⟨⟨fun c hc => ?_, hl, ?_, ⟨?_, ?_, ?_, ?_⟩, ?_⟩, ⟨fun c j hc hj => ?_, ?_⟩, fun q p1 p2 => g1 q (by omega) p2⟩
  · rw [g1 c (by omega) (by omega), g1 (12 + c) (by omega) (by omega), g1 (24 + c) (by omega) (by omega), g1 (36 + c) (by omega) (by omega)]
    exact h1 c hc
  · rw [g1 89 (by omega) (by omega), r1 10 (by decide)]
    exact h3
  · rw [g1 86 (by omega) (by omega), up_n (by decide), up_n (by decide), up_t, pk_un (by decide)]; exact s0
  · rw [g1 88 (by omega) (by omega), up_n (by decide), up_n (by decide), up_t, pk_un (by decide)]; exact s2
  · rw [g1 84 (by omega) (by omega), up_n (by decide), up_n (by decide), up_t, pk_un (by decide)]; exact s3
  · rw [g85, up_n (by decide), up_n (by decide), up_t, pk_us, s4, Int32.add_assoc, Int32.add_comm (o 4), ← Int32.add_assoc]
  · rw [g1 87 (by omega) (by omega), up_n (by decide), up_n (by decide), up_t, pk_un (by decide)]; exact s1
  · by_cases e : c = k
    · subst e
      rw [r2 j (by omega) hj, e0]
      exact Int.le_refl 0
    · rw [g1 _ (by omega) (by omega)]
      exact hm.1 c j hc hj
  · have hle : ∀ n : Nat, n ≤ 12 → tS (G 0) n ≤ tS (y 0) n := by
      intro n
      induction n with
      | zero => intro _; exact Int.le_refl 0
      | succ n ih =>
        intro hn
        show tS (G 0) n + lS (G 0) n 61 ≤ tS (y 0) n + lS (y 0) n 61
        have h9 := ih (by omega)
        have hp := ml_cell hm (k := n) (by omega)
        by_cases e : n = k
        · subst e
          omega
        · have e2 : lS (G 0) n 61 = lS (y 0) n 61 := lS_c 61 (fun j hj => g1 _ (by omega) (by omega))
          omega
    have := hle 12 (Nat.le_refl _)
    have := hm.2
    omega
theorem year_calve {o : Nat → Int32} {gP g : zG} {b : Nat} (h : YR o gP g) (hm : ML (g 0) b) (hb : b ≤ 1000000) : YR o (fX3_calve gP) (fX6_calves g) ∧ (∀ j, j ≠ 8 → j ≠ 9 → j ≠ 11 → fX3_calve gP j = gP j) ∧ ∀ q, (q < 100 ∨ 832 ≤ q) → q ≠ 85 → fX6_calves g 0 q = g 0 q := by
  have H : ∀ (n : Nat) (x y : zG), n ≤ 12 → YR o x y → ML (y 0) b → YR o (fX3_calve_L3 n x) (fX6_calves_L5 n 1 y) ∧ (∀ j, j ≠ 8 → j ≠ 9 → j ≠ 11 → fX3_calve_L3 n x j = x j) ∧ ∀ q, (q < 100 ∨ 832 ≤ q) → q ≠ 85 → fX6_calves_L5 n 1 y 0 q = y 0 q := by
    intro n
    induction n with
    | zero => intro x y _ h hm; unfold fX3_calve_L3 fX6_calves_L5; exact ⟨h, fun _ _ _ _ => rfl, fun _ _ _ => rfl⟩
    | succ n ih =>
      intro x y hn h hm
      have hk : n < 12 := by omega
      have hs := sea_eq h hk
      have hi := h.2.1.1 n hk
      have hbed := (h.1 n hk).1
      have hlev := h.2.2.1.2.1
      have hit := iceOf_t hm hk (by omega)
      have hic := ml_cell hm hk
      have e0 : (0 : Int32).toInt = 0 := rfl
      obtain ⟨y1, y2, y3⟩ := calv_all hk h hm hb
      obtain ⟨i1, i2, i3⟩ := ih _ _ (by omega) y1 y2
      unfold fX3_calve_L3 fX6_calves_L5
      simp only [jn_eq, hs, hi, hbed, hlev, Nat.zero_add, if_neg (show ¬ (1 : Int32) = 0 by decide)]
      by_cases c1 : fX6_isInSea y n = 0
      · simp only [if_pos c1, if_pos (show (0 : Int32) = 0 from rfl), calv_0]
        exact ⟨h, fun _ _ _ _ => trivial, fun _ _ _ => rfl⟩
      · simp only [if_neg c1]
        have fin : ∀ j, j ≠ 8 → j ≠ 9 → j ≠ 11 → fX3_calve_L3 n (va_up (va_up (va_up x 11 (upd (x 11) 4 (x 11 4 + fX6_iceOf y n))) 8 (fX1_takeLatest (x 8) (x 9) n (fX6_iceOf y n)).1) 9 (fX1_takeLatest (x 8) (x 9) n (fX6_iceOf y n)).2) j = x j := fun j a b2 c => by rw [i2 j a b2 c, up_n b2, up_n a, up_n c]
        by_cases c2 : fX6_iceOf y n ≤ 0
        · have z : fX6_iceOf y n = 0 := by
            rw [fa_le, e0] at c2
            exact (fa_eq _ _).mpr (by omega)
          simp only [if_pos c2, if_pos z, if_neg (show ¬ (1 : Int32) = 0 by decide)]
          exact ⟨i1, fin, fun q p1 p2 => by rw [i3 q p1 p2, y3 q p1 p2]⟩
        · have z : ¬ fX6_iceOf y n = 0 := fun q => c2 (by rw [q]; decide)
          simp only [if_neg c2, if_neg z]
          by_cases c3 : 10 * (y 10 1 - y 0 n) ≤ 9 * fX6_iceOf y n
          · have c4 : ¬ 9 * fX6_iceOf y n < 10 * (y 10 1 - y 0 n) := by
              rw [fa_lt]
              rw [fa_le] at c3
              omega
            simp only [if_pos c3, if_neg c4, if_neg (show ¬ (1 : Int32) = 0 by decide), if_pos (show (0 : Int32) = 0 from rfl), calv_0]
            exact ⟨h, fun _ _ _ _ => trivial, fun _ _ _ => rfl⟩
          · have c4 : 9 * fX6_iceOf y n < 10 * (y 10 1 - y 0 n) := fa_of_nle c3
            simp only [if_neg c3, if_pos c4, if_neg (show ¬ (1 : Int32) = 0 by decide), if_pos (show (0 : Int32) = 0 from rfl)]
            exact ⟨i1, fin, fun q p1 p2 => by rw [i3 q p1 p2, y3 q p1 p2]⟩
  exact H 12 gP g (Nat.le_refl _) h hm
