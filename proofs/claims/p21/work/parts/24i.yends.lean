/-- the front: the last cell with ice -/
def fr (f : Nat → Int32) : Nat → Nat → Int32 → Int32
  | 0, _, v => v
  | n + 1, k, v => fr f n (k + 1) (if f k ≤ 0 then v else nI k)
theorem fr_c {f f1 : Nat → Int32} : ∀ (n k : Nat) (v : Int32), (∀ c, k ≤ c → c < k + n → f1 c = f c) → fr f1 n k v = fr f n k v := by
  intro n
  induction n with
  | zero => intro k v _; rfl
  | succ n ih =>
    intro k v h
    show fr f1 n (k + 1) (if f1 k ≤ 0 then v else nI k) = fr f n (k + 1) (if f k ≤ 0 then v else nI k)
    rw [h k (Nat.le_refl _) (by omega)]
    exact ih (k + 1) _ (fun c a b => h c (by omega) (by omega))
theorem fr_in {f : Nat → Int32} : ∀ (n k : Nat) (v : Int32), k + n = 12 → (v = -1 ∨ ∃ c, c < 12 ∧ v = nI c) → (fr f n k v = -1 ∨ ∃ c, c < 12 ∧ fr f n k v = nI c) := by
  intro n
  induction n with
  | zero => intro k v _ h; exact h
  | succ n ih =>
    intro k v hk h
    refine ih (k + 1) _ (by omega) ?_
    split
    · exact h
    · exact Or.inr ⟨k, by omega, rfl⟩
theorem move_step {o : Nat → Int32} {x y : zG} {k b : Nat} {v : Int32} (hk : k < 12) (h : YR o x y) (hm : ML (y 0) b) (hb : b ≤ 1000000) : YR o (fX3_moveBed x k) (mEnd k v y).2 ∧ (∀ j, j ≠ 0 → fX3_moveBed x k j = x j) ∧ (∀ i, 12 ≤ i → (mEnd k v y).2 0 i = y 0 i) ∧ (mEnd k v y).1 = (if x 8 k ≤ 0 then v else nI k) ∧ ∀ j, j ≠ 0 → (mEnd k v y).2 j = y j := by
  obtain ⟨h1, h2, h3, ⟨s0, s2, s3, s4⟩, s1⟩ := id h
  have hi := h2.1 k hk
  have hit := iceOf_t hm hk (by omega)
  have hic := ml_cell hm hk
  have hbed := (h1 k hk).1
  have hbase := (h1 k hk).2.1
  have F : ∀ (x1 : zG) (d : Int32), (∀ j, j ≠ 0 → x1 j = x j) → (∀ c, c ≠ k → x1 0 c = x 0 c) → x1 0 k = x 0 k + d → YR o x1 (va_up y 0 (upd (y 0) k (y 0 k + d))) := by
    intro x1 d e1 e2 e3
    have t : ∀ i, i ≠ k → va_up y 0 (upd (y 0) k (y 0 k + d)) 0 i = y 0 i := fun i q => by rw [up_t, pk_un q]
    refine ⟨fun c hc => ?_, ?_, ?_, ⟨?_, ?_, ?_, ?_⟩, ?_⟩
    · rw [e1 1 (by decide), e1 2 (by decide), e1 3 (by decide), t (12 + c) (by omega), t (24 + c) (by omega), t (36 + c) (by omega)]
      refine ⟨?_, (h1 c hc).2⟩
      by_cases e : c = k
      · subst e
        rw [e3, up_t, pk_us, hbed]
      · rw [e2 c e, t c e]
        exact (h1 c hc).1
    · rw [e1 8 (by decide), e1 9 (by decide)]
      exact lr_c h2 (fun i p _ => t i (by omega))
    · rw [e1 10 (by decide), t 89 (by omega)]
      exact h3
    · rw [e1 11 (by decide), t 86 (by omega)]; exact s0
    · rw [e1 11 (by decide), t 88 (by omega)]; exact s2
    · rw [e1 11 (by decide), t 84 (by omega)]; exact s3
    · rw [e1 11 (by decide), t 85 (by omega)]; exact s4
    · rw [e1 11 (by decide), t 87 (by omega)]; exact s1
  unfold fX3_moveBed mEnd
  simp only [jn_eq, hi, div_eq _ 3 (show 0 ≤ (fX6_iceOf y k).toInt by omega) (by decide), Nat.zero_add, hbase]
  generalize y 0 (12 + k) - fX6_iceOf y k / 3 = w
  by_cases c1 : w ≤ x 0 k
  · have c1' : w ≤ y 0 k := by rw [← hbed]; exact c1
    simp only [if_pos c1, if_pos c1']
    by_cases c2 : x 0 k ≤ w
    · have c2' : y 0 k ≤ w := by rw [← hbed]; exact c2
      simp only [if_pos c2, if_pos c2']
      exact ⟨F x 0 (fun _ _ => rfl) (fun _ _ => rfl) (Int32.add_zero _).symm, fun _ _ => trivial, fun i hi => by rw [up_t, pk_un (by omega)], trivial, fun j hj => up_n hj⟩
    · have c2' : ¬ y 0 k ≤ w := by rw [← hbed]; exact c2
      simp only [if_neg c2, if_neg c2']
      exact ⟨F _ (-1) (fun j hj => up_n hj) (fun c hc => by rw [up_t, pk_un hc]) (by rw [up_t, pk_us]; exact sub_neg _ _), fun j hj => up_n hj, fun i hi => by rw [up_t, pk_un (by omega)], trivial, fun j hj => up_n hj⟩
  · have c1' : ¬ w ≤ y 0 k := by rw [← hbed]; exact c1
    simp only [if_neg c1, if_neg c1']
    exact ⟨F _ 1 (fun j hj => up_n hj) (fun c hc => by rw [up_t, pk_un hc]) (by rw [up_t, pk_us]), fun j hj => up_n hj, fun i hi => by rw [up_t, pk_un (by omega)], trivial, fun j hj => up_n hj⟩
theorem mark_L : ∀ (n k : Nat) (x : zG), k + n = 12 → fX3_markFront_L7 n k x = fX3_markFront_L7 0 12 (va_up x 10 (upd (x 10) 5 (fr (x 8) n k (x 10 5)))) := by
  intro n
  induction n with
  | zero =>
    intro k x hk
    have e : va_up x 10 (upd (x 10) 5 (fr (x 8) 0 k (x 10 5))) = x := by
      funext j
      by_cases q : j = 10
      · subst q
        rw [up_t]
        funext i
        show upd (x 10) 5 (x 10 5) i = _
        by_cases q2 : i = 5
        · subst q2
          exact pk_us
        · rw [pk_un q2]
      · rw [up_n q]
    rw [e]
    unfold fX3_markFront_L7
    rfl
  | succ n ih =>
    intro k x hk
    conv => lhs; unfold fX3_markFront_L7
    show _ = fX3_markFront_L7 0 12 (va_up x 10 (upd (x 10) 5 (fr (x 8) n (k + 1) (if x 8 k ≤ 0 then x 10 5 else nI k))))
    by_cases c : x 8 k ≤ 0
    · rw [if_pos c, if_pos c]
      exact ih (k + 1) x (by omega)
    · rw [if_neg c, if_neg c, ih (k + 1) _ (by omega)]
      congr 1
      funext j
      by_cases q : j = 10
      · subst q
        rw [up_t, up_t, up_t, up_n (by decide), pk_us]
        funext i
        by_cases q2 : i = 5
        · subst q2
          rw [pk_us, pk_us]
        · rw [pk_un q2, pk_un q2, pk_un q2]
      · rw [up_n q, up_n q, up_n q]
theorem year_ends {o : Nat → Int32} {gP g : zG} {b yr : Nat} (hy : g 0 89 = nI yr) (hy60 : yr ≤ 60) (h : YR o gP g) (hm : ML (g 0) b) (hb : b ≤ 1000000) : YR o (fX3_goThroughYear_L77 12 0 gP) (fX6_ends g) ∧ fX3_goThroughYear_L77 12 0 gP 10 5 = fX6_ends g 0 (900 + yr) ∧ (∀ j, j ≠ 0 → j ≠ 3 → j ≠ 10 → fX3_goThroughYear_L77 12 0 gP j = gP j) ∧ ∀ i, i ≠ 900 + yr → 48 ≤ i → fX6_ends g 0 i = g 0 i := by
  have H : ∀ (n k : Nat) (x y : zG) (v : Int32), k + n = 12 → YR o x y → ML (y 0) b → (∀ i, 12 ≤ i → y 0 i = g 0 i) → (∀ j, j ≠ 0 → x j = gP j) → ∃ x1 y1 : zG, fX3_goThroughYear_L77 n k x = fX3_markFront x1 ∧ fX6_ends_L4 n k v y = fX6_ends_L4 0 12 (fr (gP 8) n k v) y1 ∧ YR o x1 y1 ∧ (∀ i, 12 ≤ i → y1 0 i = g 0 i) ∧ ∀ j, j ≠ 0 → x1 j = gP j := by
    intro n
    induction n with
    | zero =>
      intro k x y v hk h hm hg hx
      refine ⟨x, y, ?_, ?_, h, hg, hx⟩
      · unfold fX3_goThroughYear_L77
        rw [jn_eq]
      · rw [show k = 12 by omega]
        rfl
    | succ n ih =>
      intro k x y v hk h hm hg hx
      obtain ⟨m1, m2, m3, m4, m5⟩ := move_step (v := v) (show k < 12 by omega) h hm hb
      obtain ⟨x1, y1, r1, r2, r3, r4, r5⟩ := ih (k + 1) _ _ (mEnd k v y).1 (by omega) m1 (ml_fr hm (fun i p _ => m3 i (by omega))) (fun i hi => by rw [m3 i hi, hg i hi]) (fun j hj => by rw [m2 j hj, hx j hj])
      refine ⟨x1, y1, ?_, ?_, r3, r4, r5⟩
      · conv => lhs; unfold fX3_goThroughYear_L77
        rw [jn_eq]
        exact r1
      · conv => lhs; unfold fX6_ends_L4
        rw [jn_eq, r2, m4, hx 8 (by decide)]
        rfl
  obtain ⟨x1, y1, r1, r2, r3, r4, r5⟩ := H 12 0 gP g (-1) rfl h hm (fun _ _ => rfl) (fun _ _ => rfl)
  have hv := fr_in (f := gP 8) 12 0 (-1) rfl (Or.inl rfl)
  have ec : (y1 0 89).toNatClampNeg = yr := by rw [r4 89 (by omega), hy]; exact nI_clamp (by omega)
  rw [r1]
  unfold fX6_ends
  rw [r2]
  unfold fX3_markFront
  rw [mark_L 12 0 _ rfl]
  have e8 : va_up x1 10 (upd (x1 10) 5 (-1)) 8 = gP 8 := r5 8 (by decide)
  have e5 : va_up x1 10 (upd (x1 10) 5 (-1)) 10 5 = -1 := by rw [up_t, pk_us]
  rw [e8, e5]
  generalize fr (gP 8) 12 0 (-1) = v at hv
  obtain ⟨h1, h2, h3, ⟨s0, s2, s3, s4⟩, s1⟩ := id r3
  generalize hX : va_up (va_up x1 10 (upd (x1 10) 5 (-1))) 10 (upd (va_up x1 10 (upd (x1 10) 5 (-1)) 10) 5 v) = X
  have X5 : X 10 5 = v := by rw [← hX, up_t, pk_us]
  have Xi : ∀ i, i ≠ 5 → X 10 i = x1 10 i := fun i hi => by rw [← hX, up_t, pk_un hi, up_t, pk_un hi]
  have Xj : ∀ j, j ≠ 10 → X j = x1 j := fun j hj => by rw [← hX, up_n hj, up_n hj]
  unfold fX3_markFront_L7 fX6_ends_L4
  simp only [jn_eq, ec, X5]
  generalize hG : va_up y1 0 (upd (y1 0) (900 + yr) v) = G
  have G9 : G 0 (900 + yr) = v := by rw [← hG, up_t, pk_us]
  have Gi : ∀ i, i ≠ 900 + yr → G 0 i = y1 0 i := fun i hi => by rw [← hG, up_t, pk_un hi]
  have G10 : G 10 = y1 10 := by rw [← hG]; rfl
  have base : YR o X G := by
    refine ⟨fun c hc => ?_, ?_, ?_, ⟨?_, ?_, ?_, ?_⟩, ?_⟩
    · rw [Xj 0 (by decide), Xj 1 (by decide), Xj 2 (by decide), Xj 3 (by decide), Gi c (by omega), Gi (12 + c) (by omega), Gi (24 + c) (by omega), Gi (36 + c) (by omega)]
      exact h1 c hc
    · rw [Xj 8 (by decide), Xj 9 (by decide)]
      exact lr_c h2 (fun i p q => Gi i (by omega))
    · rw [Xi 0 (by decide), Xi 1 (by decide), Xi 2 (by decide), Xi 3 (by decide), Xi 4 (by decide), Gi 89 (by omega), G10]
      exact h3
    · rw [Xj 11 (by decide), Gi 86 (by omega)]; exact s0
    · rw [Xj 11 (by decide), Gi 88 (by omega)]; exact s2
    · rw [Xj 11 (by decide), Gi 84 (by omega)]; exact s3
    · rw [Xj 11 (by decide), Gi 85 (by omega)]; exact s4
    · rw [Xj 11 (by decide), Gi 87 (by omega)]; exact s1
  rcases hv with e | ⟨c, hc, e⟩
  · have n1 : v < 0 := by rw [e]; decide
    simp only [if_pos n1, if_pos e]
    exact ⟨base, by rw [X5, G9], fun j a b2 c => by rw [Xj j c, r5 j a], fun i p q => by rw [Gi i (by omega), r4 i (by omega)]⟩
  · have n1 : ¬ v < 0 := by rw [e]; exact nI_pos (by omega)
    have n2 : ¬ v = -1 := fun q => n1 (by rw [q]; decide)
    have evc : v.toNatClampNeg = c := by rw [e]; exact nI_clamp (by omega)
    simp only [if_neg n1, if_neg n2, evc]
    refine ⟨⟨fun c9 hc9 => ?_, ?_, ?_, ⟨?_, ?_, ?_, ?_⟩, ?_⟩, ?_, fun j a b2 d => by rw [up_n b2, Xj j d, r5 j a], fun i p q => by rw [up_t, pk_un (by omega), Gi i (by omega), r4 i (by omega)]⟩
    · have hb9 := base.1 c9 hc9
      rw [up_n (j := 0) (k := 3) (by decide), up_n (j := 1) (k := 3) (by decide), up_n (j := 2) (k := 3) (by decide), up_t, up_t, pk_un (j := c9) (by omega), pk_un (j := 12 + c9) (by omega), pk_un (j := 24 + c9) (by omega)]
      refine ⟨hb9.1, hb9.2.1, hb9.2.2.1, ?_⟩
      by_cases q : c9 = c
      · subst q
        rw [pk_us, pk_us, hb9.2.2.2]
      · rw [pk_un q, pk_un (by omega)]
        exact hb9.2.2.2
    · exact lr_c base.2.1 (fun i p q => by rw [up_t, pk_un (by omega)])
    · have hb9 := base.2.2.1
      rw [up_n (by decide), up_t, pk_un (by omega)]
      exact hb9
    · rw [up_n (by decide), up_t, pk_un (by omega)]; exact base.2.2.2.1.1
    · rw [up_n (by decide), up_t, pk_un (by omega)]; exact base.2.2.2.1.2.1
    · rw [up_n (by decide), up_t, pk_un (by omega)]; exact base.2.2.2.1.2.2.1
    · rw [up_n (by decide), up_t, pk_un (by omega)]; exact base.2.2.2.1.2.2.2
    · rw [up_n (by decide), up_t, pk_un (by omega)]; exact base.2.2.2.2
    · rw [up_n (by decide), X5, up_t, pk_un (by omega), G9]
