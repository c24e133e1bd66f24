theorem rel_land {n : Nat} {gP gA gF g : zG} {k : Nat} {v : Int32} (gT : zG) (hk : k < 12) (h1 : ¬ v < 0) (h2 : ¬ 500 < v) (h : REL n gP gA gF g) : REL n (fX5_land gP gT gA gF k v).2 gA gF (va_up (va_up g 0 (upd (g 0) k v)) 0 (upd (upd (g 0) k v) (12 + k) v)) := by
  have e1 : (0 : Int32).toInt = 0 := rfl
  have e2 : (500 : Int32).toInt = 500 := by decide
  rw [fa_lt] at h1 h2
  obtain ⟨yr, m1, m2, m3, m4⟩ := h
  generalize hS : upd (upd (g 0) k v) (12 + k) v = S
  have hn : ∀ j, j ≠ 0 → va_up (va_up g 0 (upd (g 0) k v)) 0 S j = g j := fun j hj => by rw [up_n hj, up_n hj]
  have ht : va_up (va_up g 0 (upd (g 0) k v)) 0 S 0 = S := up_t _ _ _
  have s1 : ∀ i, i ≠ k → i ≠ 12 + k → S i = g 0 i := fun i q1 q2 => by rw [← hS, pk_un q2, pk_un q1]
  have s2 : S k = v := by rw [← hS, pk_un (by omega), pk_us]
  have s3 : S (12 + k) = v := by rw [← hS, pk_us]
  refine ⟨yr, ?_, ?_, ?_, ?_⟩
  · unfold MP at m1 ⊢
    rw [ht, hn 10 (by decide), s1 89 (by omega) (by omega), s1 90 (by omega) (by omega)]
    refine ⟨m1.1, ⟨fun c j hc hj => by rw [s1 _ (by omega) (by omega)]; exact m1.2.1.1 c j hc hj, ?_⟩, m1.2.2.1, fun c hc => ?_, m1.2.2.2.2⟩
    · rw [tS_c (S := g 0) 12 (fun c hc => lS_c 61 (fun j hj => s1 _ (by omega) (by omega)))]
      exact m1.2.1.2
    · by_cases e : c = k
      · subst e
        rw [s2]
        omega
      · rw [s1 c e (by omega)]
        exact m1.2.2.2.1 c hc
  · obtain ⟨q1, q2, q3, q4, q5⟩ := m2
    unfold RELc
    rw [ht, hn 10 (by decide), s1 89 (by omega) (by omega), s1 86 (by omega) (by omega), s1 87 (by omega) (by omega), s1 88 (by omega) (by omega), s1 84 (by omega) (by omega), s1 85 (by omega) (by omega)]
    have p0 : (fX5_land gP gT gA gF k v).2 0 = upd (gP 0) k v := rfl
    have p1 : (fX5_land gP gT gA gF k v).2 1 = upd (gP 1) k v := rfl
    have p2 : ∀ j, j ≠ 0 → j ≠ 1 → (fX5_land gP gT gA gF k v).2 j = gP j := fun j a b => by
      show va_up (va_up gP 0 _) 1 _ j = _
      rw [up_n b, up_n a]
    rw [p0, p1, p2 2 (by decide) (by decide), p2 3 (by decide) (by decide), p2 4 (by decide) (by decide), p2 5 (by decide) (by decide), p2 8 (by decide) (by decide), p2 9 (by decide) (by decide), p2 10 (by decide) (by decide), p2 11 (by decide) (by decide)]
    refine ⟨⟨wq_c q1.1 (s1 89 (by omega) (by omega)) (fun j hj => s1 (24 + j) (by omega) (by omega)), fun c hc => by rw [s1 _ (by omega) (by omega)]; exact q1.2 c hc⟩, fun c hc => ?_, fun c y hc hy => by rw [s1 _ (by omega) (by omega)]; exact q3 c y hc hy, q4, q5⟩
    have h9 := q2 c hc
    rw [iceOf_c (g := g) (fun j _ => by rw [ht, s1 _ (by omega) (by omega)]), s1 (24 + c) (by omega) (by omega), s1 (36 + c) (by omega) (by omega), s1 (48 + c) (by omega) (by omega), s1 (60 + c) (by omega) (by omega), s1 (72 + c) (by omega) (by omega)]
    by_cases e : c = k
    · subst e
      rw [pk_us, pk_us, s2, s3]
      exact ⟨rfl, rfl, h9.2.2⟩
    · rw [pk_un e, pk_un e, s1 c e (by omega), s1 (12 + c) (by omega) (by omega)]
      exact h9
  · unfold RELa at m3 ⊢
    rw [ht, hn 2 (by decide), hn 3 (by decide), hn 4 (by decide), hn 5 (by decide), s1 90 (by omega) (by omega)]
    refine ⟨m3.1, fun y hy => ?_, m3.2.2⟩
    rw [s1 (900 + y) (by omega) (by omega)]
    exact m3.2.1 y hy
  · have p2 : (fX5_land gP gT gA gF k v).2 10 = gP 10 := rfl
    unfold RELf at m4 ⊢
    rw [p2, hn 10 (by decide), hn 6 (by decide), hn 7 (by decide), hn 8 (by decide)]
    exact m4
def gIced (g : zG) (k yr : Nat) (v : Int32) : zG := va_up (va_up g 0 (upd (g 0) (100 + 61 * k + yr) (g 0 (100 + 61 * k + yr) + v))) 0 (upd (upd (g 0) (100 + 61 * k + yr) (g 0 (100 + 61 * k + yr) + v)) 87 (upd (g 0) (100 + 61 * k + yr) (g 0 (100 + 61 * k + yr) + v) 87 + v))
theorem gIced_ice {g : zG} {k yr : Nat} {v : Int32} (hk : k < 12) (hy : yr < 61) : fX6_iceOf (gIced g k yr v) k = fX6_iceOf g k + v := by
  refine iceOf_add (y := yr) hy ?_ (fun j hj hjy => ?_)
  · unfold gIced
    rw [up_t, pk_un (by omega), pk_us]
  · unfold gIced
    rw [up_t, pk_un (by omega), pk_un (by omega)]
theorem gIced_ice2 {g : zG} {k yr c : Nat} {v : Int32} (hk : k < 12) (hc : c < 12) (hck : c ≠ k) (hy : yr < 61) : fX6_iceOf (gIced g k yr v) c = fX6_iceOf g c := by
  refine iceOf_c (fun j hj => ?_)
  unfold gIced
  rw [up_t, pk_un (by omega), pk_un (by omega)]
theorem rel_iced {n : Nat} {gP gA gF g : zG} {k yr : Nat} {v : Int32} (gT : zG) (hn : n < 512) (hk : k < 12) (h1 : ¬ v < 1) (h2 : ¬ 999 < v) (h : REL n gP gA gF g) (hyr : g 0 89 = nI yr) (hy : yr ≤ 60) : REL (n + 1) (fX5_ice gP gT gA gF k v).2 gA gF (gIced (thr g 0) k yr v) := by
  have e1 : (1 : Int32).toInt = 1 := by decide
  have e2 : (999 : Int32).toInt = 999 := by decide
  rw [fa_lt] at h1 h2
  obtain ⟨y0, m1, m2, m3, m4⟩ := h
  have hy0 := mp_yr m1
  have e3 : gP 10 0 = nI yr := by rw [m2.2.2.2.1.1]; exact hyr
  have ey : (gP 10 0).toNatClampNeg = yr := by rw [e3]; exact nI_clamp (by omega)
  have hg : gIced (thr g 0) k yr v = va_up (va_up (thr g 0) 0 (upd (g 0) (100 + 61 * k + yr) (g 0 (100 + 61 * k + yr) + v))) 0 (upd (upd (g 0) (100 + 61 * k + yr) (g 0 (100 + 61 * k + yr) + v)) 87 (g 0 87 + v)) := by
    unfold gIced
    rw [thr_n (j := 0) (by decide), pk_un (j := 87) (by omega)]
  have hic : fX6_iceOf (gIced (thr g 0) k yr v) k = fX6_iceOf g k + v := by
    rw [gIced_ice hk (by omega), iceOf_c (g := g) (g1 := thr g 0) (fun j _ => by rw [thr_n (by decide)])]
  have hic2 : ∀ c, c < 12 → c ≠ k → fX6_iceOf (gIced (thr g 0) k yr v) c = fX6_iceOf g c := fun c hc hck => by
    rw [gIced_ice2 hk hc hck (by omega), iceOf_c (g := g) (g1 := thr g 0) (fun j _ => by rw [thr_n (by decide)])]
  rw [hg] at hic hic2 ⊢
  generalize hS : upd (upd (g 0) (100 + 61 * k + yr) (g 0 (100 + 61 * k + yr) + v)) 87 (g 0 87 + v) = S at hic hic2 ⊢
  generalize hG : va_up (va_up (thr g 0) 0 (upd (g 0) (100 + 61 * k + yr) (g 0 (100 + 61 * k + yr) + v))) 0 S = G at hic hic2 ⊢
  have ht : G 0 = S := by rw [← hG]; exact up_t _ _ _
  have hn : ∀ j, j ≠ 0 → j ≠ 10 → G j = g j := fun j hj hj2 => by rw [← hG, up_n hj, up_n hj, thr_n hj2]
  have hn10 : ∀ j, j ≠ 0 → G 10 j = g 10 j := fun j hj => by rw [← hG, up_n (by decide), up_n (by decide), thr_m hj]
  have s1 : ∀ i, i ≠ 100 + 61 * k + yr → i ≠ 87 → S i = g 0 i := fun i q1 q2 => by rw [← hS, pk_un q2, pk_un q1]
  have s2 : S (100 + 61 * k + yr) = g 0 (100 + 61 * k + yr) + v := by rw [← hS, pk_un (by omega), pk_us]
  have s3 : S 87 = g 0 87 + v := by rw [← hS, pk_us]
  have hl := ml_layer m1.2.1 hk (j := yr) (by omega)
  have s4 : (S (100 + 61 * k + yr)).toInt = (g 0 (100 + 61 * k + yr)).toInt + v.toInt := by
    rw [s2, add_t (by omega) (by omega)]
  have hts := tS_upd (S := g 0) (T := S) hk (show yr < 61 by omega) s4 (fun i a b q => s1 i q (by omega))
  have m12 := m1.2.1.2
  refine ⟨y0, ?_, ?_, ?_, ?_⟩
  · unfold MP at m1 ⊢
    rw [ht, hn10 3 (by decide), hn10 2 (by decide), hn10 4 (by decide), s1 89 (by omega) (by omega), s1 90 (by omega) (by omega)]
    refine ⟨m1.1, ⟨fun c j hc hj => ?_, ?_⟩, m1.2.2.1, fun c hc => by rw [s1 c (by omega) (by omega)]; exact m1.2.2.2.1 c hc, m1.2.2.2.2⟩
    · by_cases e : 100 + 61 * c + j = 100 + 61 * k + yr
      · rw [e, s4]; omega
      · rw [s1 _ e (by omega)]
        exact m1.2.1.1 c j hc hj
    · rw [hts.2.2]
      omega
  · obtain ⟨q1, q2, q3, q4, q5⟩ := m2
    have p8 : (fX5_ice gP gT gA gF k v).2 8 = upd (gP 8) k (gP 8 k + v) := rfl
    have p9 : (fX5_ice gP gT gA gF k v).2 9 = upd (gP 9) (k * 61 + yr) (gP 9 (k * 61 + yr) + v) := by
      rw [← ey]
      rfl
    have p11 : (fX5_ice gP gT gA gF k v).2 11 = upd (gP 11) 1 (gP 11 1 + v) := rfl
    have p0 : (fX5_ice gP gT gA gF k v).2 0 = gP 0 := rfl
    have p1 : (fX5_ice gP gT gA gF k v).2 1 = gP 1 := rfl
    have p2 : (fX5_ice gP gT gA gF k v).2 2 = gP 2 := rfl
    have p3 : (fX5_ice gP gT gA gF k v).2 3 = gP 3 := rfl
    have p4 : (fX5_ice gP gT gA gF k v).2 4 = gP 4 := rfl
    have p5 : (fX5_ice gP gT gA gF k v).2 5 = gP 5 := rfl
    have p10 : (fX5_ice gP gT gA gF k v).2 10 = gP 10 := rfl
    unfold RELc
    rw [ht, p8, p9, p11, p0, p1, p2, p3, p4, p5, p10, hn10 1 (by decide), hn10 2 (by decide), hn10 3 (by decide), hn10 4 (by decide), s1 89 (by omega) (by omega), s1 86 (by omega) (by omega), s3, s1 88 (by omega) (by omega), s1 84 (by omega) (by omega), s1 85 (by omega) (by omega)]
    refine ⟨⟨wq_c q1.1 (s1 89 (by omega) (by omega)) (fun j hj => s1 (24 + j) (by omega) (by omega)), fun c hc => by rw [s1 _ (by omega) (by omega)]; exact q1.2 c hc⟩, fun c hc => ?_, fun c y hc hy9 => ?_, q4, ?_⟩
    · have h9 := q2 c hc
      rw [s1 c (by omega) (by omega), s1 (12 + c) (by omega) (by omega), s1 (24 + c) (by omega) (by omega), s1 (36 + c) (by omega) (by omega), s1 (48 + c) (by omega) (by omega), s1 (60 + c) (by omega) (by omega), s1 (72 + c) (by omega) (by omega)]
      by_cases e : c = k
      · subst e
        rw [pk_us, hic, h9.2.2.2.2.2.2]
        exact ⟨h9.1, h9.2.1, h9.2.2.1, h9.2.2.2.1, h9.2.2.2.2.1, h9.2.2.2.2.2.1, rfl⟩
      · rw [pk_un e, hic2 c hc e]
        exact h9
    · by_cases e : c = k ∧ y = yr
      · obtain ⟨rfl, rfl⟩ := e
        rw [pk_us, s2, q3 c y hc hy9]
      · rw [pk_un (by omega), s1 _ (by omega) (by omega)]
        exact q3 c y hc hy9
    · rw [pk_us, pk_un (by decide), pk_un (by decide), pk_un (by decide), pk_un (by decide), q5.2.1]
      exact ⟨q5.1, rfl, q5.2.2⟩
  · unfold RELa at m3 ⊢
    rw [ht, hn 2 (by decide) (by decide), hn 3 (by decide) (by decide), hn 4 (by decide) (by decide), hn 5 (by decide) (by decide), s1 90 (by omega) (by omega)]
    refine ⟨m3.1, fun y hy9 => ?_, m3.2.2⟩
    rw [s1 (900 + y) (by omega) (by omega)]
    exact m3.2.1 y hy9
  · have p10 : (fX5_ice gP gT gA gF k v).2 10 = gP 10 := rfl
    unfold RELf at m4 ⊢
    rw [p10, hn10 5 (by decide), hn 6 (by decide) (by decide), hn 7 (by decide) (by decide), hn 8 (by decide) (by decide)]
    exact m4
