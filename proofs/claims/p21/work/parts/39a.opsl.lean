/-! the reference's askings -/
theorem in0 {v lo hi : Int32} (h : v < lo ∨ hi < v) : fX6_in v lo hi = 0 := by
  unfold fX6_in
  rcases h with h | h
  · exact if_pos h
  · by_cases h1 : v < lo
    · exact if_pos h1
    · rw [if_neg h1, if_pos h]
theorem in1 {v lo hi : Int32} (h1 : ¬ v < lo) (h2 : ¬ hi < v) : fX6_in v lo hi = 1 := by
  unfold fX6_in
  rw [if_neg h1, if_neg h2]
theorem cell0 {v : Int32} (h : ¬ vp_in v 12) : fX6_isCell v = 0 := by
  unfold fX6_isCell
  apply in0
  rw [fa_lt, fa_lt]
  have e1 : (0 : Int32).toInt = 0 := rfl
  have e2 : (11 : Int32).toInt = 11 := rfl
  rw [vp_in_iff] at h
  omega
theorem cell1 {k : Nat} (h : k < 12) : fX6_isCell (nI k) = 1 := by
  unfold fX6_isCell
  have e1 : (0 : Int32).toInt = 0 := rfl
  have e2 : (11 : Int32).toInt = 11 := rfl
  apply in1
  · rw [fa_lt, nI_toInt (by omega)]; omega
  · rw [fa_lt, nI_toInt (by omega)]; omega
theorem rng_nat {v : Int32} (m : Nat) (hm : m < 2 ^ 30) (h1 : ¬ v < 0) (h2 : ¬ nI m < v) : ∃ w : Nat, w < m + 1 ∧ v = nI w := by
  have e1 : (0 : Int32).toInt = 0 := rfl
  rw [fa_lt] at h1
  rw [fa_lt, nI_toInt (by omega)] at h2
  exact vp_in_of (vp_in_iff.mpr ⟨by omega, by omega⟩) (by omega)
def thr (g : zG) (c : Int32) : zG := va_up g 10 (upd (g 10) 0 c)
theorem thr_n {g : zG} {c : Int32} {j : Nat} (h : j ≠ 10) : thr g c j = g j := if_neg h
theorem thr_t (g : zG) (c : Int32) : thr g c 10 = upd (g 10) 0 c := by
  unfold thr va_up
  rw [if_pos rfl]
theorem thr_10 (g : zG) (c : Int32) : thr g c 10 0 = c := by
  rw [thr_t]
  exact pk_us
theorem thr_m {g : zG} {c : Int32} {j : Nat} (h : j ≠ 0) : thr g c 10 j = g 10 j := by
  rw [thr_t]
  exact pk_un h
theorem as1_0 (g : zG) : fX6_asked g 0 = (0, thr g 1) := by
  unfold fX6_asked
  rw [jn_eq, if_pos (c := (0 : Int32) = 0) rfl]
  rfl
theorem as1_1 (g : zG) : fX6_asked g 1 = (1, thr g 0) := by
  unfold fX6_asked
  rw [jn_eq, if_neg (c := (1 : Int32) = 0) (by decide)]
  rfl
theorem as2_x1 (g : zG) (q : Int32) : fX6_asked_ g 0 q = (0, thr g 1) := by
  unfold fX6_asked_
  rw [jn_eq, if_pos (c := (0 : Int32) = 0) rfl, if_neg (c := (1 : Int32) = 0) (by decide)]
  rfl
theorem as2_x2 (g : zG) : fX6_asked_ g 1 0 = (0, thr g 2) := by
  unfold fX6_asked_
  rw [jn_eq, if_neg (c := (1 : Int32) = 0) (by decide), if_pos (c := (0 : Int32) = 0) rfl, if_neg (c := (2 : Int32) = 0) (by decide)]
  rfl
theorem as2_1 (g : zG) : fX6_asked_ g 1 1 = (1, thr g 0) := by
  unfold fX6_asked_
  rw [jn_eq, if_neg (c := (1 : Int32) = 0) (by decide), if_neg (c := (1 : Int32) = 0) (by decide), if_pos (c := (0 : Int32) = 0) rfl]
  rfl
theorem as3_x1 (g : zG) (q r : Int32) : fX6_asked__ g 0 q r = (0, thr g 1) := by
  unfold fX6_asked__
  rw [jn_eq, if_pos (c := (0 : Int32) = 0) rfl, if_neg (c := (1 : Int32) = 0) (by decide)]
  rfl
theorem as3_x2 (g : zG) (r : Int32) : fX6_asked__ g 1 0 r = (0, thr g 2) := by
  unfold fX6_asked__
  rw [jn_eq, if_neg (c := (1 : Int32) = 0) (by decide), if_pos (c := (0 : Int32) = 0) rfl, if_neg (c := (2 : Int32) = 0) (by decide)]
  rfl
theorem as3_x3 (g : zG) : fX6_asked__ g 1 1 0 = (0, thr g 3) := by
  unfold fX6_asked__
  rw [jn_eq, if_neg (c := (1 : Int32) = 0) (by decide), if_neg (c := (1 : Int32) = 0) (by decide), if_pos (c := (0 : Int32) = 0) rfl, if_neg (c := (3 : Int32) = 0) (by decide)]
  rfl
theorem as3_1 (g : zG) : fX6_asked__ g 1 1 1 = (1, thr g 0) := by
  unfold fX6_asked__
  rw [jn_eq, if_neg (c := (1 : Int32) = 0) (by decide), if_neg (c := (1 : Int32) = 0) (by decide), if_neg (c := (1 : Int32) = 0) (by decide), if_pos (c := (0 : Int32) = 0) rfl]
  rfl
theorem mp_thr {g : zG} {c : Int32} {b yr fb bb : Nat} (h : MP g b yr fb bb) : MP (thr g c) b yr fb bb := by
  unfold MP at h ⊢
  rw [thr_n (j := 0) (by decide), thr_m (j := 3) (by decide), thr_m (j := 2) (by decide), thr_m (j := 4) (by decide)]
  exact h
theorem rel_thr {n : Nat} {gP gA gF g : zG} (c : Int32) (h : REL n gP gA gF g) : REL (n + 1) gP gA gF (thr g c) := by
  obtain ⟨yr, h1, h2, h3, h4⟩ := h
  refine ⟨yr, mp_mono (mp_thr h1) (by omega), ?_, ?_, ?_⟩
  · unfold RELc at h2 ⊢
    simp only [thr_n (g := g) (c := c) (j := 0) (by decide), thr_m (g := g) (c := c) (j := 1) (by decide), thr_m (g := g) (c := c) (j := 2) (by decide), thr_m (g := g) (c := c) (j := 3) (by decide), thr_m (g := g) (c := c) (j := 4) (by decide)]
    refine ⟨h2.1, fun k hk => ?_, h2.2.2⟩
    have h9 := h2.2.1 k hk
    rw [iceOf_c (g := g) (g1 := thr g c) (fun j _ => by rw [thr_n (by decide)])]
    exact h9
  · unfold RELa at h3 ⊢
    simp only [thr_n (g := g) (c := c) (j := 0) (by decide), thr_n (g := g) (c := c) (j := 2) (by decide), thr_n (g := g) (c := c) (j := 3) (by decide), thr_n (g := g) (c := c) (j := 4) (by decide), thr_n (g := g) (c := c) (j := 5) (by decide)]
    exact h3
  · unfold RELf at h4 ⊢
    simp only [thr_m (g := g) (c := c) (j := 5) (by decide), thr_n (g := g) (c := c) (j := 6) (by decide), thr_n (g := g) (c := c) (j := 7) (by decide), thr_n (g := g) (c := c) (j := 8) (by decide)]
    exact h4
