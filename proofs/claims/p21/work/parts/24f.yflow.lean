theorem given_eq {o : Nat → Int32} {gP g : zG} {k j b yr fb bb : Nat} (hk : k < 12) (hj : j < 12) (h : YR o gP g) (hm : MP g b yr fb bb) (hb : b ≤ 1000000) (hbb : bb ≤ 1000) (hs : fX6_surfaceOf g j ≤ fX6_surfaceOf g k) : fX3_givenBy gP k (fX6_surfaceOf g k - fX6_surfaceOf g j) = fX6_flowOf g k j := by
  have a1 := surf_t hm hk hb hbb
  have a2 := surf_t hm hj hb hbb
  have hv := iceOf_t hm.2.1 hk (by omega)
  have hc := ml_cell hm.2.1 hk
  rw [fa_le] at hs
  unfold fX3_givenBy fX6_flowOf
  simp only [jn_eq, h.2.1.1 k hk, (h.1 k hk).2.2.1]
  generalize fX6_iceOf g k = v at hv
  have hd : (fX6_surfaceOf g k - fX6_surfaceOf g j).toInt = (fX6_surfaceOf g k).toInt - (fX6_surfaceOf g j).toInt := sub_t (by omega) (by omega)
  generalize fX6_surfaceOf g k - fX6_surfaceOf g j = d at hd
  have hd1 : 0 ≤ d.toInt := by omega
  have hd2 : d.toInt ≤ 1002500 := by omega
  have p1 : 0 ≤ d.toInt * v.toInt := Int.mul_nonneg hd1 (by omega)
  have p2 : d.toInt * v.toInt ≤ 1002500 * 1000000 := Int.mul_le_mul hd2 (by omega) (by omega) (by omega)
  have hmm : (d.toInt64 * v.toInt64).toInt = d.toInt * v.toInt := by
    rw [Int64.toInt_mul, Int32.toInt_toInt64, Int32.toInt_toInt64]
    exact Int.bmod_eq_of_le (by omega) (by omega)
  rw [fd64 _ (by rw [hmm]; exact p1), div_eq v 4 (by omega) (by decide), Int64.mul_comm _ 2]
  generalize (if g 0 (24 + k) < 4 then d.toInt64 * v.toInt64 / 200 else 2 * (d.toInt64 * v.toInt64 / 200)) = u
  by_cases c : 0 ≤ lg_cmp u ((v / 4).toInt64)
  · rw [if_pos c]
    rw [lg_cmp_ge, fa_le64] at c
    by_cases c2 : (v / 4).toInt64 < u
    · rw [if_pos c2]
      exact Int32.toInt32_toInt64 _
    · rw [if_neg c2]
      rw [fa_lt64] at c2
      have e : u = (v / 4).toInt64 := (fa_eq64 _ _).mpr (by omega)
      rw [e]
      exact Int32.toInt32_toInt64 _
  · rw [if_neg c]
    rw [lg_cmp_ge, fa_le64] at c
    rw [if_neg (by rw [fa_lt64]; omega)]
theorem flow_0 {g : zG} {k j b yr fb bb : Nat} (hk : k < 12) (hm : MP g b yr fb bb) (hb : b ≤ 1000000) (hs : fX6_surfaceOf g k = fX6_surfaceOf g j) : fX6_flowOf g k j = 0 := by
  have hv := iceOf_t hm.2.1 hk (by omega)
  have hc := ml_cell hm.2.1 hk
  unfold fX6_flowOf
  simp only [jn_eq]
  rw [hs, Int32.sub_self]
  generalize fX6_iceOf g k = v at hv
  have e1 : (0 : Int32).toInt64 * v.toInt64 / 200 = 0 := by
    rw [show (0 : Int32).toInt64 = 0 from rfl, Int64.zero_mul]
    rfl
  have e2 : (if g 0 (24 + k) < 4 then (0 : Int64) else 2 * 0) = 0 := by
    split <;> rfl
  rw [e1, e2]
  have e4 : (4 : Int32).toInt = 4 := by decide
  have h4 : (v / 4).toInt = v.toInt / 4 := by
    rw [Int32.toInt_div, e4, Int.tdiv_eq_ediv_of_nonneg (by omega)]
    exact Int.bmod_eq_of_le (by omega) (by omega)
  have e0 : (0 : Int32).toInt = 0 := rfl
  have e064 : (0 : Int64).toInt = 0 := rfl
  by_cases c : 0 ≤ lg_cmp 0 ((v / 4).toInt64)
  · rw [if_pos c]
    rw [lg_cmp_ge, fa_le64, Int32.toInt_toInt64, h4, e064] at c
    exact (fa_eq _ _).mpr (by rw [h4, e0]; omega)
  · rw [if_neg c]
    rfl
theorem next_eq {o : Nat → Int32} {gP g : zG} {k b yr fb bb : Nat} (hk : k < 11) (h : YR o gP g) (hm : MP g b yr fb bb) (hb : b ≤ 1000000) (hbb : bb ≤ 1000) : fX3_givenToNext gP k = (if fX6_surfaceOf g k ≤ fX6_surfaceOf g (k + 1) then (if fX6_surfaceOf g (k + 1) ≤ fX6_surfaceOf g k then 0 else (-(fX6_flowOf g (k + 1) k))) else (fX6_flowOf g k (k + 1))) := by
  have a1 := surf_t hm (k := k) (by omega) hb hbb
  have a2 := surf_t hm (k := k + 1) (by omega) hb hbb
  have e0 : (0 : Int32).toInt = 0 := rfl
  unfold fX3_givenToNext
  simp only [jn_eq, surf_eq h (show k < 12 by omega), surf_eq h (show k + 1 < 12 by omega)]
  have hd : (fX6_surfaceOf g k - fX6_surfaceOf g (k + 1)).toInt = (fX6_surfaceOf g k).toInt - (fX6_surfaceOf g (k + 1)).toInt := sub_t (by omega) (by omega)
  by_cases c : fX6_surfaceOf g k ≤ fX6_surfaceOf g (k + 1)
  · rw [if_pos c]
    rw [fa_le] at c
    rw [if_pos (by rw [fa_le, hd, e0]; omega), Int32.neg_sub, given_eq (by omega) (by omega) h hm hb hbb (by rw [fa_le]; exact c)]
    by_cases c2 : fX6_surfaceOf g (k + 1) ≤ fX6_surfaceOf g k
    · rw [if_pos c2]
      rw [fa_le] at c2
      rw [flow_0 (by omega) hm hb ((fa_eq _ _).mpr (by omega))]
      rfl
    · rw [if_neg c2]
  · rw [if_neg c]
    rw [fa_le] at c
    rw [if_neg (by rw [fa_le, hd, e0]; omega), given_eq (by omega) (by omega) h hm hb hbb (by rw [fa_le]; omega)]
/-- one step of the ice's going -/
theorem flow_step {o : Nat → Int32} {gP g : zG} {k : Nat} (hk : k < 11) (h : YR o gP g) (h9 : gP 6 k = g 9 k) (hg : ∀ c, c < 12 → gP 5 c = g 0 (60 + c) - g 0 (72 + c)) : ∃ gQ : zG, (∀ n, fX3_flow_L48 (n + 1) k gP = fX3_flow_L48 n (k + 1) gQ) ∧ YR o gQ (mFlowB k g) ∧ (∀ c, c < 12 → gQ 5 c = mFlowB k g 0 (60 + c) - mFlowB k g 0 (72 + c)) ∧ (∀ j, j ≠ 5 → j ≠ 8 → j ≠ 9 → gQ j = gP j) ∧ (∀ j, j ≠ 0 → mFlowB k g j = g j) ∧ ∀ i, (i < 60 ∨ (84 ≤ i ∧ i < 100) ∨ 832 ≤ i) → mFlowB k g 0 i = g 0 i := by
  obtain ⟨h1, h2, h3, ⟨s0, s2, s3, s4⟩, s1⟩ := id h
  -- the model's step
  have M : ∀ (f o2 : Nat) (v : Int32), (f = k ∨ f = k + 1) → o2 = 2 * k + 1 - f → ∀ (fI fU : Nat → Int32), fI = gP 8 → fU = gP 9 → ∀ y : zG, y = va_up g 0 (upd (upd (g 0) (72 + f) (g 0 (72 + f) + v)) (60 + o2) (g 0 (60 + o2) + v)) →
      LR (fX1_carryEarliest fI fU f o2 v).1 (fX1_carryEarliest fI fU f o2 v).2 (fX6_flows_L193 k f 61 0 v y) ∧ (∀ j, j ≠ 0 → fX6_flows_L193 k f 61 0 v y j = g j) ∧ (∀ i, (i < 100 ∨ 832 ≤ i) → i ≠ 72 + f → i ≠ 60 + o2 → fX6_flows_L193 k f 61 0 v y 0 i = g 0 i) ∧ fX6_flows_L193 k f 61 0 v y 0 (72 + f) = g 0 (72 + f) + v ∧ fX6_flows_L193 k f 61 0 v y 0 (60 + o2) = g 0 (60 + o2) + v := by
    intro f o2 v hf ho fI fU e8 e9 y hy
    subst e8 e9
    have hl : LR (gP 8) (gP 9) y := lr_c h2 (fun i a c => by rw [hy, up_t, pk_un (by omega), pk_un (by omega)])
    obtain ⟨r1, r2, r3⟩ := carry_eq hk hf ho 61 0 v (gP 8) (gP 9) y rfl hl
    refine ⟨r1, fun j hj => ?_, fun i a q1 q2 => ?_, ?_, ?_⟩
    · rw [r2 j hj, hy, up_n hj]
    · rw [r3 i a, hy, up_t, pk_un q2, pk_un q1]
    · rw [r3 _ (by omega), hy, up_t, pk_un (by omega), pk_us]
    · rw [r3 _ (by omega), hy, up_t, pk_us]
  -- from the step's facts the rest
  have Fin : ∀ (gQ X : zG) (f o2 : Nat) (v w : Int32), (f = k ∧ o2 = k + 1 ∧ v = w ∨ f = k + 1 ∧ o2 = k ∧ v = -w) → gQ 5 = upd (upd (gP 5) k (gP 5 k - w)) (k + 1) (gP 5 (k + 1) + w) → (∀ j, j ≠ 5 → j ≠ 8 → j ≠ 9 → gQ j = gP j) → LR (gQ 8) (gQ 9) X → (∀ j, j ≠ 0 → X j = g j) → (∀ i, (i < 100 ∨ 832 ≤ i) → i ≠ 72 + f → i ≠ 60 + o2 → X 0 i = g 0 i) → X 0 (72 + f) = g 0 (72 + f) + v → X 0 (60 + o2) = g 0 (60 + o2) + v → YR o gQ X ∧ (∀ c, c < 12 → gQ 5 c = X 0 (60 + c) - X 0 (72 + c)) ∧ ∀ i, (i < 60 ∨ (84 ≤ i ∧ i < 100) ∨ 832 ≤ i) → X 0 i = g 0 i := by
    intro gQ X f o2 v w hfo q5 qj hl xj x0 x72 x60
    have hf12 : f < 12 ∧ o2 < 12 := by omega
    have t : ∀ i, (i < 60 ∨ (84 ≤ i ∧ i < 100) ∨ 832 ≤ i) → X 0 i = g 0 i := fun i a => x0 i (by omega) (by omega) (by omega)
    refine ⟨⟨fun c hc => ?_, hl, ?_, ⟨?_, ?_, ?_, ?_⟩, ?_⟩, fun c hc => ?_, t⟩
    · rw [qj 0 (by decide) (by decide) (by decide), qj 1 (by decide) (by decide) (by decide), qj 2 (by decide) (by decide) (by decide), qj 3 (by decide) (by decide) (by decide), t c (by omega), t (12 + c) (by omega), t (24 + c) (by omega), t (36 + c) (by omega)]
      exact h1 c hc
    · rw [qj 10 (by decide) (by decide) (by decide), xj 10 (by decide), t 89 (by omega)]
      exact h3
    · rw [qj 11 (by decide) (by decide) (by decide), t 86 (by omega)]
      exact s0
    · rw [qj 11 (by decide) (by decide) (by decide), t 88 (by omega)]
      exact s2
    · rw [qj 11 (by decide) (by decide) (by decide), t 84 (by omega)]
      exact s3
    · rw [qj 11 (by decide) (by decide) (by decide), t 85 (by omega)]
      exact s4
    · rw [qj 11 (by decide) (by decide) (by decide), t 87 (by omega)]
      exact s1
    · rw [q5]
      rcases hfo with ⟨rfl, rfl, rfl⟩ | ⟨rfl, rfl, rfl⟩
      · by_cases e : c = f + 1
        · subst e
          rw [pk_us, x60, x0 (72 + (f + 1)) (by omega) (by omega) (by omega), hg (f + 1) (by omega)]
          grind
        · rw [pk_un e]
          by_cases e2 : c = f
          · subst e2
            rw [pk_us, x72, x0 (60 + c) (by omega) (by omega) (by omega), hg c (by omega)]
            grind
          · rw [pk_un e2, x0 (60 + c) (by omega) (by omega) (by omega), x0 (72 + c) (by omega) (by omega) (by omega)]
            exact hg c hc
      · by_cases e : c = o2 + 1
        · subst e
          rw [pk_us, x72, x0 (60 + (o2 + 1)) (by omega) (by omega) (by omega), hg (o2 + 1) (by omega)]
          grind
        · rw [pk_un e]
          by_cases e2 : c = o2
          · subst e2
            rw [pk_us, x60, x0 (72 + c) (by omega) (by omega) (by omega), hg c (by omega)]
            grind
          · rw [pk_un e2, x0 (60 + c) (by omega) (by omega) (by omega), x0 (72 + c) (by omega) (by omega) (by omega)]
            exact hg c hc
  have P5 : upd (gP 5) k (gP 5 k - gP 6 k) (k + 1) = gP 5 (k + 1) := pk_un (by omega)
  have hB : ∀ f (v : Int32), (if 0 ≤ g 9 k then k else k + 1) = f → (if 0 ≤ g 9 k then g 9 k else -(g 9 k)) = v → mFlowB k g = fX6_flows_L193 k f 61 0 v (va_up g 0 (upd (upd (g 0) (72 + f) (g 0 (72 + f) + v)) (60 + (2 * k + 1 - f)) (g 0 (60 + (2 * k + 1 - f)) + v))) := by
    intro f v hf hv
    unfold mFlowB
    simp only [jn_eq]
    rw [hf, hv]
    have hf2 : f = k ∨ f = k + 1 := by
      rw [← hf]
      split
      · exact Or.inl rfl
      · exact Or.inr rfl
    have q : upd (g 0) (72 + f) (g 0 (72 + f) + v) (60 + (2 * k + 1 - f)) = g 0 (60 + (2 * k + 1 - f)) := pk_un (by omega)
    simp only [up_up, up_t, q]
  by_cases c : gP 6 k ≤ 0
  · by_cases c2 : 0 ≤ gP 6 k
    · -- nothing flows
      have z : gP 6 k = 0 := by
        rw [fa_le] at c c2
        exact (fa_eq _ _).mpr (by omega)
      have z9 : g 9 k = 0 := by rw [← h9]; exact z
      have hb := hB k 0 (by rw [z9]; rfl) (by rw [z9]; rfl)
      obtain ⟨r1, r2, r3, r4, r5⟩ := M k (k + 1) 0 (Or.inl rfl) (by omega) (gP 8) (gP 9) rfl rfl _ rfl
      rw [show 2 * k + 1 - k = k + 1 by omega] at hb
      rw [← hb] at r1 r2 r3 r4 r5
      have hl : LR (gP 8) (gP 9) (mFlowB k g) := by
        have e : fX1_carryEarliest (gP 8) (gP 9) k (k + 1) 0 = (gP 8, gP 9) := by
          unfold fX1_carryEarliest fX1_carryEarliest_L6
          rw [if_pos (by decide)]
        rw [e] at r1
        exact r1
      have F := Fin (va_up gP 5 (upd (upd (gP 5) k (gP 5 k - gP 6 k)) (k + 1) (gP 5 (k + 1) + gP 6 k))) (mFlowB k g) k (k + 1) 0 (gP 6 k) (Or.inl ⟨rfl, rfl, z.symm⟩) rfl (fun j a _ _ => up_n a) hl r2 r3 r4 r5
      refine ⟨_, fun n => ?_, F.1, F.2.1, fun j a _ _ => up_n a, r2, F.2.2⟩
      conv => lhs; unfold fX3_flow_L48
      simp only [jn_eq, if_pos c, if_pos c2, P5]
      congr 1
      funext j
      by_cases e : j = 5
      · subst e
        rw [up_t, up_t]
      · rw [up_n e, up_n e, up_n e]
    · -- it flows back
      have c9 : ¬ 0 ≤ g 9 k := by rw [← h9]; exact c2
      have hb := hB (k + 1) (-(gP 6 k)) (if_neg c9) (by rw [if_neg c9, h9])
      obtain ⟨r1, r2, r3, r4, r5⟩ := M (k + 1) k (-(gP 6 k)) (Or.inr rfl) (by omega) (gP 8) (gP 9) rfl rfl _ rfl
      rw [show 2 * k + 1 - (k + 1) = k by omega] at hb
      rw [← hb] at r1 r2 r3 r4 r5
      have F := Fin (va_up (va_up (va_up gP 5 (upd (upd (gP 5) k (gP 5 k - gP 6 k)) (k + 1) (gP 5 (k + 1) + gP 6 k))) 8 (fX1_carryEarliest (gP 8) (gP 9) (k + 1) k (-(gP 6 k))).1) 9 (fX1_carryEarliest (gP 8) (gP 9) (k + 1) k (-(gP 6 k))).2) (mFlowB k g) (k + 1) k (-(gP 6 k)) (gP 6 k) (Or.inr ⟨rfl, rfl, rfl⟩) rfl (fun j a b d => by rw [up_n d, up_n b, up_n a]) r1 r2 r3 r4 r5
      refine ⟨_, fun n => ?_, F.1, F.2.1, fun j a b d => by rw [up_n d, up_n b, up_n a], r2, F.2.2⟩
      conv => lhs; unfold fX3_flow_L48
      simp only [jn_eq, if_pos c, if_neg c2, P5]
      congr 1
      funext j
      by_cases e : j = 9
      · subst e
        rw [up_t, up_t]
      · rw [up_n e, up_n e]
        by_cases e2 : j = 8
        · subst e2
          rw [up_t, up_t]
        · rw [up_n e2, up_n e2]
          by_cases e3 : j = 5
          · subst e3
            rw [up_t, up_t]
          · rw [up_n e3, up_n e3, up_n e3]
  · have c2 : 0 ≤ g 9 k := by rw [← h9]; exact (fa_of_lt (fa_of_nle c)).1
    have hb := hB k (gP 6 k) (if_pos c2) (by rw [if_pos c2, h9])
    obtain ⟨r1, r2, r3, r4, r5⟩ := M k (k + 1) (gP 6 k) (Or.inl rfl) (by omega) (gP 8) (gP 9) rfl rfl _ rfl
    rw [show 2 * k + 1 - k = k + 1 by omega] at hb
    rw [← hb] at r1 r2 r3 r4 r5
    have F := Fin (va_up (va_up (va_up gP 5 (upd (upd (gP 5) k (gP 5 k - gP 6 k)) (k + 1) (gP 5 (k + 1) + gP 6 k))) 8 (fX1_carryEarliest (gP 8) (gP 9) k (k + 1) (gP 6 k)).1) 9 (fX1_carryEarliest (gP 8) (gP 9) k (k + 1) (gP 6 k)).2) (mFlowB k g) k (k + 1) (gP 6 k) (gP 6 k) (Or.inl ⟨rfl, rfl, rfl⟩) rfl (fun j a b d => by rw [up_n d, up_n b, up_n a]) r1 r2 r3 r4 r5
    refine ⟨_, fun n => ?_, F.1, F.2.1, fun j a b d => by rw [up_n d, up_n b, up_n a], r2, F.2.2⟩
    conv => lhs; unfold fX3_flow_L48
    simp only [jn_eq, if_neg c, P5]
    congr 1
    funext j
    by_cases e : j = 9
    · subst e
      rw [up_t, up_t]
    · rw [up_n e, up_n e]
      by_cases e2 : j = 8
      · subst e2
        rw [up_t, up_t]
      · rw [up_n e2, up_n e2]
        by_cases e3 : j = 5
        · subst e3
          rw [up_t, up_t]
        · rw [up_n e3, up_n e3, up_n e3]
