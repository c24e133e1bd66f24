theorem flows_i {i : Nat} (hi : i < 60) (g : zG) : fX6_flows g 0 i = g 0 i := by
  have H1 : ∀ (k f n q : Nat) (v : Int32) (x : zG), fX6_flows_L193 k f n q v x 0 i = x 0 i := by
    intro k f n
    induction n with
    | zero => intro q v x; unfold fX6_flows_L193; rfl
    | succ n ih =>
      intro q v x
      unfold fX6_flows_L193
      split
      · rfl
      · rw [jn_eq, jn_eq, jn_eq, ih, up_t, pk_un (by omega), up_t, pk_un (by omega)]
  have HB : ∀ (n k : Nat) (x : zG), fX6_flows_L104 n k x 0 i = x 0 i := by
    intro n
    induction n with
    | zero => intro k x; unfold fX6_flows_L104; rfl
    | succ n ih =>
      intro k x
      unfold fX6_flows_L104
      rw [jn_eq, ih]
      unfold mFlowB
      simp only [jn_eq]
      rw [H1, up_t, pk_un (by omega), up_t, pk_un (by omega)]
  have HA : ∀ (n k : Nat) (x : zG), fX6_flows_L36 n k x 0 i = x 0 i := by
    intro n
    induction n with
    | zero => intro k x; unfold fX6_flows_L36; exact HB 11 0 x
    | succ n ih =>
      intro k x
      unfold fX6_flows_L36
      rw [jn_eq, ih]
      unfold mFlowA
      rw [jn_eq, jn_eq, jn_eq, up_n (by decide)]
  have H0 : ∀ (n k : Nat) (x : zG), fX6_flows_L2 n k x 0 i = x 0 i := by
    intro n
    induction n with
    | zero => intro k x; unfold fX6_flows_L2; exact HA 11 0 x
    | succ n ih =>
      intro k x
      unfold fX6_flows_L2
      rw [ih, up_t, pk_un (by omega), pk_un (by omega)]
  exact H0 12 0 g
theorem calves_i {i : Nat} (hi : i < 85) (g : zG) : fX6_calves g 0 i = g 0 i := by
  have H1 : ∀ (c n k : Nat) (x : zG), fX6_calves_L78 c n k x 0 i = x 0 i := by
    intro c n
    induction n with
    | zero => intro k x; unfold fX6_calves_L78; rfl
    | succ n ih =>
      intro k x
      unfold fX6_calves_L78
      rw [ih, up_t, pk_un (by omega)]
  have H : ∀ (n : Nat) (v : Int32) (x : zG), fX6_calves_L5 n v x 0 i = x 0 i := by
    intro n
    induction n with
    | zero => intro v x; unfold fX6_calves_L5; rfl
    | succ n ih =>
      intro v x
      unfold fX6_calves_L5
      split
      · rfl
      · rw [jn_eq, jn_eq, jn_eq, ih]
        generalize (if (fX6_isInSea x n) = 0 then (0 : Int32) else (if fX6_iceOf x n = 0 then 1 else (if (10 * ((x 10 1) - ((x 0) (0 + n)))) ≤ (9 * fX6_iceOf x n) then 0 else 1))) = w
        by_cases c : w = 0
        · rw [if_pos c]
        · rw [if_neg c, jn_eq, H1, up_t, pk_un (by omega)]
  exact H 12 1 g
theorem ends_i {i : Nat} (h1 : 12 ≤ i) (h2 : i < 36) (g : zG) : fX6_ends g 0 i = g 0 i := by
  have H : ∀ (n k : Nat) (v : Int32) (x : zG), k + n = 12 → fX6_ends_L4 n k v x 0 i = x 0 i := by
    intro n
    induction n with
    | zero =>
      intro k v x _
      unfold fX6_ends_L4
      rw [jn_eq]
      split
      · rw [up_t, pk_un (by omega)]
      · rw [up_t, pk_un (by omega), up_t, pk_un (by omega)]
    | succ n ih =>
      intro k v x hk
      unfold fX6_ends_L4
      rw [jn_eq, ih _ _ _ (by omega)]
      unfold mEnd
      simp only [jn_eq]
      rw [up_t, pk_un (by omega)]
  exact H 12 0 (-1) g rfl
theorem wb_year {g : zG} {b yr fb bb w : Nat} (hm : MP g b yr fb bb) (hy : yr < 60) (hb : b + 240 ≤ 1000000) (hbb : bb ≤ 1000) (h : WB (g 0) w) (hw : w + 12000000 ≤ 1000000000) : WB (fX6_passes g 1 0) (w + 12000000) := by
  have S : ∀ (n k : Nat) (x : zG), k + n = 12 → MP x (b + 20 * k) (yr + 1) fb bb → WB (x 0) (w + 1000000 * k) → WB (fX6_snows_L2 n k x 0) (w + 12000000) := by
    intro n
    induction n with
    | zero =>
      intro k x hk hx hwx
      unfold fX6_snows_L2
      rw [show w + 12000000 = w + 1000000 * k by omega]
      exact hwx
    | succ n ih =>
      intro k x hk hx hwx
      unfold fX6_snows_L2
      rw [jn_eq]
      refine ih (k + 1) _ (by omega) (mp_snow hx (by omega) hb) ?_
      rw [show w + 1000000 * (k + 1) = w + 1000000 * k + 1000000 by omega]
      exact wb_snow (by omega) hx (by omega) hbb hwx (by omega)
  have R : ∀ (n k : Nat) (x : zG), k + n = 12 → WB (x 0) (w + 12000000) → WB (fX6_runs_L2 n k x 0) (w + 12000000) := by
    intro n
    induction n with
    | zero => intro k x hk hx; unfold fX6_runs_L2; exact hx
    | succ n ih =>
      intro k x hk hx
      unfold fX6_runs_L2
      rw [jn_eq]
      exact ih (k + 1) _ (by omega) (wb_run (by omega) hx hw)
  have K : ∀ (n k : Nat) (x : zG), k + n = 12 → WB (x 0) (w + 12000000) → WB (fX6_breaks_L2 n k x 0) (w + 12000000) := by
    intro n
    induction n with
    | zero => intro k x hk hx; unfold fX6_breaks_L2; exact hx
    | succ n ih =>
      intro k x hk hx
      unfold fX6_breaks_L2
      rw [jn_eq]
      exact ih (k + 1) _ (by omega) (wb_break (by omega) hx)
  have w1 : WB (va_up g 0 (upd (g 0) 89 (g 0 89 + 1)) 0) w := wb_c h (fun k hk => by rw [up_t, pk_un (by omega)])
  have w2 := S 12 0 _ rfl (mp_year1 hm hy) w1
  unfold fX6_passes fX6_passes_L2
  simp only [jn_eq]
  unfold fX6_passes_L2
  refine wb_c (S := fX6_calves (fX6_breaks (fX6_runs (fX6_flows (fX6_snows (va_up g 0 (upd (g 0) 89 (g 0 89 + 1))))))) 0) ?_ (fun k hk => ends_i (by omega) (by omega) _)
  refine wb_c (S := fX6_breaks (fX6_runs (fX6_flows (fX6_snows (va_up g 0 (upd (g 0) 89 (g 0 89 + 1)))))) 0) ?_ (fun k hk => calves_i (by omega) _)
  unfold fX6_breaks
  refine K 12 0 _ rfl ?_
  unfold fX6_runs
  refine R 12 0 _ rfl ?_
  exact wb_c w2 (fun k hk => flows_i (by omega) _)
