/-- all cells of the law: the object's, the long array, the reference's -/
def KW (h a b na nf : Nat → Nat) (o : Nat) (d : Nat → Nat) (X : zX) (gP gT gA gF : zG) (fo : Nat → Int64) (g : zG) : va_W := [(h 0, .inr (5, [.ref (a 0), .ref (b 0), .ref (na 0), .ref (nf 0)])), (a 0, .inr (3, [.int (gP 10 0), .int (gP 10 1), .int (gP 10 2), .int (gP 10 3), .int (gP 10 4), .ref (a 1), .ref (a 2), .ref (a 3), .ref (a 4), .ref (a 5), .ref (a 6), .ref (a 7), .ref (a 8), .ref (a 9), .ref (a 10), .int (gP 10 5)])), (a 1, .inr (1, [.ref (a 11), .ref (a 12)])), (a 2, .inr (4, [.int (gP 11 0), .int (gP 11 1), .int (gP 11 2), .int (gP 11 3), .int (gP 11 4)])), (a 3, .inl (X.2.1, 12, .inl (gP 0))), (a 4, .inl (X.2.1, 12, .inl (gP 1))), (a 5, .inl (X.2.1, 12, .inl (gP 2))), (a 6, .inl (X.2.1, 12, .inl (gP 3))), (a 7, .inl (X.2.1, 12, .inl (gP 4))), (a 8, .inl (X.2.1, 12, .inl (gP 5))), (a 9, .inl (X.2.1, 11, .inl (gP 6))), (a 10, .inl (X.2.1, 12, .inl (gP 7))), (a 11, .inl (X.2.1, 12, .inl (gP 8))), (a 12, .inl (X.2.1, 732, .inl (gP 9))), (b 0, .inr (3, [.int (gT 10 0), .int (gT 10 1), .int (gT 10 2), .int (gT 10 3), .int (gT 10 4), .ref (b 1), .ref (b 2), .ref (b 3), .ref (b 4), .ref (b 5), .ref (b 6), .ref (b 7), .ref (b 8), .ref (b 9), .ref (b 10), .int (gT 10 5)])), (b 1, .inr (1, [.ref (b 11), .ref (b 12)])), (b 2, .inr (4, [.int (gT 11 0), .int (gT 11 1), .int (gT 11 2), .int (gT 11 3), .int (gT 11 4)])), (b 3, .inl (X.2.1, 12, .inl (gT 0))), (b 4, .inl (X.2.1, 12, .inl (gT 1))), (b 5, .inl (X.2.1, 12, .inl (gT 2))), (b 6, .inl (X.2.1, 12, .inl (gT 3))), (b 7, .inl (X.2.1, 12, .inl (gT 4))), (b 8, .inl (X.2.1, 12, .inl (gT 5))), (b 9, .inl (X.2.1, 11, .inl (gT 6))), (b 10, .inl (X.2.1, 12, .inl (gT 7))), (b 11, .inl (X.2.1, 12, .inl (gT 8))), (b 12, .inl (X.2.1, 732, .inl (gT 9))), (na 0, .inr (0, [.ref (na 1), .ref (na 2), .ref (na 3), .ref (na 4), .ref (na 5), .ref (na 6), .int (gA 6 0)])), (na 1, .inl (X.2.2.1, 61, .inl (gA 0))), (na 2, .inl (X.2.1, 61, .inl (gA 1))), (na 3, .inl (X.2.1, 61, .inl (gA 2))), (na 4, .inl (X.2.1, 720, .inl (gA 3))), (na 5, .inl (X.2.1, 720, .inl (gA 4))), (na 6, .inl (X.2.1, 720, .inl (gA 5))), (nf 0, .inr (2, [.ref (nf 1), .ref (nf 2), .int (gF 2 0)])), (nf 1, .inl (X.2.1, 10, .inl (gF 0))), (nf 2, .inl (X.2.1, 10, .inl (gF 1))), (o, .inl (X.2.2.2, 1, .inr (.inl fo))), (d 0, .inr (6, [.int (g 10 0), .int (g 10 1), .int (g 10 2), .int (g 10 3), .int (g 10 4), .ref (d 1), .ref (d 2), .ref (d 3), .ref (d 4), .ref (d 5), .ref (d 6), .int (g 10 5), .ref (d 7), .ref (d 8), .ref (d 9), .ref (d 10)])), (d 1, .inl (X.2.1, 1024, .inl (g 0))), (d 2, .inl (X.2.1, 1024, .inl (g 1))), (d 3, .inl (X.2.2.1, 61, .inl (g 2))), (d 4, .inl (X.2.1, 720, .inl (g 3))), (d 5, .inl (X.2.1, 720, .inl (g 4))), (d 6, .inl (X.2.1, 720, .inl (g 5))), (d 7, .inl (X.2.1, 10, .inl (g 6))), (d 8, .inl (X.2.1, 10, .inl (g 7))), (d 9, .inl (X.2.1, 10, .inl (g 8))), (d 10, .inl (X.2.1, 11, .inl (g 9)))]
theorem lg_cmp_self (x : Int64) : lg_cmp x x = 0 := by
  first | (unfold lg_cmp; rw [if_neg (Int64.lt_irrefl x)]; simp; done) | (unfold lg_cmp; simp; done) | simp [lg_cmp, Int64.lt_irrefl]
section LW1
variable {p : Program} {l : Launch} {e : Env} {s : State} {m : MethodId} {args : Array Value} {below : List Frame} {meth : Method} {c : Code} {cells slots : Nat} {Q : State → Prop} {X : zX} {A : Nat → Prop} {nL pc : Nat} {cc : ByteArray} {own : String} {Ts : List Cond} {ret : Option FieldType} {ws : va_W} {lv : List (Nat × Value)} {st : List Value} {R : Room}
theorem z_sld (C : ZC p s m args meth c X A nL cc own Ts ret) {b0 L : Nat} {sc : Nat → Int32} (hX : va_X b0 L sc s s.heap) (hbl : b0 < s.heap.size) (hbA : ¬ A b0) {x : Int32} (j : Nat) (d : decode cc pc = .ok (.iaload, 1)) (hx : x = nI j) (hj : j < L) (hL : L ≤ 2048) (k : Z p l e R s m args below meth c X A nL Q cells slots ws lv (pc + 1) (.int (sc j) :: st)) : Z p l e R s m args below meth c X A nL Q cells slots ws lv pc (.int x :: .ref b0 :: st) := by
  subst hx
  intro H locs ls hP hD hS hl
  refine va_sld C.ex C.cb hX hbl hbA hS (vp_in_nI hj (by omega)) d ?_
  rw [nI_clamp (by omega)]
  exact k H locs ls hP hD hS hl
theorem z_slen (C : ZC p s m args meth c X A nL cc own Ts ret) {b0 L : Nat} {sc : Nat → Int32} (hX : va_X b0 L sc s s.heap) (hbl : b0 < s.heap.size) (hbA : ¬ A b0) (d : decode cc pc = .ok (.arraylength, 1)) (k : Z p l e R s m args below meth c X A nL Q cells slots ws lv (pc + 1) (.int (nI L) :: st)) : Z p l e R s m args below meth c X A nL Q cells slots ws lv pc (.ref b0 :: st) :=
  fun H locs ls hP hD hS hl => va_slen C.ex C.cb hX hbl hbA hS d (k H locs ls hP hD hS hl)
end LW1
set_option maxHeartbeats 4000000 in
set_option maxRecDepth 100000 in
theorem bL_land {p : Program} {l : Launch} {e : Env} {s : State} {m : MethodId} {args : Array Value} {below : List Frame} {meth : Method} {c : Code} {Q : State → Prop} {X : zX} {A : Nat → Prop} (C : ZC p s m args meth c X A 7 cL_law RL wsL_law (some .boolean)) (hxw : xW s) (hxs : xS A s s.heap) {b0 L : Nat} {sc : Nat → Int32} (hX : va_X b0 L sc s s.heap) (hbl : b0 < s.heap.size) (hbA : ¬ A b0) (hL : L ≤ 2048) (h a b na nf : Nat → Nat) (o : Nat) (d : Nat → Nat) (gP gT gA gF g : zG) (fo : Nat → Int64) (i : Nat) (hi : i + 4 ≤ L) (cells slots : Nat) (hc : cells + 1 ≤ 1082) (hs : slots + 6 ≤ 16674) (gP1 gT1 gA1 gF1 g1 : zG) (fo1 : Nat → Int64) {fr6 lo6 : Nat} (r rb : Int32) (hE : CE l yL_land wsL_land 9 200 1 6 X (HW h a b na nf o X gP gT gA gF fo) [.ref (h 0), .int (sc (i + 1)), .int (sc (i + 2)), .ref o] r (HW h a b na nf o X gP1 gT1 gA1 gF1 fo1)) (hM : CI l yX6_land wsX6_land fr6 lo6 0 0 X (MW d X g) (.ref (d 0) :: [.int (sc (i + 1)), .int (sc (i + 2))]) rb (MW d X g1)) (hR6 : fr6 + 1 ≤ 11 ∧ 8 + (5 + 11) + lo6 ≤ 390) (h10 : g1 10 0 = r) (heq : r = 0 → fo1 0 = rb.toInt64) (k : Z p l e room_1 s m args below meth c X A 7 Q (cells + 1) (slots + 6) (KW h a b na nf o d X gP1 gT1 gA1 gF1 fo1 g1) [(0, .ref b0), (1, .ref (h 0)), (2, .ref (d 0)), (3, .ref o), (4, .int (nI i))] 1115 []) : Z p l e room_1 s m args below meth c X A 7 Q cells slots (KW h a b na nf o d X gP gT gA gF fo g) [(0, .ref b0), (1, .ref (h 0)), (2, .ref (d 0)), (3, .ref o), (4, .int (nI i))] 124 [] := by
  refine z_aln C dL_law_124 1 rfl ?_
  refine z_aln C dL_law_125 0 rfl ?_
  refine z_il C dL_law_126 4 rfl ?_
  refine z_ic C dL_law_128 1 (by decide) ?_
  refine z_iadd C dL_law_129 (nI (i + 1)) (nI_add i 1) ?_
  refine z_sld C hX hbl hbA (i + 1) dL_law_130 rfl (by omega) hL ?_
  refine z_aln C dL_law_131 0 rfl ?_
  refine z_il C dL_law_132 4 rfl ?_
  refine z_ic C dL_law_134 2 (by decide) ?_
  refine z_iadd C dL_law_135 (nI (i + 2)) (nI_add i 2) ?_
  refine z_sld C hX hbl hbA (i + 2) dL_law_136 rfl (by omega) hL ?_
  refine z_aln C dL_law_137 3 rfl ?_
  refine z_cE (As := [.ref (h 0), .int (sc (i + 1)), .int (sc (i + 2)), .ref o]) (rest := []) C hxw hxs hE gL_law_L_land rfl ⟨by decide, by decide, (by decide : (parseMethodDescriptor yL_land.desc).map (fun d => d.parameters.length) = some 4)⟩ ⟨by decide, by decide⟩ ⟨hc, hs⟩ [0, 1, 2, 3, 4, 5, 6, 7, 8, 9, 10, 11, 12, 13, 14, 15, 16, 17, 18, 19, 20, 21, 22, 23, 24, 25, 26, 27, 28, 29, 30, 31, 32, 33, 34, 35, 36, 37] [38, 39, 40, 41, 42, 43, 44, 45, 46, 47, 48] [11, 12, 13, 14, 15, 16, 17, 18, 19, 20, 21, 22, 23, 24, 25, 26, 27, 28, 29, 30, 31, 32, 33, 34, 35, 36, 37, 38, 39, 40, 41, 42, 43, 44, 45, 46, 47, 48, 0, 1, 2, 3, 4, 5, 6, 7, 8, 9, 10] rfl rfl (by decide) (by decide) (by decide) (by decide) (KW h a b na nf o d X gP1 gT1 gA1 gF1 fo1 g) rfl (Nat.le_of_ble_eq_true rfl) dL_law_138 rfl ?_
  refine z_is C [(5, .int r), (0, .ref b0), (1, .ref (h 0)), (2, .ref (d 0)), (3, .ref o), (4, .int (nI i))] dL_law_141 (by decide) rfl ?_
  refine z_aln C dL_law_143 3 rfl ?_
  refine z_aln C dL_law_144 1 rfl ?_
  refine z_il C dL_law_145 5 rfl ?_
  refine z_ic C dL_law_147 1 (by decide) ?_
  refine z_iadd C dL_law_148 (nI (i + 1)) (nI_add i 1) ?_
  refine z_sld C hX hbl hbA (i + 1) dL_law_149 rfl (by omega) hL ?_
  refine z_aln C dL_law_150 1 rfl ?_
  refine z_il C dL_law_151 5 rfl ?_
  refine z_ic C dL_law_153 2 (by decide) ?_
  refine z_iadd C dL_law_154 (nI (i + 2)) (nI_add i 2) ?_
  refine z_sld C hX hbl hbA (i + 2) dL_law_155 rfl (by omega) hL ?_
  refine z_cVi (As := [.int (sc (i + 1)), .int (sc (i + 2))]) (rest := []) C hM gL_law_X6_land rfl ⟨rfl, by decide, by decide, (by decide : (parseMethodDescriptor yX6_land.desc).map (fun d => d.parameters.length) = some 2)⟩ hR6 ⟨hc, hs⟩ 0 6 rfl rfl [38, 39, 40, 41, 42, 43, 44, 45, 46, 47, 48] [0, 1, 2, 3, 4, 5, 6, 7, 8, 9, 10, 11, 12, 13, 14, 15, 16, 17, 18, 19, 20, 21, 22, 23, 24, 25, 26, 27, 28, 29, 30, 31, 32, 33, 34, 35, 36, 37] [0, 1, 2, 3, 4, 5, 6, 7, 8, 9, 10, 11, 12, 13, 14, 15, 16, 17, 18, 19, 20, 21, 22, 23, 24, 25, 26, 27, 28, 29, 30, 31, 32, 33, 34, 35, 36, 37, 38, 39, 40, 41, 42, 43, 44, 45, 46, 47, 48] rfl rfl (by decide) (by decide) (by decide) (by decide) (KW h a b na nf o d X gP1 gT1 gA1 gF1 fo1 g1) rfl (Nat.le_of_ble_eq_true rfl) dL_law_156 rfl ?_
  refine z_is C [(6, .int rb), (5, .int r), (0, .ref b0), (1, .ref (h 0)), (2, .ref (d 0)), (3, .ref o), (4, .int (nI i))] dL_law_159 (by decide) rfl ?_
  refine z_aln C dL_law_161 4 rfl ?_
  refine z_cVi (As := []) (rest := []) C (mX6_thrown l X d g1) gL_law_X6_thrown rfl ⟨rfl, by decide, by decide, (by decide : (parseMethodDescriptor yX6_thrown.desc).map (fun d => d.parameters.length) = some 0)⟩ ⟨by decide, by decide⟩ ⟨hc, hs⟩ 0 6 rfl rfl [38, 39, 40, 41, 42, 43, 44, 45, 46, 47, 48] [0, 1, 2, 3, 4, 5, 6, 7, 8, 9, 10, 11, 12, 13, 14, 15, 16, 17, 18, 19, 20, 21, 22, 23, 24, 25, 26, 27, 28, 29, 30, 31, 32, 33, 34, 35, 36, 37] [0, 1, 2, 3, 4, 5, 6, 7, 8, 9, 10, 11, 12, 13, 14, 15, 16, 17, 18, 19, 20, 21, 22, 23, 24, 25, 26, 27, 28, 29, 30, 31, 32, 33, 34, 35, 36, 37, 38, 39, 40, 41, 42, 43, 44, 45, 46, 47, 48] rfl rfl (by decide) (by decide) (by decide) (by decide) (KW h a b na nf o d X gP1 gT1 gA1 gF1 fo1 g1) rfl (Nat.le_of_ble_eq_true rfl) dL_law_162 rfl ?_
  refine z_il C dL_law_165 1 rfl ?_
  refine z_ic_eq C 172 dL_law_167 (by decide) (fun _ => ?_) (fun h => absurd h10 h)
  have k2 : Z p l e room_1 s m args below meth c X A 7 Q (cells + 1) (slots + 6) (KW h a b na nf o d X gP1 gT1 gA1 gF1 fo1 g1) [(6, .int rb), (5, .int r), (0, .ref b0), (1, .ref (h 0)), (2, .ref (d 0)), (3, .ref o), (4, .int (nI i))] 189 [] := by
    refine z_go C 1115 dL_law_189 (by decide) ?_
    exact z_lv [2, 3, 4, 5, 6] [(0, .ref b0), (1, .ref (h 0)), (2, .ref (d 0)), (3, .ref o), (4, .int (nI i))] rfl k
  refine z_il C dL_law_172 1 rfl ?_
  refine z_if_ne C 189 dL_law_174 (by decide) (fun _ => k2) (fun hr => ?_)
  refine z_aln C dL_law_177 5 rfl ?_
  refine z_ic C dL_law_178 0 (by decide) ?_
  refine z_lald C 37 0 dL_law_179 rfl (by decide) (by decide) (by decide) ?_
  refine z_il C dL_law_180 0 rfl ?_
  refine z_i2l C dL_law_182 rb.toInt64 rfl ?_
  refine z_lcmp C dL_law_183 ?_
  exact z_if_eq C 189 dL_law_184 (by decide) (fun _ => k2) (fun h => absurd (by rw [heq hr]; exact lg_cmp_self _) h)
set_option maxHeartbeats 4000000 in
set_option maxRecDepth 100000 in
theorem bL_sea {p : Program} {l : Launch} {e : Env} {s : State} {m : MethodId} {args : Array Value} {below : List Frame} {meth : Method} {c : Code} {Q : State → Prop} {X : zX} {A : Nat → Prop} (C : ZC p s m args meth c X A 7 cL_law RL wsL_law (some .boolean)) (hxw : xW s) (hxs : xS A s s.heap) {b0 L : Nat} {sc : Nat → Int32} (hX : va_X b0 L sc s s.heap) (hbl : b0 < s.heap.size) (hbA : ¬ A b0) (hL : L ≤ 2048) (h a b na nf : Nat → Nat) (o : Nat) (d : Nat → Nat) (gP gT gA gF g : zG) (fo : Nat → Int64) (i : Nat) (hi : i + 4 ≤ L) (cells slots : Nat) (hc : cells + 1 ≤ 1082) (hs : slots + 6 ≤ 16674) (gP1 gT1 gA1 gF1 g1 : zG) (fo1 : Nat → Int64) {fr6 lo6 : Nat} (r rb : Int32) (hE : CE l yL_sea wsL_sea 9 200 1 6 X (HW h a b na nf o X gP gT gA gF fo) [.ref (h 0), .int (sc (i + 1)), .ref o] r (HW h a b na nf o X gP1 gT1 gA1 gF1 fo1)) (hM : CI l yX6_sea wsX6_sea fr6 lo6 0 0 X (MW d X g) (.ref (d 0) :: [.int (sc (i + 1))]) rb (MW d X g1)) (hR6 : fr6 + 1 ≤ 11 ∧ 8 + (3 + 11) + lo6 ≤ 390) (h10 : g1 10 0 = r) (heq : r = 0 → fo1 0 = rb.toInt64) (k : Z p l e room_1 s m args below meth c X A 7 Q (cells + 1) (slots + 6) (KW h a b na nf o d X gP1 gT1 gA1 gF1 fo1 g1) [(0, .ref b0), (1, .ref (h 0)), (2, .ref (d 0)), (3, .ref o), (4, .int (nI i))] 1115 []) : Z p l e room_1 s m args below meth c X A 7 Q cells slots (KW h a b na nf o d X gP gT gA gF fo g) [(0, .ref b0), (1, .ref (h 0)), (2, .ref (d 0)), (3, .ref o), (4, .int (nI i))] 192 [] := by
  refine z_aln C dL_law_192 1 rfl ?_
  refine z_aln C dL_law_193 0 rfl ?_
  refine z_il C dL_law_194 4 rfl ?_
  refine z_ic C dL_law_196 1 (by decide) ?_
  refine z_iadd C dL_law_197 (nI (i + 1)) (nI_add i 1) ?_
  refine z_sld C hX hbl hbA (i + 1) dL_law_198 rfl (by omega) hL ?_
  refine z_aln C dL_law_199 3 rfl ?_
  refine z_cE (As := [.ref (h 0), .int (sc (i + 1)), .ref o]) (rest := []) C hxw hxs hE gL_law_L_sea rfl ⟨by decide, by decide, (by decide : (parseMethodDescriptor yL_sea.desc).map (fun d => d.parameters.length) = some 3)⟩ ⟨by decide, by decide⟩ ⟨hc, hs⟩ [0, 1, 2, 3, 4, 5, 6, 7, 8, 9, 10, 11, 12, 13, 14, 15, 16, 17, 18, 19, 20, 21, 22, 23, 24, 25, 26, 27, 28, 29, 30, 31, 32, 33, 34, 35, 36, 37] [38, 39, 40, 41, 42, 43, 44, 45, 46, 47, 48] [11, 12, 13, 14, 15, 16, 17, 18, 19, 20, 21, 22, 23, 24, 25, 26, 27, 28, 29, 30, 31, 32, 33, 34, 35, 36, 37, 38, 39, 40, 41, 42, 43, 44, 45, 46, 47, 48, 0, 1, 2, 3, 4, 5, 6, 7, 8, 9, 10] rfl rfl (by decide) (by decide) (by decide) (by decide) (KW h a b na nf o d X gP1 gT1 gA1 gF1 fo1 g) rfl (Nat.le_of_ble_eq_true rfl) dL_law_200 rfl ?_
  refine z_is C [(5, .int r), (0, .ref b0), (1, .ref (h 0)), (2, .ref (d 0)), (3, .ref o), (4, .int (nI i))] dL_law_203 (by decide) rfl ?_
  refine z_aln C dL_law_205 3 rfl ?_
  refine z_aln C dL_law_206 1 rfl ?_
  refine z_il C dL_law_207 5 rfl ?_
  refine z_ic C dL_law_209 1 (by decide) ?_
  refine z_iadd C dL_law_210 (nI (i + 1)) (nI_add i 1) ?_
  refine z_sld C hX hbl hbA (i + 1) dL_law_211 rfl (by omega) hL ?_
  refine z_cVi (As := [.int (sc (i + 1))]) (rest := []) C hM gL_law_X6_sea rfl ⟨rfl, by decide, by decide, (by decide : (parseMethodDescriptor yX6_sea.desc).map (fun d => d.parameters.length) = some 1)⟩ hR6 ⟨hc, hs⟩ 0 6 rfl rfl [38, 39, 40, 41, 42, 43, 44, 45, 46, 47, 48] [0, 1, 2, 3, 4, 5, 6, 7, 8, 9, 10, 11, 12, 13, 14, 15, 16, 17, 18, 19, 20, 21, 22, 23, 24, 25, 26, 27, 28, 29, 30, 31, 32, 33, 34, 35, 36, 37] [0, 1, 2, 3, 4, 5, 6, 7, 8, 9, 10, 11, 12, 13, 14, 15, 16, 17, 18, 19, 20, 21, 22, 23, 24, 25, 26, 27, 28, 29, 30, 31, 32, 33, 34, 35, 36, 37, 38, 39, 40, 41, 42, 43, 44, 45, 46, 47, 48] rfl rfl (by decide) (by decide) (by decide) (by decide) (KW h a b na nf o d X gP1 gT1 gA1 gF1 fo1 g1) rfl (Nat.le_of_ble_eq_true rfl) dL_law_212 rfl ?_
  refine z_is C [(6, .int rb), (5, .int r), (0, .ref b0), (1, .ref (h 0)), (2, .ref (d 0)), (3, .ref o), (4, .int (nI i))] dL_law_215 (by decide) rfl ?_
  refine z_aln C dL_law_217 4 rfl ?_
  refine z_cVi (As := []) (rest := []) C (mX6_thrown l X d g1) gL_law_X6_thrown rfl ⟨rfl, by decide, by decide, (by decide : (parseMethodDescriptor yX6_thrown.desc).map (fun d => d.parameters.length) = some 0)⟩ ⟨by decide, by decide⟩ ⟨hc, hs⟩ 0 6 rfl rfl [38, 39, 40, 41, 42, 43, 44, 45, 46, 47, 48] [0, 1, 2, 3, 4, 5, 6, 7, 8, 9, 10, 11, 12, 13, 14, 15, 16, 17, 18, 19, 20, 21, 22, 23, 24, 25, 26, 27, 28, 29, 30, 31, 32, 33, 34, 35, 36, 37] [0, 1, 2, 3, 4, 5, 6, 7, 8, 9, 10, 11, 12, 13, 14, 15, 16, 17, 18, 19, 20, 21, 22, 23, 24, 25, 26, 27, 28, 29, 30, 31, 32, 33, 34, 35, 36, 37, 38, 39, 40, 41, 42, 43, 44, 45, 46, 47, 48] rfl rfl (by decide) (by decide) (by decide) (by decide) (KW h a b na nf o d X gP1 gT1 gA1 gF1 fo1 g1) rfl (Nat.le_of_ble_eq_true rfl) dL_law_218 rfl ?_
  refine z_il C dL_law_221 1 rfl ?_
  refine z_ic_eq C 228 dL_law_223 (by decide) (fun _ => ?_) (fun h => absurd h10 h)
  have k2 : Z p l e room_1 s m args below meth c X A 7 Q (cells + 1) (slots + 6) (KW h a b na nf o d X gP1 gT1 gA1 gF1 fo1 g1) [(6, .int rb), (5, .int r), (0, .ref b0), (1, .ref (h 0)), (2, .ref (d 0)), (3, .ref o), (4, .int (nI i))] 245 [] := by
    refine z_go C 1115 dL_law_245 (by decide) ?_
    exact z_lv [2, 3, 4, 5, 6] [(0, .ref b0), (1, .ref (h 0)), (2, .ref (d 0)), (3, .ref o), (4, .int (nI i))] rfl k
  refine z_il C dL_law_228 1 rfl ?_
  refine z_if_ne C 245 dL_law_230 (by decide) (fun _ => k2) (fun hr => ?_)
  refine z_aln C dL_law_233 5 rfl ?_
  refine z_ic C dL_law_234 0 (by decide) ?_
  refine z_lald C 37 0 dL_law_235 rfl (by decide) (by decide) (by decide) ?_
  refine z_il C dL_law_236 0 rfl ?_
  refine z_i2l C dL_law_238 rb.toInt64 rfl ?_
  refine z_lcmp C dL_law_239 ?_
  exact z_if_eq C 245 dL_law_240 (by decide) (fun _ => k2) (fun h => absurd (by rw [heq hr]; exact lg_cmp_self _) h)
set_option maxHeartbeats 4000000 in
set_option maxRecDepth 100000 in
theorem bL_climate {p : Program} {l : Launch} {e : Env} {s : State} {m : MethodId} {args : Array Value} {below : List Frame} {meth : Method} {c : Code} {Q : State → Prop} {X : zX} {A : Nat → Prop} (C : ZC p s m args meth c X A 7 cL_law RL wsL_law (some .boolean)) (hxw : xW s) (hxs : xS A s s.heap) {b0 L : Nat} {sc : Nat → Int32} (hX : va_X b0 L sc s s.heap) (hbl : b0 < s.heap.size) (hbA : ¬ A b0) (hL : L ≤ 2048) (h a b na nf : Nat → Nat) (o : Nat) (d : Nat → Nat) (gP gT gA gF g : zG) (fo : Nat → Int64) (i : Nat) (hi : i + 4 ≤ L) (cells slots : Nat) (hc : cells + 1 ≤ 1082) (hs : slots + 6 ≤ 16674) (gP1 gT1 gA1 gF1 g1 : zG) (fo1 : Nat → Int64) {fr6 lo6 : Nat} (r : Int32) (hE : CE l yL_climate wsL_climate 9 200 1 6 X (HW h a b na nf o X gP gT gA gF fo) [.ref (h 0), .int (sc (i + 1)), .int (sc (i + 2)), .int (sc (i + 3))] r (HW h a b na nf o X gP1 gT1 gA1 gF1 fo1)) (hM : CV l yX6_climate wsX6_climate fr6 lo6 0 0 X (MW d X g) (.ref (d 0) :: [.int (sc (i + 1)), .int (sc (i + 2)), .int (sc (i + 3))]) (MW d X g1)) (hR6 : fr6 + 1 ≤ 11 ∧ 8 + (4 + 11) + lo6 ≤ 390) (h10 : g1 10 0 = r) (k : Z p l e room_1 s m args below meth c X A 7 Q (cells + 1) (slots + 6) (KW h a b na nf o d X gP1 gT1 gA1 gF1 fo1 g1) [(0, .ref b0), (1, .ref (h 0)), (2, .ref (d 0)), (3, .ref o), (4, .int (nI i))] 1115 []) : Z p l e room_1 s m args below meth c X A 7 Q cells slots (KW h a b na nf o d X gP gT gA gF fo g) [(0, .ref b0), (1, .ref (h 0)), (2, .ref (d 0)), (3, .ref o), (4, .int (nI i))] 248 [] := by
  refine z_aln C dL_law_248 1 rfl ?_
  refine z_aln C dL_law_249 0 rfl ?_
  refine z_il C dL_law_250 4 rfl ?_
  refine z_ic C dL_law_252 1 (by decide) ?_
  refine z_iadd C dL_law_253 (nI (i + 1)) (nI_add i 1) ?_
  refine z_sld C hX hbl hbA (i + 1) dL_law_254 rfl (by omega) hL ?_
  refine z_aln C dL_law_255 0 rfl ?_
  refine z_il C dL_law_256 4 rfl ?_
  refine z_ic C dL_law_258 2 (by decide) ?_
  refine z_iadd C dL_law_259 (nI (i + 2)) (nI_add i 2) ?_
  refine z_sld C hX hbl hbA (i + 2) dL_law_260 rfl (by omega) hL ?_
  refine z_aln C dL_law_261 0 rfl ?_
  refine z_il C dL_law_262 4 rfl ?_
  refine z_ic C dL_law_264 3 (by decide) ?_
  refine z_iadd C dL_law_265 (nI (i + 3)) (nI_add i 3) ?_
  refine z_sld C hX hbl hbA (i + 3) dL_law_266 rfl (by omega) hL ?_
  refine z_cE (As := [.ref (h 0), .int (sc (i + 1)), .int (sc (i + 2)), .int (sc (i + 3))]) (rest := []) C hxw hxs hE gL_law_L_climate rfl ⟨by decide, by decide, (by decide : (parseMethodDescriptor yL_climate.desc).map (fun d => d.parameters.length) = some 4)⟩ ⟨by decide, by decide⟩ ⟨hc, hs⟩ [0, 1, 2, 3, 4, 5, 6, 7, 8, 9, 10, 11, 12, 13, 14, 15, 16, 17, 18, 19, 20, 21, 22, 23, 24, 25, 26, 27, 28, 29, 30, 31, 32, 33, 34, 35, 36, 37] [38, 39, 40, 41, 42, 43, 44, 45, 46, 47, 48] [11, 12, 13, 14, 15, 16, 17, 18, 19, 20, 21, 22, 23, 24, 25, 26, 27, 28, 29, 30, 31, 32, 33, 34, 35, 36, 37, 38, 39, 40, 41, 42, 43, 44, 45, 46, 47, 48, 0, 1, 2, 3, 4, 5, 6, 7, 8, 9, 10] rfl rfl (by decide) (by decide) (by decide) (by decide) (KW h a b na nf o d X gP1 gT1 gA1 gF1 fo1 g) rfl (Nat.le_of_ble_eq_true rfl) dL_law_267 rfl ?_
  refine z_is C [(5, .int r), (0, .ref b0), (1, .ref (h 0)), (2, .ref (d 0)), (3, .ref o), (4, .int (nI i))] dL_law_270 (by decide) rfl ?_
  refine z_aln C dL_law_272 3 rfl ?_
  refine z_aln C dL_law_273 1 rfl ?_
  refine z_il C dL_law_274 5 rfl ?_
  refine z_ic C dL_law_276 1 (by decide) ?_
  refine z_iadd C dL_law_277 (nI (i + 1)) (nI_add i 1) ?_
  refine z_sld C hX hbl hbA (i + 1) dL_law_278 rfl (by omega) hL ?_
  refine z_aln C dL_law_279 1 rfl ?_
  refine z_il C dL_law_280 5 rfl ?_
  refine z_ic C dL_law_282 2 (by decide) ?_
  refine z_iadd C dL_law_283 (nI (i + 2)) (nI_add i 2) ?_
  refine z_sld C hX hbl hbA (i + 2) dL_law_284 rfl (by omega) hL ?_
  refine z_aln C dL_law_285 1 rfl ?_
  refine z_il C dL_law_286 5 rfl ?_
  refine z_ic C dL_law_288 3 (by decide) ?_
  refine z_iadd C dL_law_289 (nI (i + 3)) (nI_add i 3) ?_
  refine z_sld C hX hbl hbA (i + 3) dL_law_290 rfl (by omega) hL ?_
  refine z_cVu (w1 := fun _ : Unit => (MW d X g1)) (As := [.int (sc (i + 1)), .int (sc (i + 2)), .int (sc (i + 3))]) (rest := []) C hM gL_law_X6_climate rfl ⟨rfl, by decide, by decide, (by decide : (parseMethodDescriptor yX6_climate.desc).map (fun d => d.parameters.length) = some 3)⟩ hR6 ⟨hc, hs⟩ 0 6 rfl rfl [38, 39, 40, 41, 42, 43, 44, 45, 46, 47, 48] [0, 1, 2, 3, 4, 5, 6, 7, 8, 9, 10, 11, 12, 13, 14, 15, 16, 17, 18, 19, 20, 21, 22, 23, 24, 25, 26, 27, 28, 29, 30, 31, 32, 33, 34, 35, 36, 37] [0, 1, 2, 3, 4, 5, 6, 7, 8, 9, 10, 11, 12, 13, 14, 15, 16, 17, 18, 19, 20, 21, 22, 23, 24, 25, 26, 27, 28, 29, 30, 31, 32, 33, 34, 35, 36, 37, 38, 39, 40, 41, 42, 43, 44, 45, 46, 47, 48] rfl rfl (by decide) (by decide) (by decide) (by decide) (fun _ => (KW h a b na nf o d X gP1 gT1 gA1 gF1 fo1 g1)) (fun _ => rfl) (Nat.le_of_ble_eq_true rfl) dL_law_291 rfl (fun _ => ?_)
  refine z_aln C dL_law_294 3 rfl ?_
  refine z_cVi (As := []) (rest := []) C (mX6_thrown l X d g1) gL_law_X6_thrown rfl ⟨rfl, by decide, by decide, (by decide : (parseMethodDescriptor yX6_thrown.desc).map (fun d => d.parameters.length) = some 0)⟩ ⟨by decide, by decide⟩ ⟨hc, hs⟩ 0 6 rfl rfl [38, 39, 40, 41, 42, 43, 44, 45, 46, 47, 48] [0, 1, 2, 3, 4, 5, 6, 7, 8, 9, 10, 11, 12, 13, 14, 15, 16, 17, 18, 19, 20, 21, 22, 23, 24, 25, 26, 27, 28, 29, 30, 31, 32, 33, 34, 35, 36, 37] [0, 1, 2, 3, 4, 5, 6, 7, 8, 9, 10, 11, 12, 13, 14, 15, 16, 17, 18, 19, 20, 21, 22, 23, 24, 25, 26, 27, 28, 29, 30, 31, 32, 33, 34, 35, 36, 37, 38, 39, 40, 41, 42, 43, 44, 45, 46, 47, 48] rfl rfl (by decide) (by decide) (by decide) (by decide) (KW h a b na nf o d X gP1 gT1 gA1 gF1 fo1 g1) rfl (Nat.le_of_ble_eq_true rfl) dL_law_295 rfl ?_
  refine z_il C dL_law_298 0 rfl ?_
  refine z_ic_eq C 305 dL_law_300 (by decide) (fun _ => ?_) (fun h => absurd h10 h)
  refine z_go C 1115 dL_law_305 (by decide) ?_
  refine z_lv [1, 2, 3, 4, 5] [(0, .ref b0), (1, .ref (h 0)), (2, .ref (d 0)), (3, .ref o), (4, .int (nI i))] rfl ?_
  exact k
set_option maxHeartbeats 4000000 in
set_option maxRecDepth 100000 in
theorem bL_ice {p : Program} {l : Launch} {e : Env} {s : State} {m : MethodId} {args : Array Value} {below : List Frame} {meth : Method} {c : Code} {Q : State → Prop} {X : zX} {A : Nat → Prop} (C : ZC p s m args meth c X A 7 cL_law RL wsL_law (some .boolean)) (hxw : xW s) (hxs : xS A s s.heap) {b0 L : Nat} {sc : Nat → Int32} (hX : va_X b0 L sc s s.heap) (hbl : b0 < s.heap.size) (hbA : ¬ A b0) (hL : L ≤ 2048) (h a b na nf : Nat → Nat) (o : Nat) (d : Nat → Nat) (gP gT gA gF g : zG) (fo : Nat → Int64) (i : Nat) (hi : i + 4 ≤ L) (cells slots : Nat) (hc : cells + 1 ≤ 1082) (hs : slots + 6 ≤ 16674) (gP1 gT1 gA1 gF1 g1 : zG) (fo1 : Nat → Int64) {fr6 lo6 : Nat} (r rb : Int32) (hE : CE l yL_ice wsL_ice 9 200 1 6 X (HW h a b na nf o X gP gT gA gF fo) [.ref (h 0), .int (sc (i + 1)), .int (sc (i + 2)), .ref o] r (HW h a b na nf o X gP1 gT1 gA1 gF1 fo1)) (hM : CI l yX6_ice wsX6_ice fr6 lo6 0 0 X (MW d X g) (.ref (d 0) :: [.int (sc (i + 1)), .int (sc (i + 2))]) rb (MW d X g1)) (hR6 : fr6 + 1 ≤ 11 ∧ 8 + (5 + 11) + lo6 ≤ 390) (h10 : g1 10 0 = r) (heq : r = 0 → fo1 0 = rb.toInt64) (k : Z p l e room_1 s m args below meth c X A 7 Q (cells + 1) (slots + 6) (KW h a b na nf o d X gP1 gT1 gA1 gF1 fo1 g1) [(0, .ref b0), (1, .ref (h 0)), (2, .ref (d 0)), (3, .ref o), (4, .int (nI i))] 1115 []) : Z p l e room_1 s m args below meth c X A 7 Q cells slots (KW h a b na nf o d X gP gT gA gF fo g) [(0, .ref b0), (1, .ref (h 0)), (2, .ref (d 0)), (3, .ref o), (4, .int (nI i))] 308 [] := by
  refine z_aln C dL_law_308 1 rfl ?_
  refine z_aln C dL_law_309 0 rfl ?_
  refine z_il C dL_law_310 4 rfl ?_
  refine z_ic C dL_law_312 1 (by decide) ?_
  refine z_iadd C dL_law_313 (nI (i + 1)) (nI_add i 1) ?_
  refine z_sld C hX hbl hbA (i + 1) dL_law_314 rfl (by omega) hL ?_
  refine z_aln C dL_law_315 0 rfl ?_
  refine z_il C dL_law_316 4 rfl ?_
  refine z_ic C dL_law_318 2 (by decide) ?_
  refine z_iadd C dL_law_319 (nI (i + 2)) (nI_add i 2) ?_
  refine z_sld C hX hbl hbA (i + 2) dL_law_320 rfl (by omega) hL ?_
  refine z_aln C dL_law_321 3 rfl ?_
  refine z_cE (As := [.ref (h 0), .int (sc (i + 1)), .int (sc (i + 2)), .ref o]) (rest := []) C hxw hxs hE gL_law_L_ice rfl ⟨by decide, by decide, (by decide : (parseMethodDescriptor yL_ice.desc).map (fun d => d.parameters.length) = some 4)⟩ ⟨by decide, by decide⟩ ⟨hc, hs⟩ [0, 1, 2, 3, 4, 5, 6, 7, 8, 9, 10, 11, 12, 13, 14, 15, 16, 17, 18, 19, 20, 21, 22, 23, 24, 25, 26, 27, 28, 29, 30, 31, 32, 33, 34, 35, 36, 37] [38, 39, 40, 41, 42, 43, 44, 45, 46, 47, 48] [11, 12, 13, 14, 15, 16, 17, 18, 19, 20, 21, 22, 23, 24, 25, 26, 27, 28, 29, 30, 31, 32, 33, 34, 35, 36, 37, 38, 39, 40, 41, 42, 43, 44, 45, 46, 47, 48, 0, 1, 2, 3, 4, 5, 6, 7, 8, 9, 10] rfl rfl (by decide) (by decide) (by decide) (by decide) (KW h a b na nf o d X gP1 gT1 gA1 gF1 fo1 g) rfl (Nat.le_of_ble_eq_true rfl) dL_law_322 rfl ?_
  refine z_is C [(5, .int r), (0, .ref b0), (1, .ref (h 0)), (2, .ref (d 0)), (3, .ref o), (4, .int (nI i))] dL_law_325 (by decide) rfl ?_
  refine z_aln C dL_law_327 3 rfl ?_
  refine z_aln C dL_law_328 1 rfl ?_
  refine z_il C dL_law_329 5 rfl ?_
  refine z_ic C dL_law_331 1 (by decide) ?_
  refine z_iadd C dL_law_332 (nI (i + 1)) (nI_add i 1) ?_
  refine z_sld C hX hbl hbA (i + 1) dL_law_333 rfl (by omega) hL ?_
  refine z_aln C dL_law_334 1 rfl ?_
  refine z_il C dL_law_335 5 rfl ?_
  refine z_ic C dL_law_337 2 (by decide) ?_
  refine z_iadd C dL_law_338 (nI (i + 2)) (nI_add i 2) ?_
  refine z_sld C hX hbl hbA (i + 2) dL_law_339 rfl (by omega) hL ?_
  refine z_cVi (As := [.int (sc (i + 1)), .int (sc (i + 2))]) (rest := []) C hM gL_law_X6_ice rfl ⟨rfl, by decide, by decide, (by decide : (parseMethodDescriptor yX6_ice.desc).map (fun d => d.parameters.length) = some 2)⟩ hR6 ⟨hc, hs⟩ 0 6 rfl rfl [38, 39, 40, 41, 42, 43, 44, 45, 46, 47, 48] [0, 1, 2, 3, 4, 5, 6, 7, 8, 9, 10, 11, 12, 13, 14, 15, 16, 17, 18, 19, 20, 21, 22, 23, 24, 25, 26, 27, 28, 29, 30, 31, 32, 33, 34, 35, 36, 37] [0, 1, 2, 3, 4, 5, 6, 7, 8, 9, 10, 11, 12, 13, 14, 15, 16, 17, 18, 19, 20, 21, 22, 23, 24, 25, 26, 27, 28, 29, 30, 31, 32, 33, 34, 35, 36, 37, 38, 39, 40, 41, 42, 43, 44, 45, 46, 47, 48] rfl rfl (by decide) (by decide) (by decide) (by decide) (KW h a b na nf o d X gP1 gT1 gA1 gF1 fo1 g1) rfl (Nat.le_of_ble_eq_true rfl) dL_law_340 rfl ?_
  refine z_is C [(6, .int rb), (5, .int r), (0, .ref b0), (1, .ref (h 0)), (2, .ref (d 0)), (3, .ref o), (4, .int (nI i))] dL_law_343 (by decide) rfl ?_
  refine z_aln C dL_law_345 4 rfl ?_
  refine z_cVi (As := []) (rest := []) C (mX6_thrown l X d g1) gL_law_X6_thrown rfl ⟨rfl, by decide, by decide, (by decide : (parseMethodDescriptor yX6_thrown.desc).map (fun d => d.parameters.length) = some 0)⟩ ⟨by decide, by decide⟩ ⟨hc, hs⟩ 0 6 rfl rfl [38, 39, 40, 41, 42, 43, 44, 45, 46, 47, 48] [0, 1, 2, 3, 4, 5, 6, 7, 8, 9, 10, 11, 12, 13, 14, 15, 16, 17, 18, 19, 20, 21, 22, 23, 24, 25, 26, 27, 28, 29, 30, 31, 32, 33, 34, 35, 36, 37] [0, 1, 2, 3, 4, 5, 6, 7, 8, 9, 10, 11, 12, 13, 14, 15, 16, 17, 18, 19, 20, 21, 22, 23, 24, 25, 26, 27, 28, 29, 30, 31, 32, 33, 34, 35, 36, 37, 38, 39, 40, 41, 42, 43, 44, 45, 46, 47, 48] rfl rfl (by decide) (by decide) (by decide) (by decide) (KW h a b na nf o d X gP1 gT1 gA1 gF1 fo1 g1) rfl (Nat.le_of_ble_eq_true rfl) dL_law_346 rfl ?_
  refine z_il C dL_law_349 1 rfl ?_
  refine z_ic_eq C 356 dL_law_351 (by decide) (fun _ => ?_) (fun h => absurd h10 h)
  have k2 : Z p l e room_1 s m args below meth c X A 7 Q (cells + 1) (slots + 6) (KW h a b na nf o d X gP1 gT1 gA1 gF1 fo1 g1) [(6, .int rb), (5, .int r), (0, .ref b0), (1, .ref (h 0)), (2, .ref (d 0)), (3, .ref o), (4, .int (nI i))] 373 [] := by
    refine z_go C 1115 dL_law_373 (by decide) ?_
    exact z_lv [2, 3, 4, 5, 6] [(0, .ref b0), (1, .ref (h 0)), (2, .ref (d 0)), (3, .ref o), (4, .int (nI i))] rfl k
  refine z_il C dL_law_356 1 rfl ?_
  refine z_if_ne C 373 dL_law_358 (by decide) (fun _ => k2) (fun hr => ?_)
  refine z_aln C dL_law_361 5 rfl ?_
  refine z_ic C dL_law_362 0 (by decide) ?_
  refine z_lald C 37 0 dL_law_363 rfl (by decide) (by decide) (by decide) ?_
  refine z_il C dL_law_364 0 rfl ?_
  refine z_i2l C dL_law_366 rb.toInt64 rfl ?_
  refine z_lcmp C dL_law_367 ?_
  exact z_if_eq C 373 dL_law_368 (by decide) (fun _ => k2) (fun h => absurd (by rw [heq hr]; exact lg_cmp_self _) h)
set_option maxHeartbeats 4000000 in
set_option maxRecDepth 100000 in
theorem bL_ash {p : Program} {l : Launch} {e : Env} {s : State} {m : MethodId} {args : Array Value} {below : List Frame} {meth : Method} {c : Code} {Q : State → Prop} {X : zX} {A : Nat → Prop} (C : ZC p s m args meth c X A 7 cL_law RL wsL_law (some .boolean)) (hxw : xW s) (hxs : xS A s s.heap) {b0 L : Nat} {sc : Nat → Int32} (hX : va_X b0 L sc s s.heap) (hbl : b0 < s.heap.size) (hbA : ¬ A b0) (hL : L ≤ 2048) (h a b na nf : Nat → Nat) (o : Nat) (d : Nat → Nat) (gP gT gA gF g : zG) (fo : Nat → Int64) (i : Nat) (hi : i + 4 ≤ L) (cells slots : Nat) (hc : cells + 1 ≤ 1082) (hs : slots + 6 ≤ 16674) (gP1 gT1 gA1 gF1 g1 : zG) (fo1 : Nat → Int64) {fr5 lo5 fr6 lo6 : Nat} (rb : Int32) (hE : CI l yX5_ash wsX5_ash fr5 lo5 0 0 X (IW h a b na nf X gP gT gA gF) [.ref (h 0)] rb (IW h a b na nf X gP1 gT1 gA1 gF1)) (hR5 : fr5 + 1 ≤ 11 ∧ 8 + (2 + 11) + lo5 ≤ 390) (hM : CI l yX6_ash wsX6_ash fr6 lo6 0 0 X (MW d X g) (.ref (d 0) :: []) rb (MW d X g1)) (hR6 : fr6 + 1 ≤ 11 ∧ 8 + (2 + 11) + lo6 ≤ 390) (hfo : fo1 = fo) (k : Z p l e room_1 s m args below meth c X A 7 Q (cells + 1) (slots + 6) (KW h a b na nf o d X gP1 gT1 gA1 gF1 fo1 g1) [(0, .ref b0), (1, .ref (h 0)), (2, .ref (d 0)), (3, .ref o), (4, .int (nI i))] 1115 []) : Z p l e room_1 s m args below meth c X A 7 Q cells slots (KW h a b na nf o d X gP gT gA gF fo g) [(0, .ref b0), (1, .ref (h 0)), (2, .ref (d 0)), (3, .ref o), (4, .int (nI i))] 376 [] := by
  subst hfo
  refine z_wide (cells + 1) (slots + 6) (by omega) (by omega) ?_
  refine z_aln C dL_law_376 1 rfl ?_
  refine z_cVi (As := []) (rest := []) C hE gL_law_X5_ash rfl ⟨rfl, by decide, by decide, (by decide : (parseMethodDescriptor yX5_ash.desc).map (fun d => d.parameters.length) = some 0)⟩ hR5 ⟨hc, hs⟩ 0 5 rfl rfl [0, 1, 2, 3, 4, 5, 6, 7, 8, 9, 10, 11, 12, 13, 14, 15, 16, 17, 18, 19, 20, 21, 22, 23, 24, 25, 26, 27, 28, 29, 30, 31, 32, 33, 34, 35, 36] [37, 38, 39, 40, 41, 42, 43, 44, 45, 46, 47, 48] [12, 13, 14, 15, 16, 17, 18, 19, 20, 21, 22, 23, 24, 25, 26, 27, 28, 29, 30, 31, 32, 33, 34, 35, 36, 37, 38, 39, 40, 41, 42, 43, 44, 45, 46, 47, 48, 0, 1, 2, 3, 4, 5, 6, 7, 8, 9, 10, 11] rfl rfl (by decide) (by decide) (by decide) (by decide) (KW h a b na nf o d X gP1 gT1 gA1 gF1 fo1 g) rfl (Nat.le_of_ble_eq_true rfl) dL_law_377 rfl ?_
  refine z_aln C dL_law_380 2 rfl ?_
  refine z_cVi (As := []) (rest := [.int rb]) C hM gL_law_X6_ash rfl ⟨rfl, by decide, by decide, (by decide : (parseMethodDescriptor yX6_ash.desc).map (fun d => d.parameters.length) = some 0)⟩ hR6 ⟨hc, hs⟩ 0 6 rfl rfl [38, 39, 40, 41, 42, 43, 44, 45, 46, 47, 48] [0, 1, 2, 3, 4, 5, 6, 7, 8, 9, 10, 11, 12, 13, 14, 15, 16, 17, 18, 19, 20, 21, 22, 23, 24, 25, 26, 27, 28, 29, 30, 31, 32, 33, 34, 35, 36, 37] [0, 1, 2, 3, 4, 5, 6, 7, 8, 9, 10, 11, 12, 13, 14, 15, 16, 17, 18, 19, 20, 21, 22, 23, 24, 25, 26, 27, 28, 29, 30, 31, 32, 33, 34, 35, 36, 37, 38, 39, 40, 41, 42, 43, 44, 45, 46, 47, 48] rfl rfl (by decide) (by decide) (by decide) (by decide) (KW h a b na nf o d X gP1 gT1 gA1 gF1 fo1 g1) rfl (Nat.le_of_ble_eq_true rfl) dL_law_381 rfl ?_
  exact z_ic_eq C 1115 dL_law_384 (by decide) (fun _ => k) (fun h => absurd rfl h)
set_option maxHeartbeats 4000000 in
set_option maxRecDepth 100000 in
theorem bL_pass {p : Program} {l : Launch} {e : Env} {s : State} {m : MethodId} {args : Array Value} {below : List Frame} {meth : Method} {c : Code} {Q : State → Prop} {X : zX} {A : Nat → Prop} (C : ZC p s m args meth c X A 7 cL_law RL wsL_law (some .boolean)) (hxw : xW s) (hxs : xS A s s.heap) {b0 L : Nat} {sc : Nat → Int32} (hX : va_X b0 L sc s s.heap) (hbl : b0 < s.heap.size) (hbA : ¬ A b0) (hL : L ≤ 2048) (h a b na nf : Nat → Nat) (o : Nat) (d : Nat → Nat) (gP gT gA gF g : zG) (fo : Nat → Int64) (i : Nat) (hi : i + 4 ≤ L) (cells slots : Nat) (hc : cells + 1 ≤ 1082) (hs : slots + 6 ≤ 16674) (gP1 gT1 gA1 gF1 g1 : zG) (fo1 : Nat → Int64) {fr6 lo6 : Nat} (r rb : Int32) (hE : CE l yL_pass wsL_pass 9 200 1 6 X (HW h a b na nf o X gP gT gA gF fo) [.ref (h 0), .int (sc (i + 1)), .ref o] r (HW h a b na nf o X gP1 gT1 gA1 gF1 fo1)) (hM : CI l yX6_pass wsX6_pass fr6 lo6 0 0 X (MW d X g) (.ref (d 0) :: [.int (sc (i + 1))]) rb (MW d X g1)) (hR6 : fr6 + 1 ≤ 11 ∧ 8 + (6 + 11) + lo6 ≤ 390) (h10 : g1 10 0 = r) (heq : r = 0 → fo1 0 = rb.toInt64) (k : Z p l e room_1 s m args below meth c X A 7 Q (cells + 1) (slots + 6) (KW h a b na nf o d X gP1 gT1 gA1 gF1 fo1 g1) [(0, .ref b0), (1, .ref (h 0)), (2, .ref (d 0)), (3, .ref o), (4, .int (nI i))] 1115 []) : Z p l e room_1 s m args below meth c X A 7 Q cells slots (KW h a b na nf o d X gP gT gA gF fo g) [(0, .ref b0), (1, .ref (h 0)), (2, .ref (d 0)), (3, .ref o), (4, .int (nI i))] 389 [] := by
  refine z_aln C dL_law_389 1 rfl ?_
  refine z_aln C dL_law_390 0 rfl ?_
  refine z_il C dL_law_391 4 rfl ?_
  refine z_ic C dL_law_393 1 (by decide) ?_
  refine z_iadd C dL_law_394 (nI (i + 1)) (nI_add i 1) ?_
  refine z_sld C hX hbl hbA (i + 1) dL_law_395 rfl (by omega) hL ?_
  refine z_aln C dL_law_396 3 rfl ?_
  refine z_cE (As := [.ref (h 0), .int (sc (i + 1)), .ref o]) (rest := []) C hxw hxs hE gL_law_L_pass rfl ⟨by decide, by decide, (by decide : (parseMethodDescriptor yL_pass.desc).map (fun d => d.parameters.length) = some 3)⟩ ⟨by decide, by decide⟩ ⟨hc, hs⟩ [0, 1, 2, 3, 4, 5, 6, 7, 8, 9, 10, 11, 12, 13, 14, 15, 16, 17, 18, 19, 20, 21, 22, 23, 24, 25, 26, 27, 28, 29, 30, 31, 32, 33, 34, 35, 36, 37] [38, 39, 40, 41, 42, 43, 44, 45, 46, 47, 48] [11, 12, 13, 14, 15, 16, 17, 18, 19, 20, 21, 22, 23, 24, 25, 26, 27, 28, 29, 30, 31, 32, 33, 34, 35, 36, 37, 38, 39, 40, 41, 42, 43, 44, 45, 46, 47, 48, 0, 1, 2, 3, 4, 5, 6, 7, 8, 9, 10] rfl rfl (by decide) (by decide) (by decide) (by decide) (KW h a b na nf o d X gP1 gT1 gA1 gF1 fo1 g) rfl (Nat.le_of_ble_eq_true rfl) dL_law_397 rfl ?_
  refine z_is C [(5, .int r), (0, .ref b0), (1, .ref (h 0)), (2, .ref (d 0)), (3, .ref o), (4, .int (nI i))] dL_law_400 (by decide) rfl ?_
  refine z_aln C dL_law_402 3 rfl ?_
  refine z_aln C dL_law_403 1 rfl ?_
  refine z_il C dL_law_404 5 rfl ?_
  refine z_ic C dL_law_406 1 (by decide) ?_
  refine z_iadd C dL_law_407 (nI (i + 1)) (nI_add i 1) ?_
  refine z_sld C hX hbl hbA (i + 1) dL_law_408 rfl (by omega) hL ?_
  refine z_cVi (As := [.int (sc (i + 1))]) (rest := []) C hM gL_law_X6_pass rfl ⟨rfl, by decide, by decide, (by decide : (parseMethodDescriptor yX6_pass.desc).map (fun d => d.parameters.length) = some 1)⟩ hR6 ⟨hc, hs⟩ 0 6 rfl rfl [38, 39, 40, 41, 42, 43, 44, 45, 46, 47, 48] [0, 1, 2, 3, 4, 5, 6, 7, 8, 9, 10, 11, 12, 13, 14, 15, 16, 17, 18, 19, 20, 21, 22, 23, 24, 25, 26, 27, 28, 29, 30, 31, 32, 33, 34, 35, 36, 37] [0, 1, 2, 3, 4, 5, 6, 7, 8, 9, 10, 11, 12, 13, 14, 15, 16, 17, 18, 19, 20, 21, 22, 23, 24, 25, 26, 27, 28, 29, 30, 31, 32, 33, 34, 35, 36, 37, 38, 39, 40, 41, 42, 43, 44, 45, 46, 47, 48] rfl rfl (by decide) (by decide) (by decide) (by decide) (KW h a b na nf o d X gP1 gT1 gA1 gF1 fo1 g1) rfl (Nat.le_of_ble_eq_true rfl) dL_law_409 rfl ?_
  refine z_is C [(6, .int rb), (5, .int r), (0, .ref b0), (1, .ref (h 0)), (2, .ref (d 0)), (3, .ref o), (4, .int (nI i))] dL_law_412 (by decide) rfl ?_
  refine z_aln C dL_law_414 4 rfl ?_
  refine z_cVi (As := []) (rest := []) C (mX6_thrown l X d g1) gL_law_X6_thrown rfl ⟨rfl, by decide, by decide, (by decide : (parseMethodDescriptor yX6_thrown.desc).map (fun d => d.parameters.length) = some 0)⟩ ⟨by decide, by decide⟩ ⟨hc, hs⟩ 0 6 rfl rfl [38, 39, 40, 41, 42, 43, 44, 45, 46, 47, 48] [0, 1, 2, 3, 4, 5, 6, 7, 8, 9, 10, 11, 12, 13, 14, 15, 16, 17, 18, 19, 20, 21, 22, 23, 24, 25, 26, 27, 28, 29, 30, 31, 32, 33, 34, 35, 36, 37] [0, 1, 2, 3, 4, 5, 6, 7, 8, 9, 10, 11, 12, 13, 14, 15, 16, 17, 18, 19, 20, 21, 22, 23, 24, 25, 26, 27, 28, 29, 30, 31, 32, 33, 34, 35, 36, 37, 38, 39, 40, 41, 42, 43, 44, 45, 46, 47, 48] rfl rfl (by decide) (by decide) (by decide) (by decide) (KW h a b na nf o d X gP1 gT1 gA1 gF1 fo1 g1) rfl (Nat.le_of_ble_eq_true rfl) dL_law_415 rfl ?_
  refine z_il C dL_law_418 1 rfl ?_
  refine z_ic_eq C 425 dL_law_420 (by decide) (fun _ => ?_) (fun h => absurd h10 h)
  have k2 : Z p l e room_1 s m args below meth c X A 7 Q (cells + 1) (slots + 6) (KW h a b na nf o d X gP1 gT1 gA1 gF1 fo1 g1) [(6, .int rb), (5, .int r), (0, .ref b0), (1, .ref (h 0)), (2, .ref (d 0)), (3, .ref o), (4, .int (nI i))] 442 [] := by
    refine z_go C 1115 dL_law_442 (by decide) ?_
    exact z_lv [2, 3, 4, 5, 6] [(0, .ref b0), (1, .ref (h 0)), (2, .ref (d 0)), (3, .ref o), (4, .int (nI i))] rfl k
  refine z_il C dL_law_425 1 rfl ?_
  refine z_if_ne C 442 dL_law_427 (by decide) (fun _ => k2) (fun hr => ?_)
  refine z_aln C dL_law_430 5 rfl ?_
  refine z_ic C dL_law_431 0 (by decide) ?_
  refine z_lald C 37 0 dL_law_432 rfl (by decide) (by decide) (by decide) ?_
  refine z_il C dL_law_433 0 rfl ?_
  refine z_i2l C dL_law_435 rb.toInt64 rfl ?_
  refine z_lcmp C dL_law_436 ?_
  exact z_if_eq C 442 dL_law_437 (by decide) (fun _ => k2) (fun h => absurd (by rw [heq hr]; exact lg_cmp_self _) h)
set_option maxHeartbeats 4000000 in
set_option maxRecDepth 100000 in
theorem bL_cellIs {p : Program} {l : Launch} {e : Env} {s : State} {m : MethodId} {args : Array Value} {below : List Frame} {meth : Method} {c : Code} {Q : State → Prop} {X : zX} {A : Nat → Prop} (C : ZC p s m args meth c X A 7 cL_law RL wsL_law (some .boolean)) (hxw : xW s) (hxs : xS A s s.heap) {b0 L : Nat} {sc : Nat → Int32} (hX : va_X b0 L sc s s.heap) (hbl : b0 < s.heap.size) (hbA : ¬ A b0) (hL : L ≤ 2048) (h a b na nf : Nat → Nat) (o : Nat) (d : Nat → Nat) (gP gT gA gF g : zG) (fo : Nat → Int64) (i : Nat) (hi : i + 4 ≤ L) (cells slots : Nat) (hc : cells + 1 ≤ 1082) (hs : slots + 6 ≤ 16674) (gP1 gT1 gA1 gF1 g1 : zG) (fo1 : Nat → Int64) {fr6 lo6 : Nat} (r rb : Int32) (hE : CE l yL_cellIs wsL_cellIs 9 200 1 6 X (HW h a b na nf o X gP gT gA gF fo) [.ref (h 0), .int (sc (i + 1)), .int (sc (i + 2)), .ref o] r (HW h a b na nf o X gP1 gT1 gA1 gF1 fo1)) (hM : CI l yX6_cellIs wsX6_cellIs fr6 lo6 0 0 X (MW d X g) (.ref (d 0) :: [.int (sc (i + 1)), .int (sc (i + 2))]) rb (MW d X g1)) (hR6 : fr6 + 1 ≤ 11 ∧ 8 + (3 + 11) + lo6 ≤ 390) (h10 : g1 10 0 = r) (heq : r = 0 → fo1 0 = rb.toInt64) (k : Z p l e room_1 s m args below meth c X A 7 Q (cells + 1) (slots + 6) (KW h a b na nf o d X gP1 gT1 gA1 gF1 fo1 g1) [(0, .ref b0), (1, .ref (h 0)), (2, .ref (d 0)), (3, .ref o), (4, .int (nI i))] 1115 []) : Z p l e room_1 s m args below meth c X A 7 Q cells slots (KW h a b na nf o d X gP gT gA gF fo g) [(0, .ref b0), (1, .ref (h 0)), (2, .ref (d 0)), (3, .ref o), (4, .int (nI i))] 445 [] := by
  refine z_aln C dL_law_445 1 rfl ?_
  refine z_aln C dL_law_446 0 rfl ?_
  refine z_il C dL_law_447 4 rfl ?_
  refine z_ic C dL_law_449 1 (by decide) ?_
  refine z_iadd C dL_law_450 (nI (i + 1)) (nI_add i 1) ?_
  refine z_sld C hX hbl hbA (i + 1) dL_law_451 rfl (by omega) hL ?_
  refine z_aln C dL_law_452 0 rfl ?_
  refine z_il C dL_law_453 4 rfl ?_
  refine z_ic C dL_law_455 2 (by decide) ?_
  refine z_iadd C dL_law_456 (nI (i + 2)) (nI_add i 2) ?_
  refine z_sld C hX hbl hbA (i + 2) dL_law_457 rfl (by omega) hL ?_
  refine z_aln C dL_law_458 3 rfl ?_
  refine z_cE (As := [.ref (h 0), .int (sc (i + 1)), .int (sc (i + 2)), .ref o]) (rest := []) C hxw hxs hE gL_law_L_cellIs rfl ⟨by decide, by decide, (by decide : (parseMethodDescriptor yL_cellIs.desc).map (fun d => d.parameters.length) = some 4)⟩ ⟨by decide, by decide⟩ ⟨hc, hs⟩ [0, 1, 2, 3, 4, 5, 6, 7, 8, 9, 10, 11, 12, 13, 14, 15, 16, 17, 18, 19, 20, 21, 22, 23, 24, 25, 26, 27, 28, 29, 30, 31, 32, 33, 34, 35, 36, 37] [38, 39, 40, 41, 42, 43, 44, 45, 46, 47, 48] [11, 12, 13, 14, 15, 16, 17, 18, 19, 20, 21, 22, 23, 24, 25, 26, 27, 28, 29, 30, 31, 32, 33, 34, 35, 36, 37, 38, 39, 40, 41, 42, 43, 44, 45, 46, 47, 48, 0, 1, 2, 3, 4, 5, 6, 7, 8, 9, 10] rfl rfl (by decide) (by decide) (by decide) (by decide) (KW h a b na nf o d X gP1 gT1 gA1 gF1 fo1 g) rfl (Nat.le_of_ble_eq_true rfl) dL_law_459 rfl ?_
  refine z_is C [(5, .int r), (0, .ref b0), (1, .ref (h 0)), (2, .ref (d 0)), (3, .ref o), (4, .int (nI i))] dL_law_462 (by decide) rfl ?_
  refine z_aln C dL_law_464 3 rfl ?_
  refine z_aln C dL_law_465 1 rfl ?_
  refine z_il C dL_law_466 5 rfl ?_
  refine z_ic C dL_law_468 1 (by decide) ?_
  refine z_iadd C dL_law_469 (nI (i + 1)) (nI_add i 1) ?_
  refine z_sld C hX hbl hbA (i + 1) dL_law_470 rfl (by omega) hL ?_
  refine z_aln C dL_law_471 1 rfl ?_
  refine z_il C dL_law_472 5 rfl ?_
  refine z_ic C dL_law_474 2 (by decide) ?_
  refine z_iadd C dL_law_475 (nI (i + 2)) (nI_add i 2) ?_
  refine z_sld C hX hbl hbA (i + 2) dL_law_476 rfl (by omega) hL ?_
  refine z_cVi (As := [.int (sc (i + 1)), .int (sc (i + 2))]) (rest := []) C hM gL_law_X6_cellIs rfl ⟨rfl, by decide, by decide, (by decide : (parseMethodDescriptor yX6_cellIs.desc).map (fun d => d.parameters.length) = some 2)⟩ hR6 ⟨hc, hs⟩ 0 6 rfl rfl [38, 39, 40, 41, 42, 43, 44, 45, 46, 47, 48] [0, 1, 2, 3, 4, 5, 6, 7, 8, 9, 10, 11, 12, 13, 14, 15, 16, 17, 18, 19, 20, 21, 22, 23, 24, 25, 26, 27, 28, 29, 30, 31, 32, 33, 34, 35, 36, 37] [0, 1, 2, 3, 4, 5, 6, 7, 8, 9, 10, 11, 12, 13, 14, 15, 16, 17, 18, 19, 20, 21, 22, 23, 24, 25, 26, 27, 28, 29, 30, 31, 32, 33, 34, 35, 36, 37, 38, 39, 40, 41, 42, 43, 44, 45, 46, 47, 48] rfl rfl (by decide) (by decide) (by decide) (by decide) (KW h a b na nf o d X gP1 gT1 gA1 gF1 fo1 g1) rfl (Nat.le_of_ble_eq_true rfl) dL_law_477 rfl ?_
  refine z_is C [(6, .int rb), (5, .int r), (0, .ref b0), (1, .ref (h 0)), (2, .ref (d 0)), (3, .ref o), (4, .int (nI i))] dL_law_480 (by decide) rfl ?_
  refine z_aln C dL_law_482 4 rfl ?_
  refine z_cVi (As := []) (rest := []) C (mX6_thrown l X d g1) gL_law_X6_thrown rfl ⟨rfl, by decide, by decide, (by decide : (parseMethodDescriptor yX6_thrown.desc).map (fun d => d.parameters.length) = some 0)⟩ ⟨by decide, by decide⟩ ⟨hc, hs⟩ 0 6 rfl rfl [38, 39, 40, 41, 42, 43, 44, 45, 46, 47, 48] [0, 1, 2, 3, 4, 5, 6, 7, 8, 9, 10, 11, 12, 13, 14, 15, 16, 17, 18, 19, 20, 21, 22, 23, 24, 25, 26, 27, 28, 29, 30, 31, 32, 33, 34, 35, 36, 37] [0, 1, 2, 3, 4, 5, 6, 7, 8, 9, 10, 11, 12, 13, 14, 15, 16, 17, 18, 19, 20, 21, 22, 23, 24, 25, 26, 27, 28, 29, 30, 31, 32, 33, 34, 35, 36, 37, 38, 39, 40, 41, 42, 43, 44, 45, 46, 47, 48] rfl rfl (by decide) (by decide) (by decide) (by decide) (KW h a b na nf o d X gP1 gT1 gA1 gF1 fo1 g1) rfl (Nat.le_of_ble_eq_true rfl) dL_law_483 rfl ?_
  refine z_il C dL_law_486 1 rfl ?_
  refine z_ic_eq C 493 dL_law_488 (by decide) (fun _ => ?_) (fun h => absurd h10 h)
  have k2 : Z p l e room_1 s m args below meth c X A 7 Q (cells + 1) (slots + 6) (KW h a b na nf o d X gP1 gT1 gA1 gF1 fo1 g1) [(6, .int rb), (5, .int r), (0, .ref b0), (1, .ref (h 0)), (2, .ref (d 0)), (3, .ref o), (4, .int (nI i))] 510 [] := by
    refine z_go C 1115 dL_law_510 (by decide) ?_
    exact z_lv [2, 3, 4, 5, 6] [(0, .ref b0), (1, .ref (h 0)), (2, .ref (d 0)), (3, .ref o), (4, .int (nI i))] rfl k
  refine z_il C dL_law_493 1 rfl ?_
  refine z_if_ne C 510 dL_law_495 (by decide) (fun _ => k2) (fun hr => ?_)
  refine z_aln C dL_law_498 5 rfl ?_
  refine z_ic C dL_law_499 0 (by decide) ?_
  refine z_lald C 37 0 dL_law_500 rfl (by decide) (by decide) (by decide) ?_
  refine z_il C dL_law_501 0 rfl ?_
  refine z_i2l C dL_law_503 rb.toInt64 rfl ?_
  refine z_lcmp C dL_law_504 ?_
  exact z_if_eq C 510 dL_law_505 (by decide) (fun _ => k2) (fun h => absurd (by rw [heq hr]; exact lg_cmp_self _) h)
set_option maxHeartbeats 4000000 in
set_option maxRecDepth 100000 in
theorem bL_layer {p : Program} {l : Launch} {e : Env} {s : State} {m : MethodId} {args : Array Value} {below : List Frame} {meth : Method} {c : Code} {Q : State → Prop} {X : zX} {A : Nat → Prop} (C : ZC p s m args meth c X A 7 cL_law RL wsL_law (some .boolean)) (hxw : xW s) (hxs : xS A s s.heap) {b0 L : Nat} {sc : Nat → Int32} (hX : va_X b0 L sc s s.heap) (hbl : b0 < s.heap.size) (hbA : ¬ A b0) (hL : L ≤ 2048) (h a b na nf : Nat → Nat) (o : Nat) (d : Nat → Nat) (gP gT gA gF g : zG) (fo : Nat → Int64) (i : Nat) (hi : i + 4 ≤ L) (cells slots : Nat) (hc : cells + 1 ≤ 1082) (hs : slots + 6 ≤ 16674) (gP1 gT1 gA1 gF1 g1 : zG) (fo1 : Nat → Int64) {fr6 lo6 : Nat} (r rb : Int32) (hE : CE l yL_layer wsL_layer 9 200 1 6 X (HW h a b na nf o X gP gT gA gF fo) [.ref (h 0), .int (sc (i + 1)), .int (sc (i + 2)), .ref o] r (HW h a b na nf o X gP1 gT1 gA1 gF1 fo1)) (hM : CI l yX6_layer wsX6_layer fr6 lo6 0 0 X (MW d X g) (.ref (d 0) :: [.int (sc (i + 1)), .int (sc (i + 2))]) rb (MW d X g1)) (hR6 : fr6 + 1 ≤ 11 ∧ 8 + (3 + 11) + lo6 ≤ 390) (h10 : g1 10 0 = r) (heq : r = 0 → fo1 0 = rb.toInt64) (k : Z p l e room_1 s m args below meth c X A 7 Q (cells + 1) (slots + 6) (KW h a b na nf o d X gP1 gT1 gA1 gF1 fo1 g1) [(0, .ref b0), (1, .ref (h 0)), (2, .ref (d 0)), (3, .ref o), (4, .int (nI i))] 1115 []) : Z p l e room_1 s m args below meth c X A 7 Q cells slots (KW h a b na nf o d X gP gT gA gF fo g) [(0, .ref b0), (1, .ref (h 0)), (2, .ref (d 0)), (3, .ref o), (4, .int (nI i))] 513 [] := by
  refine z_aln C dL_law_513 1 rfl ?_
  refine z_aln C dL_law_514 0 rfl ?_
  refine z_il C dL_law_515 4 rfl ?_
  refine z_ic C dL_law_517 1 (by decide) ?_
  refine z_iadd C dL_law_518 (nI (i + 1)) (nI_add i 1) ?_
  refine z_sld C hX hbl hbA (i + 1) dL_law_519 rfl (by omega) hL ?_
  refine z_aln C dL_law_520 0 rfl ?_
  refine z_il C dL_law_521 4 rfl ?_
  refine z_ic C dL_law_523 2 (by decide) ?_
  refine z_iadd C dL_law_524 (nI (i + 2)) (nI_add i 2) ?_
  refine z_sld C hX hbl hbA (i + 2) dL_law_525 rfl (by omega) hL ?_
  refine z_aln C dL_law_526 3 rfl ?_
  refine z_cE (As := [.ref (h 0), .int (sc (i + 1)), .int (sc (i + 2)), .ref o]) (rest := []) C hxw hxs hE gL_law_L_layer rfl ⟨by decide, by decide, (by decide : (parseMethodDescriptor yL_layer.desc).map (fun d => d.parameters.length) = some 4)⟩ ⟨by decide, by decide⟩ ⟨hc, hs⟩ [0, 1, 2, 3, 4, 5, 6, 7, 8, 9, 10, 11, 12, 13, 14, 15, 16, 17, 18, 19, 20, 21, 22, 23, 24, 25, 26, 27, 28, 29, 30, 31, 32, 33, 34, 35, 36, 37] [38, 39, 40, 41, 42, 43, 44, 45, 46, 47, 48] [11, 12, 13, 14, 15, 16, 17, 18, 19, 20, 21, 22, 23, 24, 25, 26, 27, 28, 29, 30, 31, 32, 33, 34, 35, 36, 37, 38, 39, 40, 41, 42, 43, 44, 45, 46, 47, 48, 0, 1, 2, 3, 4, 5, 6, 7, 8, 9, 10] rfl rfl (by decide) (by decide) (by decide) (by decide) (KW h a b na nf o d X gP1 gT1 gA1 gF1 fo1 g) rfl (Nat.le_of_ble_eq_true rfl) dL_law_527 rfl ?_
  refine z_is C [(5, .int r), (0, .ref b0), (1, .ref (h 0)), (2, .ref (d 0)), (3, .ref o), (4, .int (nI i))] dL_law_530 (by decide) rfl ?_
  refine z_aln C dL_law_532 3 rfl ?_
  refine z_aln C dL_law_533 1 rfl ?_
  refine z_il C dL_law_534 5 rfl ?_
  refine z_ic C dL_law_536 1 (by decide) ?_
  refine z_iadd C dL_law_537 (nI (i + 1)) (nI_add i 1) ?_
  refine z_sld C hX hbl hbA (i + 1) dL_law_538 rfl (by omega) hL ?_
  refine z_aln C dL_law_539 1 rfl ?_
  refine z_il C dL_law_540 5 rfl ?_
  refine z_ic C dL_law_542 2 (by decide) ?_
  refine z_iadd C dL_law_543 (nI (i + 2)) (nI_add i 2) ?_
  refine z_sld C hX hbl hbA (i + 2) dL_law_544 rfl (by omega) hL ?_
  refine z_cVi (As := [.int (sc (i + 1)), .int (sc (i + 2))]) (rest := []) C hM gL_law_X6_layer rfl ⟨rfl, by decide, by decide, (by decide : (parseMethodDescriptor yX6_layer.desc).map (fun d => d.parameters.length) = some 2)⟩ hR6 ⟨hc, hs⟩ 0 6 rfl rfl [38, 39, 40, 41, 42, 43, 44, 45, 46, 47, 48] [0, 1, 2, 3, 4, 5, 6, 7, 8, 9, 10, 11, 12, 13, 14, 15, 16, 17, 18, 19, 20, 21, 22, 23, 24, 25, 26, 27, 28, 29, 30, 31, 32, 33, 34, 35, 36, 37] [0, 1, 2, 3, 4, 5, 6, 7, 8, 9, 10, 11, 12, 13, 14, 15, 16, 17, 18, 19, 20, 21, 22, 23, 24, 25, 26, 27, 28, 29, 30, 31, 32, 33, 34, 35, 36, 37, 38, 39, 40, 41, 42, 43, 44, 45, 46, 47, 48] rfl rfl (by decide) (by decide) (by decide) (by decide) (KW h a b na nf o d X gP1 gT1 gA1 gF1 fo1 g1) rfl (Nat.le_of_ble_eq_true rfl) dL_law_545 rfl ?_
  refine z_is C [(6, .int rb), (5, .int r), (0, .ref b0), (1, .ref (h 0)), (2, .ref (d 0)), (3, .ref o), (4, .int (nI i))] dL_law_548 (by decide) rfl ?_
  refine z_aln C dL_law_550 4 rfl ?_
  refine z_cVi (As := []) (rest := []) C (mX6_thrown l X d g1) gL_law_X6_thrown rfl ⟨rfl, by decide, by decide, (by decide : (parseMethodDescriptor yX6_thrown.desc).map (fun d => d.parameters.length) = some 0)⟩ ⟨by decide, by decide⟩ ⟨hc, hs⟩ 0 6 rfl rfl [38, 39, 40, 41, 42, 43, 44, 45, 46, 47, 48] [0, 1, 2, 3, 4, 5, 6, 7, 8, 9, 10, 11, 12, 13, 14, 15, 16, 17, 18, 19, 20, 21, 22, 23, 24, 25, 26, 27, 28, 29, 30, 31, 32, 33, 34, 35, 36, 37] [0, 1, 2, 3, 4, 5, 6, 7, 8, 9, 10, 11, 12, 13, 14, 15, 16, 17, 18, 19, 20, 21, 22, 23, 24, 25, 26, 27, 28, 29, 30, 31, 32, 33, 34, 35, 36, 37, 38, 39, 40, 41, 42, 43, 44, 45, 46, 47, 48] rfl rfl (by decide) (by decide) (by decide) (by decide) (KW h a b na nf o d X gP1 gT1 gA1 gF1 fo1 g1) rfl (Nat.le_of_ble_eq_true rfl) dL_law_551 rfl ?_
  refine z_il C dL_law_554 1 rfl ?_
  refine z_ic_eq C 561 dL_law_556 (by decide) (fun _ => ?_) (fun h => absurd h10 h)
  have k2 : Z p l e room_1 s m args below meth c X A 7 Q (cells + 1) (slots + 6) (KW h a b na nf o d X gP1 gT1 gA1 gF1 fo1 g1) [(6, .int rb), (5, .int r), (0, .ref b0), (1, .ref (h 0)), (2, .ref (d 0)), (3, .ref o), (4, .int (nI i))] 578 [] := by
    refine z_go C 1115 dL_law_578 (by decide) ?_
    exact z_lv [2, 3, 4, 5, 6] [(0, .ref b0), (1, .ref (h 0)), (2, .ref (d 0)), (3, .ref o), (4, .int (nI i))] rfl k
  refine z_il C dL_law_561 1 rfl ?_
  refine z_if_ne C 578 dL_law_563 (by decide) (fun _ => k2) (fun hr => ?_)
  refine z_aln C dL_law_566 5 rfl ?_
  refine z_ic C dL_law_567 0 (by decide) ?_
  refine z_lald C 37 0 dL_law_568 rfl (by decide) (by decide) (by decide) ?_
  refine z_il C dL_law_569 0 rfl ?_
  refine z_i2l C dL_law_571 rb.toInt64 rfl ?_
  refine z_lcmp C dL_law_572 ?_
  exact z_if_eq C 578 dL_law_573 (by decide) (fun _ => k2) (fun h => absurd (by rw [heq hr]; exact lg_cmp_self _) h)
set_option maxHeartbeats 4000000 in
set_option maxRecDepth 100000 in
theorem bL_yearAt {p : Program} {l : Launch} {e : Env} {s : State} {m : MethodId} {args : Array Value} {below : List Frame} {meth : Method} {c : Code} {Q : State → Prop} {X : zX} {A : Nat → Prop} (C : ZC p s m args meth c X A 7 cL_law RL wsL_law (some .boolean)) (hxw : xW s) (hxs : xS A s s.heap) {b0 L : Nat} {sc : Nat → Int32} (hX : va_X b0 L sc s s.heap) (hbl : b0 < s.heap.size) (hbA : ¬ A b0) (hL : L ≤ 2048) (h a b na nf : Nat → Nat) (o : Nat) (d : Nat → Nat) (gP gT gA gF g : zG) (fo : Nat → Int64) (i : Nat) (hi : i + 4 ≤ L) (cells slots : Nat) (hc : cells + 1 ≤ 1082) (hs : slots + 6 ≤ 16674) (gP1 gT1 gA1 gF1 g1 : zG) (fo1 : Nat → Int64) {fr6 lo6 : Nat} (r rb : Int32) (hE : CE l yL_yearAt wsL_yearAt 9 200 1 6 X (HW h a b na nf o X gP gT gA gF fo) [.ref (h 0), .int (sc (i + 1)), .int (sc (i + 2)), .ref o] r (HW h a b na nf o X gP1 gT1 gA1 gF1 fo1)) (hM : CI l yX6_yearAt wsX6_yearAt fr6 lo6 0 0 X (MW d X g) (.ref (d 0) :: [.int (sc (i + 1)), .int (sc (i + 2))]) rb (MW d X g1)) (hR6 : fr6 + 1 ≤ 11 ∧ 8 + (5 + 11) + lo6 ≤ 390) (h10 : g1 10 0 = r) (heq : r = 0 → fo1 0 = rb.toInt64) (k : Z p l e room_1 s m args below meth c X A 7 Q (cells + 1) (slots + 6) (KW h a b na nf o d X gP1 gT1 gA1 gF1 fo1 g1) [(0, .ref b0), (1, .ref (h 0)), (2, .ref (d 0)), (3, .ref o), (4, .int (nI i))] 1115 []) : Z p l e room_1 s m args below meth c X A 7 Q cells slots (KW h a b na nf o d X gP gT gA gF fo g) [(0, .ref b0), (1, .ref (h 0)), (2, .ref (d 0)), (3, .ref o), (4, .int (nI i))] 581 [] := by
  refine z_aln C dL_law_581 1 rfl ?_
  refine z_aln C dL_law_582 0 rfl ?_
  refine z_il C dL_law_583 4 rfl ?_
  refine z_ic C dL_law_585 1 (by decide) ?_
  refine z_iadd C dL_law_586 (nI (i + 1)) (nI_add i 1) ?_
  refine z_sld C hX hbl hbA (i + 1) dL_law_587 rfl (by omega) hL ?_
  refine z_aln C dL_law_588 0 rfl ?_
  refine z_il C dL_law_589 4 rfl ?_
  refine z_ic C dL_law_591 2 (by decide) ?_
  refine z_iadd C dL_law_592 (nI (i + 2)) (nI_add i 2) ?_
  refine z_sld C hX hbl hbA (i + 2) dL_law_593 rfl (by omega) hL ?_
  refine z_aln C dL_law_594 3 rfl ?_
  refine z_cE (As := [.ref (h 0), .int (sc (i + 1)), .int (sc (i + 2)), .ref o]) (rest := []) C hxw hxs hE gL_law_L_yearAt rfl ⟨by decide, by decide, (by decide : (parseMethodDescriptor yL_yearAt.desc).map (fun d => d.parameters.length) = some 4)⟩ ⟨by decide, by decide⟩ ⟨hc, hs⟩ [0, 1, 2, 3, 4, 5, 6, 7, 8, 9, 10, 11, 12, 13, 14, 15, 16, 17, 18, 19, 20, 21, 22, 23, 24, 25, 26, 27, 28, 29, 30, 31, 32, 33, 34, 35, 36, 37] [38, 39, 40, 41, 42, 43, 44, 45, 46, 47, 48] [11, 12, 13, 14, 15, 16, 17, 18, 19, 20, 21, 22, 23, 24, 25, 26, 27, 28, 29, 30, 31, 32, 33, 34, 35, 36, 37, 38, 39, 40, 41, 42, 43, 44, 45, 46, 47, 48, 0, 1, 2, 3, 4, 5, 6, 7, 8, 9, 10] rfl rfl (by decide) (by decide) (by decide) (by decide) (KW h a b na nf o d X gP1 gT1 gA1 gF1 fo1 g) rfl (Nat.le_of_ble_eq_true rfl) dL_law_595 rfl ?_
  refine z_is C [(5, .int r), (0, .ref b0), (1, .ref (h 0)), (2, .ref (d 0)), (3, .ref o), (4, .int (nI i))] dL_law_598 (by decide) rfl ?_
  refine z_aln C dL_law_600 3 rfl ?_
  refine z_aln C dL_law_601 1 rfl ?_
  refine z_il C dL_law_602 5 rfl ?_
  refine z_ic C dL_law_604 1 (by decide) ?_
  refine z_iadd C dL_law_605 (nI (i + 1)) (nI_add i 1) ?_
  refine z_sld C hX hbl hbA (i + 1) dL_law_606 rfl (by omega) hL ?_
  refine z_aln C dL_law_607 1 rfl ?_
  refine z_il C dL_law_608 5 rfl ?_
  refine z_ic C dL_law_610 2 (by decide) ?_
  refine z_iadd C dL_law_611 (nI (i + 2)) (nI_add i 2) ?_
  refine z_sld C hX hbl hbA (i + 2) dL_law_612 rfl (by omega) hL ?_
  refine z_cVi (As := [.int (sc (i + 1)), .int (sc (i + 2))]) (rest := []) C hM gL_law_X6_yearAt rfl ⟨rfl, by decide, by decide, (by decide : (parseMethodDescriptor yX6_yearAt.desc).map (fun d => d.parameters.length) = some 2)⟩ hR6 ⟨hc, hs⟩ 0 6 rfl rfl [38, 39, 40, 41, 42, 43, 44, 45, 46, 47, 48] [0, 1, 2, 3, 4, 5, 6, 7, 8, 9, 10, 11, 12, 13, 14, 15, 16, 17, 18, 19, 20, 21, 22, 23, 24, 25, 26, 27, 28, 29, 30, 31, 32, 33, 34, 35, 36, 37] [0, 1, 2, 3, 4, 5, 6, 7, 8, 9, 10, 11, 12, 13, 14, 15, 16, 17, 18, 19, 20, 21, 22, 23, 24, 25, 26, 27, 28, 29, 30, 31, 32, 33, 34, 35, 36, 37, 38, 39, 40, 41, 42, 43, 44, 45, 46, 47, 48] rfl rfl (by decide) (by decide) (by decide) (by decide) (KW h a b na nf o d X gP1 gT1 gA1 gF1 fo1 g1) rfl (Nat.le_of_ble_eq_true rfl) dL_law_613 rfl ?_
  refine z_is C [(6, .int rb), (5, .int r), (0, .ref b0), (1, .ref (h 0)), (2, .ref (d 0)), (3, .ref o), (4, .int (nI i))] dL_law_616 (by decide) rfl ?_
  refine z_aln C dL_law_618 4 rfl ?_
  refine z_cVi (As := []) (rest := []) C (mX6_thrown l X d g1) gL_law_X6_thrown rfl ⟨rfl, by decide, by decide, (by decide : (parseMethodDescriptor yX6_thrown.desc).map (fun d => d.parameters.length) = some 0)⟩ ⟨by decide, by decide⟩ ⟨hc, hs⟩ 0 6 rfl rfl [38, 39, 40, 41, 42, 43, 44, 45, 46, 47, 48] [0, 1, 2, 3, 4, 5, 6, 7, 8, 9, 10, 11, 12, 13, 14, 15, 16, 17, 18, 19, 20, 21, 22, 23, 24, 25, 26, 27, 28, 29, 30, 31, 32, 33, 34, 35, 36, 37] [0, 1, 2, 3, 4, 5, 6, 7, 8, 9, 10, 11, 12, 13, 14, 15, 16, 17, 18, 19, 20, 21, 22, 23, 24, 25, 26, 27, 28, 29, 30, 31, 32, 33, 34, 35, 36, 37, 38, 39, 40, 41, 42, 43, 44, 45, 46, 47, 48] rfl rfl (by decide) (by decide) (by decide) (by decide) (KW h a b na nf o d X gP1 gT1 gA1 gF1 fo1 g1) rfl (Nat.le_of_ble_eq_true rfl) dL_law_619 rfl ?_
  refine z_il C dL_law_622 1 rfl ?_
  refine z_ic_eq C 629 dL_law_624 (by decide) (fun _ => ?_) (fun h => absurd h10 h)
  have k2 : Z p l e room_1 s m args below meth c X A 7 Q (cells + 1) (slots + 6) (KW h a b na nf o d X gP1 gT1 gA1 gF1 fo1 g1) [(6, .int rb), (5, .int r), (0, .ref b0), (1, .ref (h 0)), (2, .ref (d 0)), (3, .ref o), (4, .int (nI i))] 646 [] := by
    refine z_go C 1115 dL_law_646 (by decide) ?_
    exact z_lv [2, 3, 4, 5, 6] [(0, .ref b0), (1, .ref (h 0)), (2, .ref (d 0)), (3, .ref o), (4, .int (nI i))] rfl k
  refine z_il C dL_law_629 1 rfl ?_
  refine z_if_ne C 646 dL_law_631 (by decide) (fun _ => k2) (fun hr => ?_)
  refine z_aln C dL_law_634 5 rfl ?_
  refine z_ic C dL_law_635 0 (by decide) ?_
  refine z_lald C 37 0 dL_law_636 rfl (by decide) (by decide) (by decide) ?_
  refine z_il C dL_law_637 0 rfl ?_
  refine z_i2l C dL_law_639 rb.toInt64 rfl ?_
  refine z_lcmp C dL_law_640 ?_
  exact z_if_eq C 646 dL_law_641 (by decide) (fun _ => k2) (fun h => absurd (by rw [heq hr]; exact lg_cmp_self _) h)
set_option maxHeartbeats 4000000 in
set_option maxRecDepth 100000 in
theorem bL_common {p : Program} {l : Launch} {e : Env} {s : State} {m : MethodId} {args : Array Value} {below : List Frame} {meth : Method} {c : Code} {Q : State → Prop} {X : zX} {A : Nat → Prop} (C : ZC p s m args meth c X A 7 cL_law RL wsL_law (some .boolean)) (hxw : xW s) (hxs : xS A s s.heap) {b0 L : Nat} {sc : Nat → Int32} (hX : va_X b0 L sc s s.heap) (hbl : b0 < s.heap.size) (hbA : ¬ A b0) (hL : L ≤ 2048) (h a b na nf : Nat → Nat) (o : Nat) (d : Nat → Nat) (gP gT gA gF g : zG) (fo : Nat → Int64) (i : Nat) (hi : i + 4 ≤ L) (cells slots : Nat) (hc : cells + 1 ≤ 1082) (hs : slots + 6 ≤ 16674) (gP1 gT1 gA1 gF1 g1 : zG) (fo1 : Nat → Int64) {fr6 lo6 : Nat} (r rb : Int32) (hE : CE l yL_common wsL_common 9 200 1 6 X (HW h a b na nf o X gP gT gA gF fo) [.ref (h 0), .int (sc (i + 1)), .int (sc (i + 2)), .ref o] r (HW h a b na nf o X gP1 gT1 gA1 gF1 fo1)) (hM : CI l yX6_common wsX6_common fr6 lo6 0 0 X (MW d X g) (.ref (d 0) :: [.int (sc (i + 1)), .int (sc (i + 2))]) rb (MW d X g1)) (hR6 : fr6 + 1 ≤ 11 ∧ 8 + (5 + 11) + lo6 ≤ 390) (h10 : g1 10 0 = r) (heq : r = 0 → fo1 0 = rb.toInt64) (k : Z p l e room_1 s m args below meth c X A 7 Q (cells + 1) (slots + 6) (KW h a b na nf o d X gP1 gT1 gA1 gF1 fo1 g1) [(0, .ref b0), (1, .ref (h 0)), (2, .ref (d 0)), (3, .ref o), (4, .int (nI i))] 1115 []) : Z p l e room_1 s m args below meth c X A 7 Q cells slots (KW h a b na nf o d X gP gT gA gF fo g) [(0, .ref b0), (1, .ref (h 0)), (2, .ref (d 0)), (3, .ref o), (4, .int (nI i))] 649 [] := by
  refine z_aln C dL_law_649 1 rfl ?_
  refine z_aln C dL_law_650 0 rfl ?_
  refine z_il C dL_law_651 4 rfl ?_
  refine z_ic C dL_law_653 1 (by decide) ?_
  refine z_iadd C dL_law_654 (nI (i + 1)) (nI_add i 1) ?_
  refine z_sld C hX hbl hbA (i + 1) dL_law_655 rfl (by omega) hL ?_
  refine z_aln C dL_law_656 0 rfl ?_
  refine z_il C dL_law_657 4 rfl ?_
  refine z_ic C dL_law_659 2 (by decide) ?_
  refine z_iadd C dL_law_660 (nI (i + 2)) (nI_add i 2) ?_
  refine z_sld C hX hbl hbA (i + 2) dL_law_661 rfl (by omega) hL ?_
  refine z_aln C dL_law_662 3 rfl ?_
  refine z_cE (As := [.ref (h 0), .int (sc (i + 1)), .int (sc (i + 2)), .ref o]) (rest := []) C hxw hxs hE gL_law_L_common rfl ⟨by decide, by decide, (by decide : (parseMethodDescriptor yL_common.desc).map (fun d => d.parameters.length) = some 4)⟩ ⟨by decide, by decide⟩ ⟨hc, hs⟩ [0, 1, 2, 3, 4, 5, 6, 7, 8, 9, 10, 11, 12, 13, 14, 15, 16, 17, 18, 19, 20, 21, 22, 23, 24, 25, 26, 27, 28, 29, 30, 31, 32, 33, 34, 35, 36, 37] [38, 39, 40, 41, 42, 43, 44, 45, 46, 47, 48] [11, 12, 13, 14, 15, 16, 17, 18, 19, 20, 21, 22, 23, 24, 25, 26, 27, 28, 29, 30, 31, 32, 33, 34, 35, 36, 37, 38, 39, 40, 41, 42, 43, 44, 45, 46, 47, 48, 0, 1, 2, 3, 4, 5, 6, 7, 8, 9, 10] rfl rfl (by decide) (by decide) (by decide) (by decide) (KW h a b na nf o d X gP1 gT1 gA1 gF1 fo1 g) rfl (Nat.le_of_ble_eq_true rfl) dL_law_663 rfl ?_
  refine z_is C [(5, .int r), (0, .ref b0), (1, .ref (h 0)), (2, .ref (d 0)), (3, .ref o), (4, .int (nI i))] dL_law_666 (by decide) rfl ?_
  refine z_aln C dL_law_668 3 rfl ?_
  refine z_aln C dL_law_669 1 rfl ?_
  refine z_il C dL_law_670 5 rfl ?_
  refine z_ic C dL_law_672 1 (by decide) ?_
  refine z_iadd C dL_law_673 (nI (i + 1)) (nI_add i 1) ?_
  refine z_sld C hX hbl hbA (i + 1) dL_law_674 rfl (by omega) hL ?_
  refine z_aln C dL_law_675 1 rfl ?_
  refine z_il C dL_law_676 5 rfl ?_
  refine z_ic C dL_law_678 2 (by decide) ?_
  refine z_iadd C dL_law_679 (nI (i + 2)) (nI_add i 2) ?_
  refine z_sld C hX hbl hbA (i + 2) dL_law_680 rfl (by omega) hL ?_
  refine z_cVi (As := [.int (sc (i + 1)), .int (sc (i + 2))]) (rest := []) C hM gL_law_X6_common rfl ⟨rfl, by decide, by decide, (by decide : (parseMethodDescriptor yX6_common.desc).map (fun d => d.parameters.length) = some 2)⟩ hR6 ⟨hc, hs⟩ 0 6 rfl rfl [38, 39, 40, 41, 42, 43, 44, 45, 46, 47, 48] [0, 1, 2, 3, 4, 5, 6, 7, 8, 9, 10, 11, 12, 13, 14, 15, 16, 17, 18, 19, 20, 21, 22, 23, 24, 25, 26, 27, 28, 29, 30, 31, 32, 33, 34, 35, 36, 37] [0, 1, 2, 3, 4, 5, 6, 7, 8, 9, 10, 11, 12, 13, 14, 15, 16, 17, 18, 19, 20, 21, 22, 23, 24, 25, 26, 27, 28, 29, 30, 31, 32, 33, 34, 35, 36, 37, 38, 39, 40, 41, 42, 43, 44, 45, 46, 47, 48] rfl rfl (by decide) (by decide) (by decide) (by decide) (KW h a b na nf o d X gP1 gT1 gA1 gF1 fo1 g1) rfl (Nat.le_of_ble_eq_true rfl) dL_law_681 rfl ?_
  refine z_is C [(6, .int rb), (5, .int r), (0, .ref b0), (1, .ref (h 0)), (2, .ref (d 0)), (3, .ref o), (4, .int (nI i))] dL_law_684 (by decide) rfl ?_
  refine z_aln C dL_law_686 4 rfl ?_
  refine z_cVi (As := []) (rest := []) C (mX6_thrown l X d g1) gL_law_X6_thrown rfl ⟨rfl, by decide, by decide, (by decide : (parseMethodDescriptor yX6_thrown.desc).map (fun d => d.parameters.length) = some 0)⟩ ⟨by decide, by decide⟩ ⟨hc, hs⟩ 0 6 rfl rfl [38, 39, 40, 41, 42, 43, 44, 45, 46, 47, 48] [0, 1, 2, 3, 4, 5, 6, 7, 8, 9, 10, 11, 12, 13, 14, 15, 16, 17, 18, 19, 20, 21, 22, 23, 24, 25, 26, 27, 28, 29, 30, 31, 32, 33, 34, 35, 36, 37] [0, 1, 2, 3, 4, 5, 6, 7, 8, 9, 10, 11, 12, 13, 14, 15, 16, 17, 18, 19, 20, 21, 22, 23, 24, 25, 26, 27, 28, 29, 30, 31, 32, 33, 34, 35, 36, 37, 38, 39, 40, 41, 42, 43, 44, 45, 46, 47, 48] rfl rfl (by decide) (by decide) (by decide) (by decide) (KW h a b na nf o d X gP1 gT1 gA1 gF1 fo1 g1) rfl (Nat.le_of_ble_eq_true rfl) dL_law_687 rfl ?_
  refine z_il C dL_law_690 1 rfl ?_
  refine z_ic_eq C 697 dL_law_692 (by decide) (fun _ => ?_) (fun h => absurd h10 h)
  have k2 : Z p l e room_1 s m args below meth c X A 7 Q (cells + 1) (slots + 6) (KW h a b na nf o d X gP1 gT1 gA1 gF1 fo1 g1) [(6, .int rb), (5, .int r), (0, .ref b0), (1, .ref (h 0)), (2, .ref (d 0)), (3, .ref o), (4, .int (nI i))] 714 [] := by
    refine z_go C 1115 dL_law_714 (by decide) ?_
    exact z_lv [2, 3, 4, 5, 6] [(0, .ref b0), (1, .ref (h 0)), (2, .ref (d 0)), (3, .ref o), (4, .int (nI i))] rfl k
  refine z_il C dL_law_697 1 rfl ?_
  refine z_if_ne C 714 dL_law_699 (by decide) (fun _ => k2) (fun hr => ?_)
  refine z_aln C dL_law_702 5 rfl ?_
  refine z_ic C dL_law_703 0 (by decide) ?_
  refine z_lald C 37 0 dL_law_704 rfl (by decide) (by decide) (by decide) ?_
  refine z_il C dL_law_705 0 rfl ?_
  refine z_i2l C dL_law_707 rb.toInt64 rfl ?_
  refine z_lcmp C dL_law_708 ?_
  exact z_if_eq C 714 dL_law_709 (by decide) (fun _ => k2) (fun h => absurd (by rw [heq hr]; exact lg_cmp_self _) h)
set_option maxHeartbeats 4000000 in
set_option maxRecDepth 100000 in
theorem bL_floods {p : Program} {l : Launch} {e : Env} {s : State} {m : MethodId} {args : Array Value} {below : List Frame} {meth : Method} {c : Code} {Q : State → Prop} {X : zX} {A : Nat → Prop} (C : ZC p s m args meth c X A 7 cL_law RL wsL_law (some .boolean)) (hxw : xW s) (hxs : xS A s s.heap) {b0 L : Nat} {sc : Nat → Int32} (hX : va_X b0 L sc s s.heap) (hbl : b0 < s.heap.size) (hbA : ¬ A b0) (hL : L ≤ 2048) (h a b na nf : Nat → Nat) (o : Nat) (d : Nat → Nat) (gP gT gA gF g : zG) (fo : Nat → Int64) (i : Nat) (hi : i + 4 ≤ L) (cells slots : Nat) (hc : cells + 1 ≤ 1082) (hs : slots + 6 ≤ 16674) (gP1 gT1 gA1 gF1 g1 : zG) (fo1 : Nat → Int64) {fr5 lo5 fr6 lo6 : Nat} (rb : Int32) (hE : CI l yX5_floods wsX5_floods fr5 lo5 0 0 X (IW h a b na nf X gP gT gA gF) [.ref (h 0)] rb (IW h a b na nf X gP1 gT1 gA1 gF1)) (hR5 : fr5 + 1 ≤ 11 ∧ 8 + (1 + 11) + lo5 ≤ 390) (hM : CI l yX6_floods wsX6_floods fr6 lo6 0 0 X (MW d X g) (.ref (d 0) :: []) rb (MW d X g1)) (hR6 : fr6 + 1 ≤ 11 ∧ 8 + (1 + 11) + lo6 ≤ 390) (hfo : fo1 = fo) (k : Z p l e room_1 s m args below meth c X A 7 Q (cells + 1) (slots + 6) (KW h a b na nf o d X gP1 gT1 gA1 gF1 fo1 g1) [(0, .ref b0), (1, .ref (h 0)), (2, .ref (d 0)), (3, .ref o), (4, .int (nI i))] 1115 []) : Z p l e room_1 s m args below meth c X A 7 Q cells slots (KW h a b na nf o d X gP gT gA gF fo g) [(0, .ref b0), (1, .ref (h 0)), (2, .ref (d 0)), (3, .ref o), (4, .int (nI i))] 717 [] := by
  subst hfo
  refine z_wide (cells + 1) (slots + 6) (by omega) (by omega) ?_
  refine z_aln C dL_law_717 1 rfl ?_
  refine z_cVi (As := []) (rest := []) C hE gL_law_X5_floods rfl ⟨rfl, by decide, by decide, (by decide : (parseMethodDescriptor yX5_floods.desc).map (fun d => d.parameters.length) = some 0)⟩ hR5 ⟨hc, hs⟩ 0 5 rfl rfl [0, 1, 2, 3, 4, 5, 6, 7, 8, 9, 10, 11, 12, 13, 14, 15, 16, 17, 18, 19, 20, 21, 22, 23, 24, 25, 26, 27, 28, 29, 30, 31, 32, 33, 34, 35, 36] [37, 38, 39, 40, 41, 42, 43, 44, 45, 46, 47, 48] [12, 13, 14, 15, 16, 17, 18, 19, 20, 21, 22, 23, 24, 25, 26, 27, 28, 29, 30, 31, 32, 33, 34, 35, 36, 37, 38, 39, 40, 41, 42, 43, 44, 45, 46, 47, 48, 0, 1, 2, 3, 4, 5, 6, 7, 8, 9, 10, 11] rfl rfl (by decide) (by decide) (by decide) (by decide) (KW h a b na nf o d X gP1 gT1 gA1 gF1 fo1 g) rfl (Nat.le_of_ble_eq_true rfl) dL_law_718 rfl ?_
  refine z_aln C dL_law_721 2 rfl ?_
  refine z_cVi (As := []) (rest := [.int rb]) C hM gL_law_X6_floods rfl ⟨rfl, by decide, by decide, (by decide : (parseMethodDescriptor yX6_floods.desc).map (fun d => d.parameters.length) = some 0)⟩ hR6 ⟨hc, hs⟩ 0 6 rfl rfl [38, 39, 40, 41, 42, 43, 44, 45, 46, 47, 48] [0, 1, 2, 3, 4, 5, 6, 7, 8, 9, 10, 11, 12, 13, 14, 15, 16, 17, 18, 19, 20, 21, 22, 23, 24, 25, 26, 27, 28, 29, 30, 31, 32, 33, 34, 35, 36, 37] [0, 1, 2, 3, 4, 5, 6, 7, 8, 9, 10, 11, 12, 13, 14, 15, 16, 17, 18, 19, 20, 21, 22, 23, 24, 25, 26, 27, 28, 29, 30, 31, 32, 33, 34, 35, 36, 37, 38, 39, 40, 41, 42, 43, 44, 45, 46, 47, 48] rfl rfl (by decide) (by decide) (by decide) (by decide) (KW h a b na nf o d X gP1 gT1 gA1 gF1 fo1 g1) rfl (Nat.le_of_ble_eq_true rfl) dL_law_722 rfl ?_
  exact z_ic_eq C 1115 dL_law_725 (by decide) (fun _ => k) (fun h => absurd rfl h)
set_option maxHeartbeats 4000000 in
set_option maxRecDepth 100000 in
theorem bL_flood {p : Program} {l : Launch} {e : Env} {s : State} {m : MethodId} {args : Array Value} {below : List Frame} {meth : Method} {c : Code} {Q : State → Prop} {X : zX} {A : Nat → Prop} (C : ZC p s m args meth c X A 7 cL_law RL wsL_law (some .boolean)) (hxw : xW s) (hxs : xS A s s.heap) {b0 L : Nat} {sc : Nat → Int32} (hX : va_X b0 L sc s s.heap) (hbl : b0 < s.heap.size) (hbA : ¬ A b0) (hL : L ≤ 2048) (h a b na nf : Nat → Nat) (o : Nat) (d : Nat → Nat) (gP gT gA gF g : zG) (fo : Nat → Int64) (i : Nat) (hi : i + 4 ≤ L) (cells slots : Nat) (hc : cells + 1 ≤ 1082) (hs : slots + 6 ≤ 16674) (gP1 gT1 gA1 gF1 g1 : zG) (fo1 : Nat → Int64) {fr6 lo6 : Nat} (r rb : Int32) (hE : CE l yL_flood wsL_flood 9 200 1 6 X (HW h a b na nf o X gP gT gA gF fo) [.ref (h 0), .int (sc (i + 1)), .int (sc (i + 2)), .ref o] r (HW h a b na nf o X gP1 gT1 gA1 gF1 fo1)) (hM : CI l yX6_flood wsX6_flood fr6 lo6 0 0 X (MW d X g) (.ref (d 0) :: [.int (sc (i + 1)), .int (sc (i + 2))]) rb (MW d X g1)) (hR6 : fr6 + 1 ≤ 11 ∧ 8 + (3 + 11) + lo6 ≤ 390) (h10 : g1 10 0 = r) (heq : r = 0 → fo1 0 = rb.toInt64) (k : Z p l e room_1 s m args below meth c X A 7 Q (cells + 1) (slots + 6) (KW h a b na nf o d X gP1 gT1 gA1 gF1 fo1 g1) [(0, .ref b0), (1, .ref (h 0)), (2, .ref (d 0)), (3, .ref o), (4, .int (nI i))] 1115 []) : Z p l e room_1 s m args below meth c X A 7 Q cells slots (KW h a b na nf o d X gP gT gA gF fo g) [(0, .ref b0), (1, .ref (h 0)), (2, .ref (d 0)), (3, .ref o), (4, .int (nI i))] 730 [] := by
  refine z_aln C dL_law_730 1 rfl ?_
  refine z_aln C dL_law_731 0 rfl ?_
  refine z_il C dL_law_732 4 rfl ?_
  refine z_ic C dL_law_734 1 (by decide) ?_
  refine z_iadd C dL_law_735 (nI (i + 1)) (nI_add i 1) ?_
  refine z_sld C hX hbl hbA (i + 1) dL_law_736 rfl (by omega) hL ?_
  refine z_aln C dL_law_737 0 rfl ?_
  refine z_il C dL_law_738 4 rfl ?_
  refine z_ic C dL_law_740 2 (by decide) ?_
  refine z_iadd C dL_law_741 (nI (i + 2)) (nI_add i 2) ?_
  refine z_sld C hX hbl hbA (i + 2) dL_law_742 rfl (by omega) hL ?_
  refine z_aln C dL_law_743 3 rfl ?_
  refine z_cE (As := [.ref (h 0), .int (sc (i + 1)), .int (sc (i + 2)), .ref o]) (rest := []) C hxw hxs hE gL_law_L_flood rfl ⟨by decide, by decide, (by decide : (parseMethodDescriptor yL_flood.desc).map (fun d => d.parameters.length) = some 4)⟩ ⟨by decide, by decide⟩ ⟨hc, hs⟩ [0, 1, 2, 3, 4, 5, 6, 7, 8, 9, 10, 11, 12, 13, 14, 15, 16, 17, 18, 19, 20, 21, 22, 23, 24, 25, 26, 27, 28, 29, 30, 31, 32, 33, 34, 35, 36, 37] [38, 39, 40, 41, 42, 43, 44, 45, 46, 47, 48] [11, 12, 13, 14, 15, 16, 17, 18, 19, 20, 21, 22, 23, 24, 25, 26, 27, 28, 29, 30, 31, 32, 33, 34, 35, 36, 37, 38, 39, 40, 41, 42, 43, 44, 45, 46, 47, 48, 0, 1, 2, 3, 4, 5, 6, 7, 8, 9, 10] rfl rfl (by decide) (by decide) (by decide) (by decide) (KW h a b na nf o d X gP1 gT1 gA1 gF1 fo1 g) rfl (Nat.le_of_ble_eq_true rfl) dL_law_744 rfl ?_
  refine z_is C [(5, .int r), (0, .ref b0), (1, .ref (h 0)), (2, .ref (d 0)), (3, .ref o), (4, .int (nI i))] dL_law_747 (by decide) rfl ?_
  refine z_aln C dL_law_749 3 rfl ?_
  refine z_aln C dL_law_750 1 rfl ?_
  refine z_il C dL_law_751 5 rfl ?_
  refine z_ic C dL_law_753 1 (by decide) ?_
  refine z_iadd C dL_law_754 (nI (i + 1)) (nI_add i 1) ?_
  refine z_sld C hX hbl hbA (i + 1) dL_law_755 rfl (by omega) hL ?_
  refine z_aln C dL_law_756 1 rfl ?_
  refine z_il C dL_law_757 5 rfl ?_
  refine z_ic C dL_law_759 2 (by decide) ?_
  refine z_iadd C dL_law_760 (nI (i + 2)) (nI_add i 2) ?_
  refine z_sld C hX hbl hbA (i + 2) dL_law_761 rfl (by omega) hL ?_
  refine z_cVi (As := [.int (sc (i + 1)), .int (sc (i + 2))]) (rest := []) C hM gL_law_X6_flood rfl ⟨rfl, by decide, by decide, (by decide : (parseMethodDescriptor yX6_flood.desc).map (fun d => d.parameters.length) = some 2)⟩ hR6 ⟨hc, hs⟩ 0 6 rfl rfl [38, 39, 40, 41, 42, 43, 44, 45, 46, 47, 48] [0, 1, 2, 3, 4, 5, 6, 7, 8, 9, 10, 11, 12, 13, 14, 15, 16, 17, 18, 19, 20, 21, 22, 23, 24, 25, 26, 27, 28, 29, 30, 31, 32, 33, 34, 35, 36, 37] [0, 1, 2, 3, 4, 5, 6, 7, 8, 9, 10, 11, 12, 13, 14, 15, 16, 17, 18, 19, 20, 21, 22, 23, 24, 25, 26, 27, 28, 29, 30, 31, 32, 33, 34, 35, 36, 37, 38, 39, 40, 41, 42, 43, 44, 45, 46, 47, 48] rfl rfl (by decide) (by decide) (by decide) (by decide) (KW h a b na nf o d X gP1 gT1 gA1 gF1 fo1 g1) rfl (Nat.le_of_ble_eq_true rfl) dL_law_762 rfl ?_
  refine z_is C [(6, .int rb), (5, .int r), (0, .ref b0), (1, .ref (h 0)), (2, .ref (d 0)), (3, .ref o), (4, .int (nI i))] dL_law_765 (by decide) rfl ?_
  refine z_aln C dL_law_767 4 rfl ?_
  refine z_cVi (As := []) (rest := []) C (mX6_thrown l X d g1) gL_law_X6_thrown rfl ⟨rfl, by decide, by decide, (by decide : (parseMethodDescriptor yX6_thrown.desc).map (fun d => d.parameters.length) = some 0)⟩ ⟨by decide, by decide⟩ ⟨hc, hs⟩ 0 6 rfl rfl [38, 39, 40, 41, 42, 43, 44, 45, 46, 47, 48] [0, 1, 2, 3, 4, 5, 6, 7, 8, 9, 10, 11, 12, 13, 14, 15, 16, 17, 18, 19, 20, 21, 22, 23, 24, 25, 26, 27, 28, 29, 30, 31, 32, 33, 34, 35, 36, 37] [0, 1, 2, 3, 4, 5, 6, 7, 8, 9, 10, 11, 12, 13, 14, 15, 16, 17, 18, 19, 20, 21, 22, 23, 24, 25, 26, 27, 28, 29, 30, 31, 32, 33, 34, 35, 36, 37, 38, 39, 40, 41, 42, 43, 44, 45, 46, 47, 48] rfl rfl (by decide) (by decide) (by decide) (by decide) (KW h a b na nf o d X gP1 gT1 gA1 gF1 fo1 g1) rfl (Nat.le_of_ble_eq_true rfl) dL_law_768 rfl ?_
  refine z_il C dL_law_771 1 rfl ?_
  refine z_ic_eq C 778 dL_law_773 (by decide) (fun _ => ?_) (fun h => absurd h10 h)
  have k2 : Z p l e room_1 s m args below meth c X A 7 Q (cells + 1) (slots + 6) (KW h a b na nf o d X gP1 gT1 gA1 gF1 fo1 g1) [(6, .int rb), (5, .int r), (0, .ref b0), (1, .ref (h 0)), (2, .ref (d 0)), (3, .ref o), (4, .int (nI i))] 795 [] := by
    refine z_go C 1115 dL_law_795 (by decide) ?_
    exact z_lv [2, 3, 4, 5, 6] [(0, .ref b0), (1, .ref (h 0)), (2, .ref (d 0)), (3, .ref o), (4, .int (nI i))] rfl k
  refine z_il C dL_law_778 1 rfl ?_
  refine z_if_ne C 795 dL_law_780 (by decide) (fun _ => k2) (fun hr => ?_)
  refine z_aln C dL_law_783 5 rfl ?_
  refine z_ic C dL_law_784 0 (by decide) ?_
  refine z_lald C 37 0 dL_law_785 rfl (by decide) (by decide) (by decide) ?_
  refine z_il C dL_law_786 0 rfl ?_
  refine z_i2l C dL_law_788 rb.toInt64 rfl ?_
  refine z_lcmp C dL_law_789 ?_
  exact z_if_eq C 795 dL_law_790 (by decide) (fun _ => k2) (fun h => absurd (by rw [heq hr]; exact lg_cmp_self _) h)
set_option maxHeartbeats 4000000 in
set_option maxRecDepth 100000 in
theorem bL_front {p : Program} {l : Launch} {e : Env} {s : State} {m : MethodId} {args : Array Value} {below : List Frame} {meth : Method} {c : Code} {Q : State → Prop} {X : zX} {A : Nat → Prop} (C : ZC p s m args meth c X A 7 cL_law RL wsL_law (some .boolean)) (hxw : xW s) (hxs : xS A s s.heap) {b0 L : Nat} {sc : Nat → Int32} (hX : va_X b0 L sc s s.heap) (hbl : b0 < s.heap.size) (hbA : ¬ A b0) (hL : L ≤ 2048) (h a b na nf : Nat → Nat) (o : Nat) (d : Nat → Nat) (gP gT gA gF g : zG) (fo : Nat → Int64) (i : Nat) (hi : i + 4 ≤ L) (cells slots : Nat) (hc : cells + 1 ≤ 1082) (hs : slots + 6 ≤ 16674) (gP1 gT1 gA1 gF1 g1 : zG) (fo1 : Nat → Int64) {fr6 lo6 : Nat} (r rb : Int32) (hE : CE l yL_front wsL_front 9 200 1 6 X (HW h a b na nf o X gP gT gA gF fo) [.ref (h 0), .int (sc (i + 1)), .ref o] r (HW h a b na nf o X gP1 gT1 gA1 gF1 fo1)) (hM : CI l yX6_front wsX6_front fr6 lo6 0 0 X (MW d X g) (.ref (d 0) :: [.int (sc (i + 1))]) rb (MW d X g1)) (hR6 : fr6 + 1 ≤ 11 ∧ 8 + (2 + 11) + lo6 ≤ 390) (h10 : g1 10 0 = r) (heq : r = 0 → fo1 0 = rb.toInt64) (k : Z p l e room_1 s m args below meth c X A 7 Q (cells + 1) (slots + 6) (KW h a b na nf o d X gP1 gT1 gA1 gF1 fo1 g1) [(0, .ref b0), (1, .ref (h 0)), (2, .ref (d 0)), (3, .ref o), (4, .int (nI i))] 1115 []) : Z p l e room_1 s m args below meth c X A 7 Q cells slots (KW h a b na nf o d X gP gT gA gF fo g) [(0, .ref b0), (1, .ref (h 0)), (2, .ref (d 0)), (3, .ref o), (4, .int (nI i))] 798 [] := by
  refine z_aln C dL_law_798 1 rfl ?_
  refine z_aln C dL_law_799 0 rfl ?_
  refine z_il C dL_law_800 4 rfl ?_
  refine z_ic C dL_law_802 1 (by decide) ?_
  refine z_iadd C dL_law_803 (nI (i + 1)) (nI_add i 1) ?_
  refine z_sld C hX hbl hbA (i + 1) dL_law_804 rfl (by omega) hL ?_
  refine z_aln C dL_law_805 3 rfl ?_
  refine z_cE (As := [.ref (h 0), .int (sc (i + 1)), .ref o]) (rest := []) C hxw hxs hE gL_law_L_front rfl ⟨by decide, by decide, (by decide : (parseMethodDescriptor yL_front.desc).map (fun d => d.parameters.length) = some 3)⟩ ⟨by decide, by decide⟩ ⟨hc, hs⟩ [0, 1, 2, 3, 4, 5, 6, 7, 8, 9, 10, 11, 12, 13, 14, 15, 16, 17, 18, 19, 20, 21, 22, 23, 24, 25, 26, 27, 28, 29, 30, 31, 32, 33, 34, 35, 36, 37] [38, 39, 40, 41, 42, 43, 44, 45, 46, 47, 48] [11, 12, 13, 14, 15, 16, 17, 18, 19, 20, 21, 22, 23, 24, 25, 26, 27, 28, 29, 30, 31, 32, 33, 34, 35, 36, 37, 38, 39, 40, 41, 42, 43, 44, 45, 46, 47, 48, 0, 1, 2, 3, 4, 5, 6, 7, 8, 9, 10] rfl rfl (by decide) (by decide) (by decide) (by decide) (KW h a b na nf o d X gP1 gT1 gA1 gF1 fo1 g) rfl (Nat.le_of_ble_eq_true rfl) dL_law_806 rfl ?_
  refine z_is C [(5, .int r), (0, .ref b0), (1, .ref (h 0)), (2, .ref (d 0)), (3, .ref o), (4, .int (nI i))] dL_law_809 (by decide) rfl ?_
  refine z_aln C dL_law_811 3 rfl ?_
  refine z_aln C dL_law_812 1 rfl ?_
  refine z_il C dL_law_813 5 rfl ?_
  refine z_ic C dL_law_815 1 (by decide) ?_
  refine z_iadd C dL_law_816 (nI (i + 1)) (nI_add i 1) ?_
  refine z_sld C hX hbl hbA (i + 1) dL_law_817 rfl (by omega) hL ?_
  refine z_cVi (As := [.int (sc (i + 1))]) (rest := []) C hM gL_law_X6_front rfl ⟨rfl, by decide, by decide, (by decide : (parseMethodDescriptor yX6_front.desc).map (fun d => d.parameters.length) = some 1)⟩ hR6 ⟨hc, hs⟩ 0 6 rfl rfl [38, 39, 40, 41, 42, 43, 44, 45, 46, 47, 48] [0, 1, 2, 3, 4, 5, 6, 7, 8, 9, 10, 11, 12, 13, 14, 15, 16, 17, 18, 19, 20, 21, 22, 23, 24, 25, 26, 27, 28, 29, 30, 31, 32, 33, 34, 35, 36, 37] [0, 1, 2, 3, 4, 5, 6, 7, 8, 9, 10, 11, 12, 13, 14, 15, 16, 17, 18, 19, 20, 21, 22, 23, 24, 25, 26, 27, 28, 29, 30, 31, 32, 33, 34, 35, 36, 37, 38, 39, 40, 41, 42, 43, 44, 45, 46, 47, 48] rfl rfl (by decide) (by decide) (by decide) (by decide) (KW h a b na nf o d X gP1 gT1 gA1 gF1 fo1 g1) rfl (Nat.le_of_ble_eq_true rfl) dL_law_818 rfl ?_
  refine z_is C [(6, .int rb), (5, .int r), (0, .ref b0), (1, .ref (h 0)), (2, .ref (d 0)), (3, .ref o), (4, .int (nI i))] dL_law_821 (by decide) rfl ?_
  refine z_aln C dL_law_823 4 rfl ?_
  refine z_cVi (As := []) (rest := []) C (mX6_thrown l X d g1) gL_law_X6_thrown rfl ⟨rfl, by decide, by decide, (by decide : (parseMethodDescriptor yX6_thrown.desc).map (fun d => d.parameters.length) = some 0)⟩ ⟨by decide, by decide⟩ ⟨hc, hs⟩ 0 6 rfl rfl [38, 39, 40, 41, 42, 43, 44, 45, 46, 47, 48] [0, 1, 2, 3, 4, 5, 6, 7, 8, 9, 10, 11, 12, 13, 14, 15, 16, 17, 18, 19, 20, 21, 22, 23, 24, 25, 26, 27, 28, 29, 30, 31, 32, 33, 34, 35, 36, 37] [0, 1, 2, 3, 4, 5, 6, 7, 8, 9, 10, 11, 12, 13, 14, 15, 16, 17, 18, 19, 20, 21, 22, 23, 24, 25, 26, 27, 28, 29, 30, 31, 32, 33, 34, 35, 36, 37, 38, 39, 40, 41, 42, 43, 44, 45, 46, 47, 48] rfl rfl (by decide) (by decide) (by decide) (by decide) (KW h a b na nf o d X gP1 gT1 gA1 gF1 fo1 g1) rfl (Nat.le_of_ble_eq_true rfl) dL_law_824 rfl ?_
  refine z_il C dL_law_827 1 rfl ?_
  refine z_ic_eq C 834 dL_law_829 (by decide) (fun _ => ?_) (fun h => absurd h10 h)
  have k2 : Z p l e room_1 s m args below meth c X A 7 Q (cells + 1) (slots + 6) (KW h a b na nf o d X gP1 gT1 gA1 gF1 fo1 g1) [(6, .int rb), (5, .int r), (0, .ref b0), (1, .ref (h 0)), (2, .ref (d 0)), (3, .ref o), (4, .int (nI i))] 851 [] := by
    refine z_go C 1115 dL_law_851 (by decide) ?_
    exact z_lv [2, 3, 4, 5, 6] [(0, .ref b0), (1, .ref (h 0)), (2, .ref (d 0)), (3, .ref o), (4, .int (nI i))] rfl k
  refine z_il C dL_law_834 1 rfl ?_
  refine z_if_ne C 851 dL_law_836 (by decide) (fun _ => k2) (fun hr => ?_)
  refine z_aln C dL_law_839 5 rfl ?_
  refine z_ic C dL_law_840 0 (by decide) ?_
  refine z_lald C 37 0 dL_law_841 rfl (by decide) (by decide) (by decide) ?_
  refine z_il C dL_law_842 0 rfl ?_
  refine z_i2l C dL_law_844 rb.toInt64 rfl ?_
  refine z_lcmp C dL_law_845 ?_
  exact z_if_eq C 851 dL_law_846 (by decide) (fun _ => k2) (fun h => absurd (by rw [heq hr]; exact lg_cmp_self _) h)
set_option maxHeartbeats 4000000 in
set_option maxRecDepth 100000 in
theorem bL_total {p : Program} {l : Launch} {e : Env} {s : State} {m : MethodId} {args : Array Value} {below : List Frame} {meth : Method} {c : Code} {Q : State → Prop} {X : zX} {A : Nat → Prop} (C : ZC p s m args meth c X A 7 cL_law RL wsL_law (some .boolean)) (hxw : xW s) (hxs : xS A s s.heap) {b0 L : Nat} {sc : Nat → Int32} (hX : va_X b0 L sc s s.heap) (hbl : b0 < s.heap.size) (hbA : ¬ A b0) (hL : L ≤ 2048) (h a b na nf : Nat → Nat) (o : Nat) (d : Nat → Nat) (gP gT gA gF g : zG) (fo : Nat → Int64) (i : Nat) (hi : i + 4 ≤ L) (cells slots : Nat) (hc : cells + 1 ≤ 1082) (hs : slots + 6 ≤ 16674) (gP1 gT1 gA1 gF1 g1 : zG) (fo1 : Nat → Int64) {fr6 lo6 : Nat} (r rb : Int32) (hE : CE l yL_total wsL_total 9 200 1 6 X (HW h a b na nf o X gP gT gA gF fo) [.ref (h 0), .int (sc (i + 1)), .ref o] r (HW h a b na nf o X gP1 gT1 gA1 gF1 fo1)) (hM : CI l yX6_total wsX6_total fr6 lo6 0 0 X (MW d X g) (.ref (d 0) :: [.int (sc (i + 1))]) rb (MW d X g1)) (hR6 : fr6 + 1 ≤ 11 ∧ 8 + (4 + 11) + lo6 ≤ 390) (h10 : g1 10 0 = r) (heq : r = 0 → fo1 0 = rb.toInt64) (k : Z p l e room_1 s m args below meth c X A 7 Q (cells + 1) (slots + 6) (KW h a b na nf o d X gP1 gT1 gA1 gF1 fo1 g1) [(0, .ref b0), (1, .ref (h 0)), (2, .ref (d 0)), (3, .ref o), (4, .int (nI i))] 1115 []) : Z p l e room_1 s m args below meth c X A 7 Q cells slots (KW h a b na nf o d X gP gT gA gF fo g) [(0, .ref b0), (1, .ref (h 0)), (2, .ref (d 0)), (3, .ref o), (4, .int (nI i))] 854 [] := by
  refine z_aln C dL_law_854 1 rfl ?_
  refine z_aln C dL_law_855 0 rfl ?_
  refine z_il C dL_law_856 4 rfl ?_
  refine z_ic C dL_law_858 1 (by decide) ?_
  refine z_iadd C dL_law_859 (nI (i + 1)) (nI_add i 1) ?_
  refine z_sld C hX hbl hbA (i + 1) dL_law_860 rfl (by omega) hL ?_
  refine z_aln C dL_law_861 3 rfl ?_
  refine z_cE (As := [.ref (h 0), .int (sc (i + 1)), .ref o]) (rest := []) C hxw hxs hE gL_law_L_total rfl ⟨by decide, by decide, (by decide : (parseMethodDescriptor yL_total.desc).map (fun d => d.parameters.length) = some 3)⟩ ⟨by decide, by decide⟩ ⟨hc, hs⟩ [0, 1, 2, 3, 4, 5, 6, 7, 8, 9, 10, 11, 12, 13, 14, 15, 16, 17, 18, 19, 20, 21, 22, 23, 24, 25, 26, 27, 28, 29, 30, 31, 32, 33, 34, 35, 36, 37] [38, 39, 40, 41, 42, 43, 44, 45, 46, 47, 48] [11, 12, 13, 14, 15, 16, 17, 18, 19, 20, 21, 22, 23, 24, 25, 26, 27, 28, 29, 30, 31, 32, 33, 34, 35, 36, 37, 38, 39, 40, 41, 42, 43, 44, 45, 46, 47, 48, 0, 1, 2, 3, 4, 5, 6, 7, 8, 9, 10] rfl rfl (by decide) (by decide) (by decide) (by decide) (KW h a b na nf o d X gP1 gT1 gA1 gF1 fo1 g) rfl (Nat.le_of_ble_eq_true rfl) dL_law_862 rfl ?_
  refine z_is C [(5, .int r), (0, .ref b0), (1, .ref (h 0)), (2, .ref (d 0)), (3, .ref o), (4, .int (nI i))] dL_law_865 (by decide) rfl ?_
  refine z_aln C dL_law_867 3 rfl ?_
  refine z_aln C dL_law_868 1 rfl ?_
  refine z_il C dL_law_869 5 rfl ?_
  refine z_ic C dL_law_871 1 (by decide) ?_
  refine z_iadd C dL_law_872 (nI (i + 1)) (nI_add i 1) ?_
  refine z_sld C hX hbl hbA (i + 1) dL_law_873 rfl (by omega) hL ?_
  refine z_cVi (As := [.int (sc (i + 1))]) (rest := []) C hM gL_law_X6_total rfl ⟨rfl, by decide, by decide, (by decide : (parseMethodDescriptor yX6_total.desc).map (fun d => d.parameters.length) = some 1)⟩ hR6 ⟨hc, hs⟩ 0 6 rfl rfl [38, 39, 40, 41, 42, 43, 44, 45, 46, 47, 48] [0, 1, 2, 3, 4, 5, 6, 7, 8, 9, 10, 11, 12, 13, 14, 15, 16, 17, 18, 19, 20, 21, 22, 23, 24, 25, 26, 27, 28, 29, 30, 31, 32, 33, 34, 35, 36, 37] [0, 1, 2, 3, 4, 5, 6, 7, 8, 9, 10, 11, 12, 13, 14, 15, 16, 17, 18, 19, 20, 21, 22, 23, 24, 25, 26, 27, 28, 29, 30, 31, 32, 33, 34, 35, 36, 37, 38, 39, 40, 41, 42, 43, 44, 45, 46, 47, 48] rfl rfl (by decide) (by decide) (by decide) (by decide) (KW h a b na nf o d X gP1 gT1 gA1 gF1 fo1 g1) rfl (Nat.le_of_ble_eq_true rfl) dL_law_874 rfl ?_
  refine z_is C [(6, .int rb), (5, .int r), (0, .ref b0), (1, .ref (h 0)), (2, .ref (d 0)), (3, .ref o), (4, .int (nI i))] dL_law_877 (by decide) rfl ?_
  refine z_aln C dL_law_879 4 rfl ?_
  refine z_cVi (As := []) (rest := []) C (mX6_thrown l X d g1) gL_law_X6_thrown rfl ⟨rfl, by decide, by decide, (by decide : (parseMethodDescriptor yX6_thrown.desc).map (fun d => d.parameters.length) = some 0)⟩ ⟨by decide, by decide⟩ ⟨hc, hs⟩ 0 6 rfl rfl [38, 39, 40, 41, 42, 43, 44, 45, 46, 47, 48] [0, 1, 2, 3, 4, 5, 6, 7, 8, 9, 10, 11, 12, 13, 14, 15, 16, 17, 18, 19, 20, 21, 22, 23, 24, 25, 26, 27, 28, 29, 30, 31, 32, 33, 34, 35, 36, 37] [0, 1, 2, 3, 4, 5, 6, 7, 8, 9, 10, 11, 12, 13, 14, 15, 16, 17, 18, 19, 20, 21, 22, 23, 24, 25, 26, 27, 28, 29, 30, 31, 32, 33, 34, 35, 36, 37, 38, 39, 40, 41, 42, 43, 44, 45, 46, 47, 48] rfl rfl (by decide) (by decide) (by decide) (by decide) (KW h a b na nf o d X gP1 gT1 gA1 gF1 fo1 g1) rfl (Nat.le_of_ble_eq_true rfl) dL_law_880 rfl ?_
  refine z_il C dL_law_883 1 rfl ?_
  refine z_ic_eq C 890 dL_law_885 (by decide) (fun _ => ?_) (fun h => absurd h10 h)
  have k2 : Z p l e room_1 s m args below meth c X A 7 Q (cells + 1) (slots + 6) (KW h a b na nf o d X gP1 gT1 gA1 gF1 fo1 g1) [(6, .int rb), (5, .int r), (0, .ref b0), (1, .ref (h 0)), (2, .ref (d 0)), (3, .ref o), (4, .int (nI i))] 907 [] := by
    refine z_go C 1115 dL_law_907 (by decide) ?_
    exact z_lv [2, 3, 4, 5, 6] [(0, .ref b0), (1, .ref (h 0)), (2, .ref (d 0)), (3, .ref o), (4, .int (nI i))] rfl k
  refine z_il C dL_law_890 1 rfl ?_
  refine z_if_ne C 907 dL_law_892 (by decide) (fun _ => k2) (fun hr => ?_)
  refine z_aln C dL_law_895 5 rfl ?_
  refine z_ic C dL_law_896 0 (by decide) ?_
  refine z_lald C 37 0 dL_law_897 rfl (by decide) (by decide) (by decide) ?_
  refine z_il C dL_law_898 0 rfl ?_
  refine z_i2l C dL_law_900 rb.toInt64 rfl ?_
  refine z_lcmp C dL_law_901 ?_
  exact z_if_eq C 907 dL_law_902 (by decide) (fun _ => k2) (fun h => absurd (by rw [heq hr]; exact lg_cmp_self _) h)
set_option maxHeartbeats 4000000 in
set_option maxRecDepth 100000 in
theorem bL_iceAnew {p : Program} {l : Launch} {e : Env} {s : State} {m : MethodId} {args : Array Value} {below : List Frame} {meth : Method} {c : Code} {Q : State → Prop} {X : zX} {A : Nat → Prop} (C : ZC p s m args meth c X A 7 cL_law RL wsL_law (some .boolean)) (hxw : xW s) (hxs : xS A s s.heap) {b0 L : Nat} {sc : Nat → Int32} (hX : va_X b0 L sc s s.heap) (hbl : b0 < s.heap.size) (hbA : ¬ A b0) (hL : L ≤ 2048) (h a b na nf : Nat → Nat) (o : Nat) (d : Nat → Nat) (gP gT gA gF g : zG) (fo : Nat → Int64) (i : Nat) (hi : i + 4 ≤ L) (cells slots : Nat) (hc : cells + 1 ≤ 1082) (hs : slots + 6 ≤ 16674) (gP1 gT1 gA1 gF1 g1 : zG) (fo1 : Nat → Int64) {fr5 lo5 fr6 lo6 : Nat} (rb : Int32) (hE : CI l yX5_iceAnew wsX5_iceAnew fr5 lo5 0 0 X (IW h a b na nf X gP gT gA gF) [.ref (h 0)] rb (IW h a b na nf X gP1 gT1 gA1 gF1)) (hR5 : fr5 + 1 ≤ 11 ∧ 8 + (2 + 11) + lo5 ≤ 390) (hM : CI l yX6_iceAnew wsX6_iceAnew fr6 lo6 0 0 X (MW d X g) (.ref (d 0) :: []) rb (MW d X g1)) (hR6 : fr6 + 1 ≤ 11 ∧ 8 + (1 + 11) + lo6 ≤ 390) (hfo : fo1 = fo) (k : Z p l e room_1 s m args below meth c X A 7 Q (cells + 1) (slots + 6) (KW h a b na nf o d X gP1 gT1 gA1 gF1 fo1 g1) [(0, .ref b0), (1, .ref (h 0)), (2, .ref (d 0)), (3, .ref o), (4, .int (nI i))] 1115 []) : Z p l e room_1 s m args below meth c X A 7 Q cells slots (KW h a b na nf o d X gP gT gA gF fo g) [(0, .ref b0), (1, .ref (h 0)), (2, .ref (d 0)), (3, .ref o), (4, .int (nI i))] 910 [] := by
  subst hfo
  refine z_wide (cells + 1) (slots + 6) (by omega) (by omega) ?_
  refine z_aln C dL_law_910 1 rfl ?_
  refine z_cVi (As := []) (rest := []) C hE gL_law_X5_iceAnew rfl ⟨rfl, by decide, by decide, (by decide : (parseMethodDescriptor yX5_iceAnew.desc).map (fun d => d.parameters.length) = some 0)⟩ hR5 ⟨hc, hs⟩ 0 5 rfl rfl [0, 1, 2, 3, 4, 5, 6, 7, 8, 9, 10, 11, 12, 13, 14, 15, 16, 17, 18, 19, 20, 21, 22, 23, 24, 25, 26, 27, 28, 29, 30, 31, 32, 33, 34, 35, 36] [37, 38, 39, 40, 41, 42, 43, 44, 45, 46, 47, 48] [12, 13, 14, 15, 16, 17, 18, 19, 20, 21, 22, 23, 24, 25, 26, 27, 28, 29, 30, 31, 32, 33, 34, 35, 36, 37, 38, 39, 40, 41, 42, 43, 44, 45, 46, 47, 48, 0, 1, 2, 3, 4, 5, 6, 7, 8, 9, 10, 11] rfl rfl (by decide) (by decide) (by decide) (by decide) (KW h a b na nf o d X gP1 gT1 gA1 gF1 fo1 g) rfl (Nat.le_of_ble_eq_true rfl) dL_law_911 rfl ?_
  refine z_aln C dL_law_914 2 rfl ?_
  refine z_cVi (As := []) (rest := [.int rb]) C hM gL_law_X6_iceAnew rfl ⟨rfl, by decide, by decide, (by decide : (parseMethodDescriptor yX6_iceAnew.desc).map (fun d => d.parameters.length) = some 0)⟩ hR6 ⟨hc, hs⟩ 0 6 rfl rfl [38, 39, 40, 41, 42, 43, 44, 45, 46, 47, 48] [0, 1, 2, 3, 4, 5, 6, 7, 8, 9, 10, 11, 12, 13, 14, 15, 16, 17, 18, 19, 20, 21, 22, 23, 24, 25, 26, 27, 28, 29, 30, 31, 32, 33, 34, 35, 36, 37] [0, 1, 2, 3, 4, 5, 6, 7, 8, 9, 10, 11, 12, 13, 14, 15, 16, 17, 18, 19, 20, 21, 22, 23, 24, 25, 26, 27, 28, 29, 30, 31, 32, 33, 34, 35, 36, 37, 38, 39, 40, 41, 42, 43, 44, 45, 46, 47, 48] rfl rfl (by decide) (by decide) (by decide) (by decide) (KW h a b na nf o d X gP1 gT1 gA1 gF1 fo1 g1) rfl (Nat.le_of_ble_eq_true rfl) dL_law_915 rfl ?_
  exact z_ic_eq C 1115 dL_law_918 (by decide) (fun _ => k) (fun h => absurd rfl h)
set_option maxHeartbeats 4000000 in
set_option maxRecDepth 100000 in
theorem bL_would {p : Program} {l : Launch} {e : Env} {s : State} {m : MethodId} {args : Array Value} {below : List Frame} {meth : Method} {c : Code} {Q : State → Prop} {X : zX} {A : Nat → Prop} (C : ZC p s m args meth c X A 7 cL_law RL wsL_law (some .boolean)) (hxw : xW s) (hxs : xS A s s.heap) {b0 L : Nat} {sc : Nat → Int32} (hX : va_X b0 L sc s s.heap) (hbl : b0 < s.heap.size) (hbA : ¬ A b0) (hL : L ≤ 2048) (h a b na nf : Nat → Nat) (o : Nat) (d : Nat → Nat) (gP gT gA gF g : zG) (fo : Nat → Int64) (i : Nat) (hi : i + 4 ≤ L) (cells slots : Nat) (hc : cells + 1 ≤ 1082) (hs : slots + 6 ≤ 16674) (gP1 gT1 gA1 gF1 g1 : zG) (fo1 : Nat → Int64) {fr6 lo6 : Nat} (r rb : Int32) (hE : CE l yL_would wsL_would 9 200 1 6 X (HW h a b na nf o X gP gT gA gF fo) [.ref (h 0), .int (sc (i + 1)), .int (sc (i + 2)), .int (sc (i + 3)), .ref o] r (HW h a b na nf o X gP1 gT1 gA1 gF1 fo1)) (hM : CI l yX6_would wsX6_would fr6 lo6 0 0 X (MW d X g) (.ref (d 0) :: [.int (sc (i + 1)), .int (sc (i + 2)), .int (sc (i + 3))]) rb (MW d X g1)) (hR6 : fr6 + 1 ≤ 11 ∧ 8 + (6 + 11) + lo6 ≤ 390) (h10 : g1 10 0 = r) (heq : r = 0 → fo1 0 = rb.toInt64) (k : Z p l e room_1 s m args below meth c X A 7 Q (cells + 1) (slots + 6) (KW h a b na nf o d X gP1 gT1 gA1 gF1 fo1 g1) [(0, .ref b0), (1, .ref (h 0)), (2, .ref (d 0)), (3, .ref o), (4, .int (nI i))] 1115 []) : Z p l e room_1 s m args below meth c X A 7 Q cells slots (KW h a b na nf o d X gP gT gA gF fo g) [(0, .ref b0), (1, .ref (h 0)), (2, .ref (d 0)), (3, .ref o), (4, .int (nI i))] 923 [] := by
  refine z_aln C dL_law_923 1 rfl ?_
  refine z_aln C dL_law_924 0 rfl ?_
  refine z_il C dL_law_925 4 rfl ?_
  refine z_ic C dL_law_927 1 (by decide) ?_
  refine z_iadd C dL_law_928 (nI (i + 1)) (nI_add i 1) ?_
  refine z_sld C hX hbl hbA (i + 1) dL_law_929 rfl (by omega) hL ?_
  refine z_aln C dL_law_930 0 rfl ?_
  refine z_il C dL_law_931 4 rfl ?_
  refine z_ic C dL_law_933 2 (by decide) ?_
  refine z_iadd C dL_law_934 (nI (i + 2)) (nI_add i 2) ?_
  refine z_sld C hX hbl hbA (i + 2) dL_law_935 rfl (by omega) hL ?_
  refine z_aln C dL_law_936 0 rfl ?_
  refine z_il C dL_law_937 4 rfl ?_
  refine z_ic C dL_law_939 3 (by decide) ?_
  refine z_iadd C dL_law_940 (nI (i + 3)) (nI_add i 3) ?_
  refine z_sld C hX hbl hbA (i + 3) dL_law_941 rfl (by omega) hL ?_
  refine z_aln C dL_law_942 3 rfl ?_
  refine z_cE (As := [.ref (h 0), .int (sc (i + 1)), .int (sc (i + 2)), .int (sc (i + 3)), .ref o]) (rest := []) C hxw hxs hE gL_law_L_would rfl ⟨by decide, by decide, (by decide : (parseMethodDescriptor yL_would.desc).map (fun d => d.parameters.length) = some 5)⟩ ⟨by decide, by decide⟩ ⟨hc, hs⟩ [0, 1, 2, 3, 4, 5, 6, 7, 8, 9, 10, 11, 12, 13, 14, 15, 16, 17, 18, 19, 20, 21, 22, 23, 24, 25, 26, 27, 28, 29, 30, 31, 32, 33, 34, 35, 36, 37] [38, 39, 40, 41, 42, 43, 44, 45, 46, 47, 48] [11, 12, 13, 14, 15, 16, 17, 18, 19, 20, 21, 22, 23, 24, 25, 26, 27, 28, 29, 30, 31, 32, 33, 34, 35, 36, 37, 38, 39, 40, 41, 42, 43, 44, 45, 46, 47, 48, 0, 1, 2, 3, 4, 5, 6, 7, 8, 9, 10] rfl rfl (by decide) (by decide) (by decide) (by decide) (KW h a b na nf o d X gP1 gT1 gA1 gF1 fo1 g) rfl (Nat.le_of_ble_eq_true rfl) dL_law_943 rfl ?_
  refine z_is C [(5, .int r), (0, .ref b0), (1, .ref (h 0)), (2, .ref (d 0)), (3, .ref o), (4, .int (nI i))] dL_law_946 (by decide) rfl ?_
  refine z_aln C dL_law_948 3 rfl ?_
  refine z_aln C dL_law_949 1 rfl ?_
  refine z_il C dL_law_950 5 rfl ?_
  refine z_ic C dL_law_952 1 (by decide) ?_
  refine z_iadd C dL_law_953 (nI (i + 1)) (nI_add i 1) ?_
  refine z_sld C hX hbl hbA (i + 1) dL_law_954 rfl (by omega) hL ?_
  refine z_aln C dL_law_955 1 rfl ?_
  refine z_il C dL_law_956 5 rfl ?_
  refine z_ic C dL_law_958 2 (by decide) ?_
  refine z_iadd C dL_law_959 (nI (i + 2)) (nI_add i 2) ?_
  refine z_sld C hX hbl hbA (i + 2) dL_law_960 rfl (by omega) hL ?_
  refine z_aln C dL_law_961 1 rfl ?_
  refine z_il C dL_law_962 5 rfl ?_
  refine z_ic C dL_law_964 3 (by decide) ?_
  refine z_iadd C dL_law_965 (nI (i + 3)) (nI_add i 3) ?_
  refine z_sld C hX hbl hbA (i + 3) dL_law_966 rfl (by omega) hL ?_
  refine z_cVi (As := [.int (sc (i + 1)), .int (sc (i + 2)), .int (sc (i + 3))]) (rest := []) C hM gL_law_X6_would rfl ⟨rfl, by decide, by decide, (by decide : (parseMethodDescriptor yX6_would.desc).map (fun d => d.parameters.length) = some 3)⟩ hR6 ⟨hc, hs⟩ 0 6 rfl rfl [38, 39, 40, 41, 42, 43, 44, 45, 46, 47, 48] [0, 1, 2, 3, 4, 5, 6, 7, 8, 9, 10, 11, 12, 13, 14, 15, 16, 17, 18, 19, 20, 21, 22, 23, 24, 25, 26, 27, 28, 29, 30, 31, 32, 33, 34, 35, 36, 37] [0, 1, 2, 3, 4, 5, 6, 7, 8, 9, 10, 11, 12, 13, 14, 15, 16, 17, 18, 19, 20, 21, 22, 23, 24, 25, 26, 27, 28, 29, 30, 31, 32, 33, 34, 35, 36, 37, 38, 39, 40, 41, 42, 43, 44, 45, 46, 47, 48] rfl rfl (by decide) (by decide) (by decide) (by decide) (KW h a b na nf o d X gP1 gT1 gA1 gF1 fo1 g1) rfl (Nat.le_of_ble_eq_true rfl) dL_law_967 rfl ?_
  refine z_is C [(6, .int rb), (5, .int r), (0, .ref b0), (1, .ref (h 0)), (2, .ref (d 0)), (3, .ref o), (4, .int (nI i))] dL_law_970 (by decide) rfl ?_
  refine z_aln C dL_law_972 4 rfl ?_
  refine z_cVi (As := []) (rest := []) C (mX6_thrown l X d g1) gL_law_X6_thrown rfl ⟨rfl, by decide, by decide, (by decide : (parseMethodDescriptor yX6_thrown.desc).map (fun d => d.parameters.length) = some 0)⟩ ⟨by decide, by decide⟩ ⟨hc, hs⟩ 0 6 rfl rfl [38, 39, 40, 41, 42, 43, 44, 45, 46, 47, 48] [0, 1, 2, 3, 4, 5, 6, 7, 8, 9, 10, 11, 12, 13, 14, 15, 16, 17, 18, 19, 20, 21, 22, 23, 24, 25, 26, 27, 28, 29, 30, 31, 32, 33, 34, 35, 36, 37] [0, 1, 2, 3, 4, 5, 6, 7, 8, 9, 10, 11, 12, 13, 14, 15, 16, 17, 18, 19, 20, 21, 22, 23, 24, 25, 26, 27, 28, 29, 30, 31, 32, 33, 34, 35, 36, 37, 38, 39, 40, 41, 42, 43, 44, 45, 46, 47, 48] rfl rfl (by decide) (by decide) (by decide) (by decide) (KW h a b na nf o d X gP1 gT1 gA1 gF1 fo1 g1) rfl (Nat.le_of_ble_eq_true rfl) dL_law_973 rfl ?_
  refine z_il C dL_law_976 1 rfl ?_
  refine z_ic_eq C 983 dL_law_978 (by decide) (fun _ => ?_) (fun h => absurd h10 h)
  have k2 : Z p l e room_1 s m args below meth c X A 7 Q (cells + 1) (slots + 6) (KW h a b na nf o d X gP1 gT1 gA1 gF1 fo1 g1) [(6, .int rb), (5, .int r), (0, .ref b0), (1, .ref (h 0)), (2, .ref (d 0)), (3, .ref o), (4, .int (nI i))] 1000 [] := by
    refine z_go C 1115 dL_law_1000 (by decide) ?_
    exact z_lv [2, 3, 4, 5, 6] [(0, .ref b0), (1, .ref (h 0)), (2, .ref (d 0)), (3, .ref o), (4, .int (nI i))] rfl k
  refine z_il C dL_law_983 1 rfl ?_
  refine z_if_ne C 1000 dL_law_985 (by decide) (fun _ => k2) (fun hr => ?_)
  refine z_aln C dL_law_988 5 rfl ?_
  refine z_ic C dL_law_989 0 (by decide) ?_
  refine z_lald C 37 0 dL_law_990 rfl (by decide) (by decide) (by decide) ?_
  refine z_il C dL_law_991 0 rfl ?_
  refine z_i2l C dL_law_993 rb.toInt64 rfl ?_
  refine z_lcmp C dL_law_994 ?_
  exact z_if_eq C 1000 dL_law_995 (by decide) (fun _ => k2) (fun h => absurd (by rw [heq hr]; exact lg_cmp_self _) h)
set_option maxHeartbeats 4000000 in
set_option maxRecDepth 100000 in
theorem bL_forecast {p : Program} {l : Launch} {e : Env} {s : State} {m : MethodId} {args : Array Value} {below : List Frame} {meth : Method} {c : Code} {Q : State → Prop} {X : zX} {A : Nat → Prop} (C : ZC p s m args meth c X A 7 cL_law RL wsL_law (some .boolean)) (hxw : xW s) (hxs : xS A s s.heap) {b0 L : Nat} {sc : Nat → Int32} (hX : va_X b0 L sc s s.heap) (hbl : b0 < s.heap.size) (hbA : ¬ A b0) (hL : L ≤ 2048) (h a b na nf : Nat → Nat) (o : Nat) (d : Nat → Nat) (gP gT gA gF g : zG) (fo : Nat → Int64) (i : Nat) (hi : i + 4 ≤ L) (cells slots : Nat) (hc : cells + 1 ≤ 1082) (hs : slots + 6 ≤ 16674) (gP1 gT1 gA1 gF1 g1 : zG) (fo1 : Nat → Int64) {fr6 lo6 : Nat} (r rb : Int32) (hE : CE l yL_forecast wsL_forecast 9 200 1 6 X (HW h a b na nf o X gP gT gA gF fo) [.ref (h 0), .int (sc (i + 1)), .ref o] r (HW h a b na nf o X gP1 gT1 gA1 gF1 fo1)) (hM : CI l yX6_forecast wsX6_forecast fr6 lo6 0 0 X (MW d X g) (.ref (d 0) :: [.int (sc (i + 1))]) rb (MW d X g1)) (hR6 : fr6 + 1 ≤ 11 ∧ 8 + (3 + 11) + lo6 ≤ 390) (h10 : g1 10 0 = r) (heq : r = 0 → fo1 0 = rb.toInt64) (k : Z p l e room_1 s m args below meth c X A 7 Q (cells + 1) (slots + 6) (KW h a b na nf o d X gP1 gT1 gA1 gF1 fo1 g1) [(0, .ref b0), (1, .ref (h 0)), (2, .ref (d 0)), (3, .ref o), (4, .int (nI i))] 1115 []) : Z p l e room_1 s m args below meth c X A 7 Q cells slots (KW h a b na nf o d X gP gT gA gF fo g) [(0, .ref b0), (1, .ref (h 0)), (2, .ref (d 0)), (3, .ref o), (4, .int (nI i))] 1003 [] := by
  refine z_aln C dL_law_1003 1 rfl ?_
  refine z_aln C dL_law_1004 0 rfl ?_
  refine z_il C dL_law_1005 4 rfl ?_
  refine z_ic C dL_law_1007 1 (by decide) ?_
  refine z_iadd C dL_law_1008 (nI (i + 1)) (nI_add i 1) ?_
  refine z_sld C hX hbl hbA (i + 1) dL_law_1009 rfl (by omega) hL ?_
  refine z_aln C dL_law_1010 3 rfl ?_
  refine z_cE (As := [.ref (h 0), .int (sc (i + 1)), .ref o]) (rest := []) C hxw hxs hE gL_law_L_forecast rfl ⟨by decide, by decide, (by decide : (parseMethodDescriptor yL_forecast.desc).map (fun d => d.parameters.length) = some 3)⟩ ⟨by decide, by decide⟩ ⟨hc, hs⟩ [0, 1, 2, 3, 4, 5, 6, 7, 8, 9, 10, 11, 12, 13, 14, 15, 16, 17, 18, 19, 20, 21, 22, 23, 24, 25, 26, 27, 28, 29, 30, 31, 32, 33, 34, 35, 36, 37] [38, 39, 40, 41, 42, 43, 44, 45, 46, 47, 48] [11, 12, 13, 14, 15, 16, 17, 18, 19, 20, 21, 22, 23, 24, 25, 26, 27, 28, 29, 30, 31, 32, 33, 34, 35, 36, 37, 38, 39, 40, 41, 42, 43, 44, 45, 46, 47, 48, 0, 1, 2, 3, 4, 5, 6, 7, 8, 9, 10] rfl rfl (by decide) (by decide) (by decide) (by decide) (KW h a b na nf o d X gP1 gT1 gA1 gF1 fo1 g) rfl (Nat.le_of_ble_eq_true rfl) dL_law_1011 rfl ?_
  refine z_is C [(5, .int r), (0, .ref b0), (1, .ref (h 0)), (2, .ref (d 0)), (3, .ref o), (4, .int (nI i))] dL_law_1014 (by decide) rfl ?_
  refine z_aln C dL_law_1016 3 rfl ?_
  refine z_aln C dL_law_1017 1 rfl ?_
  refine z_il C dL_law_1018 5 rfl ?_
  refine z_ic C dL_law_1020 1 (by decide) ?_
  refine z_iadd C dL_law_1021 (nI (i + 1)) (nI_add i 1) ?_
  refine z_sld C hX hbl hbA (i + 1) dL_law_1022 rfl (by omega) hL ?_
  refine z_cVi (As := [.int (sc (i + 1))]) (rest := []) C hM gL_law_X6_forecast rfl ⟨rfl, by decide, by decide, (by decide : (parseMethodDescriptor yX6_forecast.desc).map (fun d => d.parameters.length) = some 1)⟩ hR6 ⟨hc, hs⟩ 0 6 rfl rfl [38, 39, 40, 41, 42, 43, 44, 45, 46, 47, 48] [0, 1, 2, 3, 4, 5, 6, 7, 8, 9, 10, 11, 12, 13, 14, 15, 16, 17, 18, 19, 20, 21, 22, 23, 24, 25, 26, 27, 28, 29, 30, 31, 32, 33, 34, 35, 36, 37] [0, 1, 2, 3, 4, 5, 6, 7, 8, 9, 10, 11, 12, 13, 14, 15, 16, 17, 18, 19, 20, 21, 22, 23, 24, 25, 26, 27, 28, 29, 30, 31, 32, 33, 34, 35, 36, 37, 38, 39, 40, 41, 42, 43, 44, 45, 46, 47, 48] rfl rfl (by decide) (by decide) (by decide) (by decide) (KW h a b na nf o d X gP1 gT1 gA1 gF1 fo1 g1) rfl (Nat.le_of_ble_eq_true rfl) dL_law_1023 rfl ?_
  refine z_is C [(6, .int rb), (5, .int r), (0, .ref b0), (1, .ref (h 0)), (2, .ref (d 0)), (3, .ref o), (4, .int (nI i))] dL_law_1026 (by decide) rfl ?_
  refine z_aln C dL_law_1028 4 rfl ?_
  refine z_cVi (As := []) (rest := []) C (mX6_thrown l X d g1) gL_law_X6_thrown rfl ⟨rfl, by decide, by decide, (by decide : (parseMethodDescriptor yX6_thrown.desc).map (fun d => d.parameters.length) = some 0)⟩ ⟨by decide, by decide⟩ ⟨hc, hs⟩ 0 6 rfl rfl [38, 39, 40, 41, 42, 43, 44, 45, 46, 47, 48] [0, 1, 2, 3, 4, 5, 6, 7, 8, 9, 10, 11, 12, 13, 14, 15, 16, 17, 18, 19, 20, 21, 22, 23, 24, 25, 26, 27, 28, 29, 30, 31, 32, 33, 34, 35, 36, 37] [0, 1, 2, 3, 4, 5, 6, 7, 8, 9, 10, 11, 12, 13, 14, 15, 16, 17, 18, 19, 20, 21, 22, 23, 24, 25, 26, 27, 28, 29, 30, 31, 32, 33, 34, 35, 36, 37, 38, 39, 40, 41, 42, 43, 44, 45, 46, 47, 48] rfl rfl (by decide) (by decide) (by decide) (by decide) (KW h a b na nf o d X gP1 gT1 gA1 gF1 fo1 g1) rfl (Nat.le_of_ble_eq_true rfl) dL_law_1029 rfl ?_
  refine z_il C dL_law_1032 1 rfl ?_
  refine z_ic_eq C 1039 dL_law_1034 (by decide) (fun _ => ?_) (fun h => absurd h10 h)
  have k2 : Z p l e room_1 s m args below meth c X A 7 Q (cells + 1) (slots + 6) (KW h a b na nf o d X gP1 gT1 gA1 gF1 fo1 g1) [(6, .int rb), (5, .int r), (0, .ref b0), (1, .ref (h 0)), (2, .ref (d 0)), (3, .ref o), (4, .int (nI i))] 1056 [] := by
    refine z_go C 1115 dL_law_1056 (by decide) ?_
    exact z_lv [2, 3, 4, 5, 6] [(0, .ref b0), (1, .ref (h 0)), (2, .ref (d 0)), (3, .ref o), (4, .int (nI i))] rfl k
  refine z_il C dL_law_1039 1 rfl ?_
  refine z_if_ne C 1056 dL_law_1041 (by decide) (fun _ => k2) (fun hr => ?_)
  refine z_aln C dL_law_1044 5 rfl ?_
  refine z_ic C dL_law_1045 0 (by decide) ?_
  refine z_lald C 37 0 dL_law_1046 rfl (by decide) (by decide) (by decide) ?_
  refine z_il C dL_law_1047 0 rfl ?_
  refine z_i2l C dL_law_1049 rb.toInt64 rfl ?_
  refine z_lcmp C dL_law_1050 ?_
  exact z_if_eq C 1056 dL_law_1051 (by decide) (fun _ => k2) (fun h => absurd (by rw [heq hr]; exact lg_cmp_self _) h)
set_option maxHeartbeats 4000000 in
set_option maxRecDepth 100000 in
theorem bL_miss {p : Program} {l : Launch} {e : Env} {s : State} {m : MethodId} {args : Array Value} {below : List Frame} {meth : Method} {c : Code} {Q : State → Prop} {X : zX} {A : Nat → Prop} (C : ZC p s m args meth c X A 7 cL_law RL wsL_law (some .boolean)) (hxw : xW s) (hxs : xS A s s.heap) {b0 L : Nat} {sc : Nat → Int32} (hX : va_X b0 L sc s s.heap) (hbl : b0 < s.heap.size) (hbA : ¬ A b0) (hL : L ≤ 2048) (h a b na nf : Nat → Nat) (o : Nat) (d : Nat → Nat) (gP gT gA gF g : zG) (fo : Nat → Int64) (i : Nat) (hi : i + 4 ≤ L) (cells slots : Nat) (hc : cells + 1 ≤ 1082) (hs : slots + 6 ≤ 16674) (gP1 gT1 gA1 gF1 g1 : zG) (fo1 : Nat → Int64) {fr6 lo6 : Nat} (r rb : Int32) (hE : CE l yL_miss wsL_miss 9 200 1 6 X (HW h a b na nf o X gP gT gA gF fo) [.ref (h 0), .int (sc (i + 1)), .ref o] r (HW h a b na nf o X gP1 gT1 gA1 gF1 fo1)) (hM : CI l yX6_miss wsX6_miss fr6 lo6 0 0 X (MW d X g) (.ref (d 0) :: [.int (sc (i + 1))]) rb (MW d X g1)) (hR6 : fr6 + 1 ≤ 11 ∧ 8 + (2 + 11) + lo6 ≤ 390) (h10 : g1 10 0 = r) (heq : r = 0 → fo1 0 = rb.toInt64) (k : Z p l e room_1 s m args below meth c X A 7 Q (cells + 1) (slots + 6) (KW h a b na nf o d X gP1 gT1 gA1 gF1 fo1 g1) [(0, .ref b0), (1, .ref (h 0)), (2, .ref (d 0)), (3, .ref o), (4, .int (nI i))] 1115 []) : Z p l e room_1 s m args below meth c X A 7 Q cells slots (KW h a b na nf o d X gP gT gA gF fo g) [(0, .ref b0), (1, .ref (h 0)), (2, .ref (d 0)), (3, .ref o), (4, .int (nI i))] 1059 [] := by
  refine z_aln C dL_law_1059 1 rfl ?_
  refine z_aln C dL_law_1060 0 rfl ?_
  refine z_il C dL_law_1061 4 rfl ?_
  refine z_ic C dL_law_1063 1 (by decide) ?_
  refine z_iadd C dL_law_1064 (nI (i + 1)) (nI_add i 1) ?_
  refine z_sld C hX hbl hbA (i + 1) dL_law_1065 rfl (by omega) hL ?_
  refine z_aln C dL_law_1066 3 rfl ?_
  refine z_cE (As := [.ref (h 0), .int (sc (i + 1)), .ref o]) (rest := []) C hxw hxs hE gL_law_L_miss rfl ⟨by decide, by decide, (by decide : (parseMethodDescriptor yL_miss.desc).map (fun d => d.parameters.length) = some 3)⟩ ⟨by decide, by decide⟩ ⟨hc, hs⟩ [0, 1, 2, 3, 4, 5, 6, 7, 8, 9, 10, 11, 12, 13, 14, 15, 16, 17, 18, 19, 20, 21, 22, 23, 24, 25, 26, 27, 28, 29, 30, 31, 32, 33, 34, 35, 36, 37] [38, 39, 40, 41, 42, 43, 44, 45, 46, 47, 48] [11, 12, 13, 14, 15, 16, 17, 18, 19, 20, 21, 22, 23, 24, 25, 26, 27, 28, 29, 30, 31, 32, 33, 34, 35, 36, 37, 38, 39, 40, 41, 42, 43, 44, 45, 46, 47, 48, 0, 1, 2, 3, 4, 5, 6, 7, 8, 9, 10] rfl rfl (by decide) (by decide) (by decide) (by decide) (KW h a b na nf o d X gP1 gT1 gA1 gF1 fo1 g) rfl (Nat.le_of_ble_eq_true rfl) dL_law_1067 rfl ?_
  refine z_is C [(5, .int r), (0, .ref b0), (1, .ref (h 0)), (2, .ref (d 0)), (3, .ref o), (4, .int (nI i))] dL_law_1070 (by decide) rfl ?_
  refine z_aln C dL_law_1072 3 rfl ?_
  refine z_aln C dL_law_1073 1 rfl ?_
  refine z_il C dL_law_1074 5 rfl ?_
  refine z_ic C dL_law_1076 1 (by decide) ?_
  refine z_iadd C dL_law_1077 (nI (i + 1)) (nI_add i 1) ?_
  refine z_sld C hX hbl hbA (i + 1) dL_law_1078 rfl (by omega) hL ?_
  refine z_cVi (As := [.int (sc (i + 1))]) (rest := []) C hM gL_law_X6_miss rfl ⟨rfl, by decide, by decide, (by decide : (parseMethodDescriptor yX6_miss.desc).map (fun d => d.parameters.length) = some 1)⟩ hR6 ⟨hc, hs⟩ 0 6 rfl rfl [38, 39, 40, 41, 42, 43, 44, 45, 46, 47, 48] [0, 1, 2, 3, 4, 5, 6, 7, 8, 9, 10, 11, 12, 13, 14, 15, 16, 17, 18, 19, 20, 21, 22, 23, 24, 25, 26, 27, 28, 29, 30, 31, 32, 33, 34, 35, 36, 37] [0, 1, 2, 3, 4, 5, 6, 7, 8, 9, 10, 11, 12, 13, 14, 15, 16, 17, 18, 19, 20, 21, 22, 23, 24, 25, 26, 27, 28, 29, 30, 31, 32, 33, 34, 35, 36, 37, 38, 39, 40, 41, 42, 43, 44, 45, 46, 47, 48] rfl rfl (by decide) (by decide) (by decide) (by decide) (KW h a b na nf o d X gP1 gT1 gA1 gF1 fo1 g1) rfl (Nat.le_of_ble_eq_true rfl) dL_law_1079 rfl ?_
  refine z_is C [(6, .int rb), (5, .int r), (0, .ref b0), (1, .ref (h 0)), (2, .ref (d 0)), (3, .ref o), (4, .int (nI i))] dL_law_1082 (by decide) rfl ?_
  refine z_aln C dL_law_1084 4 rfl ?_
  refine z_cVi (As := []) (rest := []) C (mX6_thrown l X d g1) gL_law_X6_thrown rfl ⟨rfl, by decide, by decide, (by decide : (parseMethodDescriptor yX6_thrown.desc).map (fun d => d.parameters.length) = some 0)⟩ ⟨by decide, by decide⟩ ⟨hc, hs⟩ 0 6 rfl rfl [38, 39, 40, 41, 42, 43, 44, 45, 46, 47, 48] [0, 1, 2, 3, 4, 5, 6, 7, 8, 9, 10, 11, 12, 13, 14, 15, 16, 17, 18, 19, 20, 21, 22, 23, 24, 25, 26, 27, 28, 29, 30, 31, 32, 33, 34, 35, 36, 37] [0, 1, 2, 3, 4, 5, 6, 7, 8, 9, 10, 11, 12, 13, 14, 15, 16, 17, 18, 19, 20, 21, 22, 23, 24, 25, 26, 27, 28, 29, 30, 31, 32, 33, 34, 35, 36, 37, 38, 39, 40, 41, 42, 43, 44, 45, 46, 47, 48] rfl rfl (by decide) (by decide) (by decide) (by decide) (KW h a b na nf o d X gP1 gT1 gA1 gF1 fo1 g1) rfl (Nat.le_of_ble_eq_true rfl) dL_law_1085 rfl ?_
  refine z_il C dL_law_1088 1 rfl ?_
  refine z_ic_eq C 1095 dL_law_1090 (by decide) (fun _ => ?_) (fun h => absurd h10 h)
  have k2 : Z p l e room_1 s m args below meth c X A 7 Q (cells + 1) (slots + 6) (KW h a b na nf o d X gP1 gT1 gA1 gF1 fo1 g1) [(6, .int rb), (5, .int r), (0, .ref b0), (1, .ref (h 0)), (2, .ref (d 0)), (3, .ref o), (4, .int (nI i))] 1112 [] := by
    refine z_go C 1115 dL_law_1112 (by decide) ?_
    exact z_lv [2, 3, 4, 5, 6] [(0, .ref b0), (1, .ref (h 0)), (2, .ref (d 0)), (3, .ref o), (4, .int (nI i))] rfl k
  refine z_il C dL_law_1095 1 rfl ?_
  refine z_if_ne C 1112 dL_law_1097 (by decide) (fun _ => k2) (fun hr => ?_)
  refine z_aln C dL_law_1100 5 rfl ?_
  refine z_ic C dL_law_1101 0 (by decide) ?_
  refine z_lald C 37 0 dL_law_1102 rfl (by decide) (by decide) (by decide) ?_
  refine z_il C dL_law_1103 0 rfl ?_
  refine z_i2l C dL_law_1105 rb.toInt64 rfl ?_
  refine z_lcmp C dL_law_1106 ?_
  exact z_if_eq C 1112 dL_law_1107 (by decide) (fun _ => k2) (fun h => absurd (by rw [heq hr]; exact lg_cmp_self _) h)
