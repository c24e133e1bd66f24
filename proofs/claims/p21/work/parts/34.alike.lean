set_option maxHeartbeats 4000000 in
set_option maxRecDepth 100000 in
theorem m_alike (l : Launch) (X : zX) (h a b na nf ho ao bo no mo : Nat → Nat) (gP gT gA gF pT pF : zG) (yr z : Nat) (hyr : gP 10 0 = nI yr) (hy : yr ≤ 60) (hz : z < 2 ^ 30) (hfl : ∃ fl, fl ≤ 720 ∧ gA 6 0 = nI fl) : CE l yL_areAlike wsL_areAlike 10 230 0 0 X (QW h a b na nf ho ao bo no mo X gP gT gA gF gP pT gA pF) [.ref (h 0), .ref (ho 0), .int (nI yr), .int (nI z)] 1 (QW h a b na nf ho ao bo no mo X gP gT gA gF gP pT gA pF) := by
  refine cp_intro (cc := cL_areAlike) (ret := some .boolean) (maxL := 7) (by decide +kernel) rfl (Nat.le_of_ble_eq_true rfl) ?_
  intro p e s m args below meth c A Q C hxw hxs hQ
  obtain ⟨fl, hf7, hf0⟩ := hfl
  have R326 : Z p l e { frames := 10, cells := 0, slots := 0, locals := 230 } s m args below meth c X A 7 Q 0 0 (QW h a b na nf ho ao bo no mo X gP gT gA gF gP pT gA pF) [(0, .ref (h 0)), (1, .ref (ho 0)), (2, .int (nI yr)), (3, .int (nI z)), (4, .int 1)] 326 [] := by
    refine z_il C dL_areAlike_326 4 rfl ?_
    refine z_if_eqN C 1 372 dL_areAlike_328 (by decide) rfl (by omega) (fun c1 => by omega) (fun c1 => ?_)
    refine z_aln C dL_areAlike_331 0 rfl ?_
    refine z_bp C dL_areAlike_332 7 (by decide) ?_
    refine z_iln C dL_areAlike_334 3 rfl ?_
    refine z_bp C dL_areAlike_335 12 (by decide) ?_
    refine z_irem C dL_areAlike_337 (by decide) (nI (z % 12)) (pk_rem (a := z) (d := 12) (by omega) (by omega) (by omega)) ?_
    refine z_iln C dL_areAlike_338 3 rfl ?_
    refine z_bp C dL_areAlike_339 12 (by decide) ?_
    refine z_idiv C dL_areAlike_341 (by decide) (nI (z / 12)) (pk_div (a := z) (d := 12) (by omega) (by omega) (by omega)) ?_
    refine z_bp C dL_areAlike_342 12 (by decide) ?_
    refine z_irem C dL_areAlike_344 (by decide) (nI ((z / 12) % 12)) (pk_rem (a := (z / 12)) (d := 12) (by omega) (by omega) (by omega)) ?_
    refine q_o (As := [.ref (h 0), .int 7, .int (nI (z % 12)), .int (nI ((z / 12) % 12))]) (rest := []) C hxw hxs (hD_common l X h a b na nf gP gT gA gF (nI (z % 12)) (nI ((z / 12) % 12)) (mX5_common l X h a b na nf gP gT gA gF (z % 12) (z / 12 % 12) (by omega) (by omega)) ⟨by decide, by decide⟩) gL_areAlike_L_does rfl ⟨by decide, by decide, (by decide : (parseMethodDescriptor yL_does.desc).map (fun d => d.parameters.length) = some 4)⟩ ⟨by decide, by decide⟩ ⟨by decide, by decide⟩ (Nat.le_of_ble_eq_true rfl) dL_areAlike_345 rfl ?_
    refine z_aln C dL_areAlike_348 1 rfl ?_
    refine z_bp C dL_areAlike_349 7 (by decide) ?_
    refine z_iln C dL_areAlike_351 3 rfl ?_
    refine z_bp C dL_areAlike_352 12 (by decide) ?_
    refine z_irem C dL_areAlike_354 (by decide) (nI (z % 12)) (pk_rem (a := z) (d := 12) (by omega) (by omega) (by omega)) ?_
    refine z_iln C dL_areAlike_355 3 rfl ?_
    refine z_bp C dL_areAlike_356 12 (by decide) ?_
    refine z_idiv C dL_areAlike_358 (by decide) (nI (z / 12)) (pk_div (a := z) (d := 12) (by omega) (by omega) (by omega)) ?_
    refine z_bp C dL_areAlike_359 12 (by decide) ?_
    refine z_irem C dL_areAlike_361 (by decide) (nI ((z / 12) % 12)) (pk_rem (a := (z / 12)) (d := 12) (by omega) (by omega) (by omega)) ?_
    refine q_p (As := [.ref (ho 0), .int 7, .int (nI (z % 12)), .int (nI ((z / 12) % 12))]) (rest := [.int (fX5_common gP gT gA gF (z % 12) (z / 12 % 12))]) C hxw hxs (hD_common l X ho ao bo no mo gP pT gA pF (nI (z % 12)) (nI ((z / 12) % 12)) (mX5_common l X ho ao bo no mo gP pT gA pF (z % 12) (z / 12 % 12) (by omega) (by omega)) ⟨by decide, by decide⟩) gL_areAlike_L_does rfl ⟨by decide, by decide, (by decide : (parseMethodDescriptor yL_does.desc).map (fun d => d.parameters.length) = some 4)⟩ ⟨by decide, by decide⟩ ⟨by decide, by decide⟩ (Nat.le_of_ble_eq_true rfl) dL_areAlike_362 rfl ?_
    refine z_ic_ne C 372 dL_areAlike_365 (by decide) (fun c2 => (c2 rfl).elim) (fun c2 => ?_)
    refine z_ic C dL_areAlike_368 1 (by decide) ?_
    refine z_go C 373 dL_areAlike_369 (by decide) ?_
    exact z_zret C hQ dL_areAlike_373 (Or.inr rfl) rfl rfl (by decide) (by decide)
  have R229 : ∀ n : Nat, n ≤ fl → Z p l e { frames := 10, cells := 0, slots := 0, locals := 230 } s m args below meth c X A 7 Q 0 0 (QW h a b na nf ho ao bo no mo X gP gT gA gF gP pT gA pF) [(0, .ref (h 0)), (1, .ref (ho 0)), (2, .int (nI yr)), (3, .int (nI z)), (4, .int 1), (5, .int (nI n - 1))] 229 [] := by
    intro n
    induction n with
    | zero =>
      intro _
      show Z p l e { frames := 10, cells := 0, slots := 0, locals := 230 } s m args below meth c X A 7 Q 0 0 (QW h a b na nf ho ao bo no mo X gP gT gA gF gP pT gA pF) [(0, .ref (h 0)), (1, .ref (ho 0)), (2, .int (nI yr)), (3, .int (nI z)), (4, .int 1), (5, .int (-1))] 229 []
      refine z_il C dL_areAlike_229 5 rfl ?_
      refine z_if_lt C 326 dL_areAlike_231 (by decide) (fun c3 => ?_) (fun c3 => absurd (by decide) c3)
      refine z_lv [0, 1, 2, 3, 4] [(0, .ref (h 0)), (1, .ref (ho 0)), (2, .int (nI yr)), (3, .int (nI z)), (4, .int 1)] rfl ?_
      exact R326
    | succ n ih =>
      intro hn
      rw [nI_pred]
      refine z_il C dL_areAlike_229 5 rfl ?_
      refine z_if_lt C 326 dL_areAlike_231 (by decide) (fun c4 => absurd c4 (nI_pos (by omega))) (fun c4 => ?_)
      refine z_il C dL_areAlike_234 5 rfl ?_
      refine z_aln C dL_areAlike_236 0 rfl ?_
      refine q_oV (As := []) (rest := [.int (nI n)]) C (mX5_floods l X h a b na nf gP gT gA gF) gL_areAlike_X5_floods rfl ⟨rfl, by decide, by decide, (by decide : (parseMethodDescriptor yX5_floods.desc).map (fun d => d.parameters.length) = some 0)⟩ ⟨by decide, by decide⟩ ⟨by decide, by decide⟩ rfl (Nat.le_of_ble_eq_true rfl) dL_areAlike_237 rfl ?_
      refine z_ic C dL_areAlike_240 4 (by decide) ?_
      refine z_isub C dL_areAlike_241 ((fX5_floods gP gT gA gF) - 4) rfl ?_
      refine z_ic_le C 326 dL_areAlike_242 (by decide) (fun c5 => ?_) (fun c5 => ?_)
      · skip
        refine z_lv [0, 1, 2, 3, 4] [(0, .ref (h 0)), (1, .ref (ho 0)), (2, .int (nI yr)), (3, .int (nI z)), (4, .int 1)] rfl ?_
        exact R326
      have hlt : nI n < gA 6 0 := by rw [hf0]; exact nI_lt (by omega) (by omega)
      refine z_il C dL_areAlike_245 4 rfl ?_
      refine z_if_eqN C 1 326 dL_areAlike_247 (by decide) rfl (by omega) (fun c6 => by omega) (fun c6 => ?_)
      refine z_aln C dL_areAlike_250 0 rfl ?_
      refine z_bp C dL_areAlike_251 8 (by decide) ?_
      refine z_il C dL_areAlike_253 5 rfl ?_
      refine z_ic C dL_areAlike_255 0 (by decide) ?_
      refine q_o (As := [.ref (h 0), .int 8, .int (nI n), .int 0]) (rest := []) C hxw hxs (hD_flood l X h a b na nf gP gT gA gF (nI n) 0 (mX5_flood l X h a b na nf gP gT gA gF n 0 (by omega) hlt (by decide)) ⟨by decide, by decide⟩) gL_areAlike_L_does rfl ⟨by decide, by decide, (by decide : (parseMethodDescriptor yL_does.desc).map (fun d => d.parameters.length) = some 4)⟩ ⟨by decide, by decide⟩ ⟨by decide, by decide⟩ (Nat.le_of_ble_eq_true rfl) dL_areAlike_256 rfl ?_
      refine z_aln C dL_areAlike_259 1 rfl ?_
      refine z_bp C dL_areAlike_260 8 (by decide) ?_
      refine z_il C dL_areAlike_262 5 rfl ?_
      refine z_ic C dL_areAlike_264 0 (by decide) ?_
      refine q_p (As := [.ref (ho 0), .int 8, .int (nI n), .int 0]) (rest := [.int (fX5_flood gP gT gA gF n 0)]) C hxw hxs (hD_flood l X ho ao bo no mo gP pT gA pF (nI n) 0 (mX5_flood l X ho ao bo no mo gP pT gA pF n 0 (by omega) hlt (by decide)) ⟨by decide, by decide⟩) gL_areAlike_L_does rfl ⟨by decide, by decide, (by decide : (parseMethodDescriptor yL_does.desc).map (fun d => d.parameters.length) = some 4)⟩ ⟨by decide, by decide⟩ ⟨by decide, by decide⟩ (Nat.le_of_ble_eq_true rfl) dL_areAlike_265 rfl ?_
      refine z_ic_ne C 317 dL_areAlike_268 (by decide) (fun c7 => (c7 rfl).elim) (fun c7 => ?_)
      refine z_aln C dL_areAlike_271 0 rfl ?_
      refine z_bp C dL_areAlike_272 8 (by decide) ?_
      refine z_il C dL_areAlike_274 5 rfl ?_
      refine z_ic C dL_areAlike_276 1 (by decide) ?_
      refine q_o (As := [.ref (h 0), .int 8, .int (nI n), .int 1]) (rest := []) C hxw hxs (hD_flood l X h a b na nf gP gT gA gF (nI n) 1 (mX5_flood l X h a b na nf gP gT gA gF n 1 (by omega) hlt (by decide)) ⟨by decide, by decide⟩) gL_areAlike_L_does rfl ⟨by decide, by decide, (by decide : (parseMethodDescriptor yL_does.desc).map (fun d => d.parameters.length) = some 4)⟩ ⟨by decide, by decide⟩ ⟨by decide, by decide⟩ (Nat.le_of_ble_eq_true rfl) dL_areAlike_277 rfl ?_
      refine z_aln C dL_areAlike_280 1 rfl ?_
      refine z_bp C dL_areAlike_281 8 (by decide) ?_
      refine z_il C dL_areAlike_283 5 rfl ?_
      refine z_ic C dL_areAlike_285 1 (by decide) ?_
      refine q_p (As := [.ref (ho 0), .int 8, .int (nI n), .int 1]) (rest := [.int (fX5_flood gP gT gA gF n 1)]) C hxw hxs (hD_flood l X ho ao bo no mo gP pT gA pF (nI n) 1 (mX5_flood l X ho ao bo no mo gP pT gA pF n 1 (by omega) hlt (by decide)) ⟨by decide, by decide⟩) gL_areAlike_L_does rfl ⟨by decide, by decide, (by decide : (parseMethodDescriptor yL_does.desc).map (fun d => d.parameters.length) = some 4)⟩ ⟨by decide, by decide⟩ ⟨by decide, by decide⟩ (Nat.le_of_ble_eq_true rfl) dL_areAlike_286 rfl ?_
      refine z_ic_ne C 317 dL_areAlike_289 (by decide) (fun c8 => (c8 rfl).elim) (fun c8 => ?_)
      refine z_aln C dL_areAlike_292 0 rfl ?_
      refine z_bp C dL_areAlike_293 8 (by decide) ?_
      refine z_il C dL_areAlike_295 5 rfl ?_
      refine z_ic C dL_areAlike_297 2 (by decide) ?_
      refine q_o (As := [.ref (h 0), .int 8, .int (nI n), .int 2]) (rest := []) C hxw hxs (hD_flood l X h a b na nf gP gT gA gF (nI n) 2 (mX5_flood l X h a b na nf gP gT gA gF n 2 (by omega) hlt (by decide)) ⟨by decide, by decide⟩) gL_areAlike_L_does rfl ⟨by decide, by decide, (by decide : (parseMethodDescriptor yL_does.desc).map (fun d => d.parameters.length) = some 4)⟩ ⟨by decide, by decide⟩ ⟨by decide, by decide⟩ (Nat.le_of_ble_eq_true rfl) dL_areAlike_298 rfl ?_
      refine z_aln C dL_areAlike_301 1 rfl ?_
      refine z_bp C dL_areAlike_302 8 (by decide) ?_
      refine z_il C dL_areAlike_304 5 rfl ?_
      refine z_ic C dL_areAlike_306 2 (by decide) ?_
      refine q_p (As := [.ref (ho 0), .int 8, .int (nI n), .int 2]) (rest := [.int (fX5_flood gP gT gA gF n 2)]) C hxw hxs (hD_flood l X ho ao bo no mo gP pT gA pF (nI n) 2 (mX5_flood l X ho ao bo no mo gP pT gA pF n 2 (by omega) hlt (by decide)) ⟨by decide, by decide⟩) gL_areAlike_L_does rfl ⟨by decide, by decide, (by decide : (parseMethodDescriptor yL_does.desc).map (fun d => d.parameters.length) = some 4)⟩ ⟨by decide, by decide⟩ ⟨by decide, by decide⟩ (Nat.le_of_ble_eq_true rfl) dL_areAlike_307 rfl ?_
      refine z_ic_ne C 317 dL_areAlike_310 (by decide) (fun c9 => (c9 rfl).elim) (fun c9 => ?_)
      refine z_ic C dL_areAlike_313 1 (by decide) ?_
      refine z_go C 318 dL_areAlike_314 (by decide) ?_
      refine z_is C [(4, .int 1), (0, .ref (h 0)), (1, .ref (ho 0)), (2, .int (nI yr)), (3, .int (nI z)), (5, .int (nI n))] dL_areAlike_318 (by decide) rfl ?_
      refine z_inc C 5 (nI n - 1) [(5, .int (nI n - 1)), (4, .int 1), (0, .ref (h 0)), (1, .ref (ho 0)), (2, .int (nI yr)), (3, .int (nI z))] dL_areAlike_320 rfl (zn_dn n) (by decide) rfl ?_
      refine z_go C 229 dL_areAlike_323 (by decide) ?_
      refine z_lv [2, 3, 4, 5, 1, 0] [(0, .ref (h 0)), (1, .ref (ho 0)), (2, .int (nI yr)), (3, .int (nI z)), (4, .int 1), (5, .int (nI n - 1))] rfl ?_
      exact ih (by omega)
  have R221 : Z p l e { frames := 10, cells := 0, slots := 0, locals := 230 } s m args below meth c X A 7 Q 0 0 (QW h a b na nf ho ao bo no mo X gP gT gA gF gP pT gA pF) [(0, .ref (h 0)), (1, .ref (ho 0)), (2, .int (nI yr)), (3, .int (nI z)), (4, .int 1)] 221 [] := by
    refine z_aln C dL_areAlike_221 0 rfl ?_
    refine q_oV (As := []) (rest := []) C (mX5_floods l X h a b na nf gP gT gA gF) gL_areAlike_X5_floods rfl ⟨rfl, by decide, by decide, (by decide : (parseMethodDescriptor yX5_floods.desc).map (fun d => d.parameters.length) = some 0)⟩ ⟨by decide, by decide⟩ ⟨by decide, by decide⟩ rfl (Nat.le_of_ble_eq_true rfl) dL_areAlike_222 rfl ?_
    refine z_nm (show nI fl = (fX5_floods gP gT gA gF) from hf0.symm) ?_
    refine z_ic C dL_areAlike_225 1 (by decide) ?_
    refine z_isub C dL_areAlike_226 ((nI fl) - 1) rfl ?_
    refine z_is C [(5, .int ((nI fl) - 1)), (0, .ref (h 0)), (1, .ref (ho 0)), (2, .int (nI yr)), (3, .int (nI z)), (4, .int 1)] dL_areAlike_227 (by decide) rfl ?_
    refine z_lv [1, 2, 3, 4, 5, 0] [(0, .ref (h 0)), (1, .ref (ho 0)), (2, .int (nI yr)), (3, .int (nI z)), (4, .int 1), (5, .int ((nI fl) - 1))] rfl ?_
    exact R229 fl (Nat.le_refl _)
  have R151 : ∀ n y : Nat, y + n = yr + 1 → Z p l e { frames := 10, cells := 0, slots := 0, locals := 230 } s m args below meth c X A 7 Q 0 0 (QW h a b na nf ho ao bo no mo X gP gT gA gF gP pT gA pF) [(0, .ref (h 0)), (1, .ref (ho 0)), (2, .int (nI yr)), (3, .int (nI z)), (4, .int 1), (5, .int (nI y))] 151 [] := by
    intro n
    induction n with
    | zero =>
      intro y hn
      refine z_il C dL_areAlike_151 5 rfl ?_
      refine z_iln C dL_areAlike_153 2 rfl ?_
      refine z_ic_gtN C y yr 221 dL_areAlike_154 (by decide) rfl rfl (by omega) (by omega) (fun c10 => ?_) (fun c10 => by omega)
      refine z_lv [0, 1, 2, 3, 4] [(0, .ref (h 0)), (1, .ref (ho 0)), (2, .int (nI yr)), (3, .int (nI z)), (4, .int 1)] rfl ?_
      exact R221
    | succ n ih =>
      intro y hn
      have hfr : ¬ gP 10 0 < nI y := by rw [hyr]; exact nI_nlt (by omega) (by omega)
      refine z_il C dL_areAlike_151 5 rfl ?_
      refine z_iln C dL_areAlike_153 2 rfl ?_
      refine z_ic_gtN C y yr 221 dL_areAlike_154 (by decide) rfl rfl (by omega) (by omega) (fun c11 => by omega) (fun c11 => ?_)
      refine z_il C dL_areAlike_157 4 rfl ?_
      refine z_if_eqN C 1 221 dL_areAlike_159 (by decide) rfl (by omega) (fun c12 => by omega) (fun c12 => ?_)
      refine z_aln C dL_areAlike_162 0 rfl ?_
      refine z_ic C dL_areAlike_163 5 (by decide) ?_
      refine z_iln C dL_areAlike_164 3 rfl ?_
      refine z_bp C dL_areAlike_165 12 (by decide) ?_
      refine z_irem C dL_areAlike_167 (by decide) (nI (z % 12)) (pk_rem (a := z) (d := 12) (by omega) (by omega) (by omega)) ?_
      refine z_il C dL_areAlike_168 5 rfl ?_
      refine q_o (As := [.ref (h 0), .int 5, .int (nI (z % 12)), .int (nI y)]) (rest := []) C hxw hxs (hD_layer l X h a b na nf gP gT gA gF (nI (z % 12)) (nI y) (mX5_layer l X h a b na nf gP gT gA gF (z % 12) y (by omega) (by omega)) ⟨by decide, by decide⟩) gL_areAlike_L_does rfl ⟨by decide, by decide, (by decide : (parseMethodDescriptor yL_does.desc).map (fun d => d.parameters.length) = some 4)⟩ ⟨by decide, by decide⟩ ⟨by decide, by decide⟩ (Nat.le_of_ble_eq_true rfl) dL_areAlike_170 rfl ?_
      refine z_aln C dL_areAlike_173 1 rfl ?_
      refine z_ic C dL_areAlike_174 5 (by decide) ?_
      refine z_iln C dL_areAlike_175 3 rfl ?_
      refine z_bp C dL_areAlike_176 12 (by decide) ?_
      refine z_irem C dL_areAlike_178 (by decide) (nI (z % 12)) (pk_rem (a := z) (d := 12) (by omega) (by omega) (by omega)) ?_
      refine z_il C dL_areAlike_179 5 rfl ?_
      refine q_p (As := [.ref (ho 0), .int 5, .int (nI (z % 12)), .int (nI y)]) (rest := [.int (fX5_layer gP gT gA gF (z % 12) y)]) C hxw hxs (hD_layer l X ho ao bo no mo gP pT gA pF (nI (z % 12)) (nI y) (mX5_layer l X ho ao bo no mo gP pT gA pF (z % 12) y (by omega) (by omega)) ⟨by decide, by decide⟩) gL_areAlike_L_does rfl ⟨by decide, by decide, (by decide : (parseMethodDescriptor yL_does.desc).map (fun d => d.parameters.length) = some 4)⟩ ⟨by decide, by decide⟩ ⟨by decide, by decide⟩ (Nat.le_of_ble_eq_true rfl) dL_areAlike_181 rfl ?_
      refine z_ic_ne C 212 dL_areAlike_184 (by decide) (fun c13 => (c13 rfl).elim) (fun c13 => ?_)
      refine z_aln C dL_areAlike_187 0 rfl ?_
      refine z_bp C dL_areAlike_188 9 (by decide) ?_
      refine z_il C dL_areAlike_190 5 rfl ?_
      refine z_ic C dL_areAlike_192 0 (by decide) ?_
      refine q_o (As := [.ref (h 0), .int 9, .int (nI y), .int 0]) (rest := []) C hxw hxs (hD_front l X h a b na nf gP gT gA gF (nI y) 0 (mX5_front l X h a b na nf gP gT gA gF y (by omega) hfr) ⟨by decide, by decide⟩) gL_areAlike_L_does rfl ⟨by decide, by decide, (by decide : (parseMethodDescriptor yL_does.desc).map (fun d => d.parameters.length) = some 4)⟩ ⟨by decide, by decide⟩ ⟨by decide, by decide⟩ (Nat.le_of_ble_eq_true rfl) dL_areAlike_193 rfl ?_
      refine z_aln C dL_areAlike_196 1 rfl ?_
      refine z_bp C dL_areAlike_197 9 (by decide) ?_
      refine z_il C dL_areAlike_199 5 rfl ?_
      refine z_ic C dL_areAlike_201 0 (by decide) ?_
      refine q_p (As := [.ref (ho 0), .int 9, .int (nI y), .int 0]) (rest := [.int (fX5_front gP gT gA gF y)]) C hxw hxs (hD_front l X ho ao bo no mo gP pT gA pF (nI y) 0 (mX5_front l X ho ao bo no mo gP pT gA pF y (by omega) hfr) ⟨by decide, by decide⟩) gL_areAlike_L_does rfl ⟨by decide, by decide, (by decide : (parseMethodDescriptor yL_does.desc).map (fun d => d.parameters.length) = some 4)⟩ ⟨by decide, by decide⟩ ⟨by decide, by decide⟩ (Nat.le_of_ble_eq_true rfl) dL_areAlike_202 rfl ?_
      refine z_ic_ne C 212 dL_areAlike_205 (by decide) (fun c14 => (c14 rfl).elim) (fun c14 => ?_)
      refine z_ic C dL_areAlike_208 1 (by decide) ?_
      refine z_go C 213 dL_areAlike_209 (by decide) ?_
      refine z_is C [(4, .int 1), (0, .ref (h 0)), (1, .ref (ho 0)), (2, .int (nI yr)), (3, .int (nI z)), (5, .int (nI y))] dL_areAlike_213 (by decide) rfl ?_
      refine z_inc C 5 (nI (y + 1)) [(5, .int (nI (y + 1))), (4, .int 1), (0, .ref (h 0)), (1, .ref (ho 0)), (2, .int (nI yr)), (3, .int (nI z))] dL_areAlike_215 rfl (nI_add y 1) (by decide) rfl ?_
      refine z_go C 151 dL_areAlike_218 (by decide) ?_
      refine z_lv [2, 3, 4, 5, 1, 0] [(0, .ref (h 0)), (1, .ref (ho 0)), (2, .int (nI yr)), (3, .int (nI z)), (4, .int 1), (5, .int (nI (y + 1)))] rfl ?_
      exact ih (y + 1) (by omega)
  have R102 : ∀ n w : Nat, w + n = 6 → Z p l e { frames := 10, cells := 0, slots := 0, locals := 230 } s m args below meth c X A 7 Q 0 0 (QW h a b na nf ho ao bo no mo X gP gT gA gF gP pT gA pF) [(0, .ref (h 0)), (1, .ref (ho 0)), (2, .int (nI yr)), (3, .int (nI z)), (4, .int 1), (5, .int (nI w))] 102 [] := by
    intro n
    induction n with
    | zero =>
      intro w hn
      refine z_il C dL_areAlike_102 5 rfl ?_
      refine z_bp C dL_areAlike_104 6 (by decide) ?_
      refine z_ic_geN C w 6 148 dL_areAlike_106 (by decide) rfl rfl (by omega) (by omega) (fun c15 => ?_) (fun c15 => by omega)
      refine z_lv [0, 1, 2, 3, 4] [(0, .ref (h 0)), (1, .ref (ho 0)), (2, .int (nI yr)), (3, .int (nI z)), (4, .int 1)] rfl ?_
      refine z_ic C dL_areAlike_148 0 (by decide) ?_
      refine z_is C [(5, .int 0), (0, .ref (h 0)), (1, .ref (ho 0)), (2, .int (nI yr)), (3, .int (nI z)), (4, .int 1)] dL_areAlike_149 (by decide) rfl ?_
      refine z_lv [1, 2, 3, 4, 5, 0] [(0, .ref (h 0)), (1, .ref (ho 0)), (2, .int (nI yr)), (3, .int (nI z)), (4, .int 1), (5, .int 0)] rfl ?_
      exact R151 (yr + 1) 0 (by omega)
    | succ n ih =>
      intro w hn
      refine z_il C dL_areAlike_102 5 rfl ?_
      refine z_bp C dL_areAlike_104 6 (by decide) ?_
      refine z_ic_geN C w 6 148 dL_areAlike_106 (by decide) rfl rfl (by omega) (by omega) (fun c16 => by omega) (fun c16 => ?_)
      refine z_il C dL_areAlike_109 4 rfl ?_
      refine z_if_eqN C 1 148 dL_areAlike_111 (by decide) rfl (by omega) (fun c17 => by omega) (fun c17 => ?_)
      refine z_aln C dL_areAlike_114 0 rfl ?_
      refine z_bp C dL_areAlike_115 10 (by decide) ?_
      refine z_il C dL_areAlike_117 5 rfl ?_
      refine z_ic C dL_areAlike_119 0 (by decide) ?_
      refine q_o (As := [.ref (h 0), .int 10, .int (nI w), .int 0]) (rest := []) C hxw hxs (hD_total l X h a b na nf gP gT gA gF (nI w) 0 (mX5_total l X h a b na nf gP gT gA gF w (by omega)) ⟨by decide, by decide⟩) gL_areAlike_L_does rfl ⟨by decide, by decide, (by decide : (parseMethodDescriptor yL_does.desc).map (fun d => d.parameters.length) = some 4)⟩ ⟨by decide, by decide⟩ ⟨by decide, by decide⟩ (Nat.le_of_ble_eq_true rfl) dL_areAlike_120 rfl ?_
      refine z_aln C dL_areAlike_123 1 rfl ?_
      refine z_bp C dL_areAlike_124 10 (by decide) ?_
      refine z_il C dL_areAlike_126 5 rfl ?_
      refine z_ic C dL_areAlike_128 0 (by decide) ?_
      refine q_p (As := [.ref (ho 0), .int 10, .int (nI w), .int 0]) (rest := [.int (fX5_total gP gT gA gF w)]) C hxw hxs (hD_total l X ho ao bo no mo gP pT gA pF (nI w) 0 (mX5_total l X ho ao bo no mo gP pT gA pF w (by omega)) ⟨by decide, by decide⟩) gL_areAlike_L_does rfl ⟨by decide, by decide, (by decide : (parseMethodDescriptor yL_does.desc).map (fun d => d.parameters.length) = some 4)⟩ ⟨by decide, by decide⟩ ⟨by decide, by decide⟩ (Nat.le_of_ble_eq_true rfl) dL_areAlike_129 rfl ?_
      refine z_ic_ne C 139 dL_areAlike_132 (by decide) (fun c18 => (c18 rfl).elim) (fun c18 => ?_)
      refine z_ic C dL_areAlike_135 1 (by decide) ?_
      refine z_go C 140 dL_areAlike_136 (by decide) ?_
      refine z_is C [(4, .int 1), (0, .ref (h 0)), (1, .ref (ho 0)), (2, .int (nI yr)), (3, .int (nI z)), (5, .int (nI w))] dL_areAlike_140 (by decide) rfl ?_
      refine z_inc C 5 (nI (w + 1)) [(5, .int (nI (w + 1))), (4, .int 1), (0, .ref (h 0)), (1, .ref (ho 0)), (2, .int (nI yr)), (3, .int (nI z))] dL_areAlike_142 rfl (nI_add w 1) (by decide) rfl ?_
      refine z_go C 102 dL_areAlike_145 (by decide) ?_
      refine z_lv [2, 3, 4, 5, 1, 0] [(0, .ref (h 0)), (1, .ref (ho 0)), (2, .int (nI yr)), (3, .int (nI z)), (4, .int 1), (5, .int (nI (w + 1)))] rfl ?_
      exact ih (w + 1) (by omega)
  have R32 : ∀ n k : Nat, k + n = 12 → Z p l e { frames := 10, cells := 0, slots := 0, locals := 230 } s m args below meth c X A 7 Q 0 0 (QW h a b na nf ho ao bo no mo X gP gT gA gF gP pT gA pF) [(0, .ref (h 0)), (1, .ref (ho 0)), (2, .int (nI yr)), (3, .int (nI z)), (4, .int 1), (5, .int (nI k))] 32 [] := by
    intro n
    induction n with
    | zero =>
      intro k hn
      refine z_il C dL_areAlike_32 5 rfl ?_
      refine z_bp C dL_areAlike_34 12 (by decide) ?_
      refine z_ic_geN C k 12 99 dL_areAlike_36 (by decide) rfl rfl (by omega) (by omega) (fun c19 => ?_) (fun c19 => by omega)
      refine z_lv [0, 1, 2, 3, 4] [(0, .ref (h 0)), (1, .ref (ho 0)), (2, .int (nI yr)), (3, .int (nI z)), (4, .int 1)] rfl ?_
      refine z_ic C dL_areAlike_99 0 (by decide) ?_
      refine z_is C [(5, .int 0), (0, .ref (h 0)), (1, .ref (ho 0)), (2, .int (nI yr)), (3, .int (nI z)), (4, .int 1)] dL_areAlike_100 (by decide) rfl ?_
      refine z_lv [1, 2, 3, 4, 5, 0] [(0, .ref (h 0)), (1, .ref (ho 0)), (2, .int (nI yr)), (3, .int (nI z)), (4, .int 1), (5, .int 0)] rfl ?_
      exact R102 6 0 (by omega)
    | succ n ih =>
      intro k hn
      have R47 : ∀ n2 j : Nat, j + n2 = 10 → Z p l e { frames := 10, cells := 0, slots := 0, locals := 230 } s m args below meth c X A 7 Q 0 0 (QW h a b na nf ho ao bo no mo X gP gT gA gF gP pT gA pF) [(0, .ref (h 0)), (1, .ref (ho 0)), (2, .int (nI yr)), (3, .int (nI z)), (4, .int 1), (5, .int (nI k)), (6, .int (nI j))] 47 [] := by
        intro n2
        induction n2 with
        | zero =>
          intro j hj
          refine z_il C dL_areAlike_47 6 rfl ?_
          refine z_bp C dL_areAlike_49 10 (by decide) ?_
          refine z_ic_geN C j 10 93 dL_areAlike_51 (by decide) rfl rfl (by omega) (by omega) (fun c20 => ?_) (fun c20 => by omega)
          refine z_inc C 5 (nI (k + 1)) [(5, .int (nI (k + 1))), (0, .ref (h 0)), (1, .ref (ho 0)), (2, .int (nI yr)), (3, .int (nI z)), (4, .int 1), (6, .int (nI j))] dL_areAlike_93 rfl (nI_add k 1) (by decide) rfl ?_
          refine z_go C 32 dL_areAlike_96 (by decide) ?_
          refine z_lv [1, 2, 3, 4, 5, 0] [(0, .ref (h 0)), (1, .ref (ho 0)), (2, .int (nI yr)), (3, .int (nI z)), (4, .int 1), (5, .int (nI (k + 1)))] rfl ?_
          exact ih (k + 1) (by omega)
        | succ n2 ih2 =>
          intro j hj
          refine z_il C dL_areAlike_47 6 rfl ?_
          refine z_bp C dL_areAlike_49 10 (by decide) ?_
          refine z_ic_geN C j 10 93 dL_areAlike_51 (by decide) rfl rfl (by omega) (by omega) (fun c21 => by omega) (fun c21 => ?_)
          refine z_il C dL_areAlike_54 4 rfl ?_
          refine z_if_eqN C 1 93 dL_areAlike_56 (by decide) rfl (by omega) (fun c22 => by omega) (fun c22 => ?_)
          refine z_aln C dL_areAlike_59 0 rfl ?_
          refine z_ic C dL_areAlike_60 4 (by decide) ?_
          refine z_il C dL_areAlike_61 5 rfl ?_
          refine z_il C dL_areAlike_63 6 rfl ?_
          refine q_o (As := [.ref (h 0), .int 4, .int (nI k), .int (nI j)]) (rest := []) C hxw hxs (hD_cellIs l X h a b na nf gP gT gA gF (nI k) (nI j) (mX5_cellIs l X h a b na nf gP gT gA gF k j (by omega) (by omega)) ⟨by decide, by decide⟩) gL_areAlike_L_does rfl ⟨by decide, by decide, (by decide : (parseMethodDescriptor yL_does.desc).map (fun d => d.parameters.length) = some 4)⟩ ⟨by decide, by decide⟩ ⟨by decide, by decide⟩ (Nat.le_of_ble_eq_true rfl) dL_areAlike_65 rfl ?_
          refine z_aln C dL_areAlike_68 1 rfl ?_
          refine z_ic C dL_areAlike_69 4 (by decide) ?_
          refine z_il C dL_areAlike_70 5 rfl ?_
          refine z_il C dL_areAlike_72 6 rfl ?_
          refine q_p (As := [.ref (ho 0), .int 4, .int (nI k), .int (nI j)]) (rest := [.int (fX5_cellIs gP gT gA gF k j)]) C hxw hxs (hD_cellIs l X ho ao bo no mo gP pT gA pF (nI k) (nI j) (mX5_cellIs l X ho ao bo no mo gP pT gA pF k j (by omega) (by omega)) ⟨by decide, by decide⟩) gL_areAlike_L_does rfl ⟨by decide, by decide, (by decide : (parseMethodDescriptor yL_does.desc).map (fun d => d.parameters.length) = some 4)⟩ ⟨by decide, by decide⟩ ⟨by decide, by decide⟩ (Nat.le_of_ble_eq_true rfl) dL_areAlike_74 rfl ?_
          refine z_ic_ne C 84 dL_areAlike_77 (by decide) (fun c23 => (c23 rfl).elim) (fun c23 => ?_)
          refine z_ic C dL_areAlike_80 1 (by decide) ?_
          refine z_go C 85 dL_areAlike_81 (by decide) ?_
          refine z_is C [(4, .int 1), (0, .ref (h 0)), (1, .ref (ho 0)), (2, .int (nI yr)), (3, .int (nI z)), (5, .int (nI k)), (6, .int (nI j))] dL_areAlike_85 (by decide) rfl ?_
          refine z_inc C 6 (nI (j + 1)) [(6, .int (nI (j + 1))), (4, .int 1), (0, .ref (h 0)), (1, .ref (ho 0)), (2, .int (nI yr)), (3, .int (nI z)), (5, .int (nI k))] dL_areAlike_87 rfl (nI_add j 1) (by decide) rfl ?_
          refine z_go C 47 dL_areAlike_90 (by decide) ?_
          refine z_lv [2, 3, 4, 5, 1, 6, 0] [(0, .ref (h 0)), (1, .ref (ho 0)), (2, .int (nI yr)), (3, .int (nI z)), (4, .int 1), (5, .int (nI k)), (6, .int (nI (j + 1)))] rfl ?_
          exact ih2 (j + 1) (by omega)
      refine z_il C dL_areAlike_32 5 rfl ?_
      refine z_bp C dL_areAlike_34 12 (by decide) ?_
      refine z_ic_geN C k 12 99 dL_areAlike_36 (by decide) rfl rfl (by omega) (by omega) (fun c24 => by omega) (fun c24 => ?_)
      refine z_il C dL_areAlike_39 4 rfl ?_
      refine z_if_eqN C 1 99 dL_areAlike_41 (by decide) rfl (by omega) (fun c25 => by omega) (fun c25 => ?_)
      refine z_ic C dL_areAlike_44 0 (by decide) ?_
      refine z_is C [(6, .int 0), (0, .ref (h 0)), (1, .ref (ho 0)), (2, .int (nI yr)), (3, .int (nI z)), (4, .int 1), (5, .int (nI k))] dL_areAlike_45 (by decide) rfl ?_
      refine z_lv [1, 2, 3, 4, 5, 6, 0] [(0, .ref (h 0)), (1, .ref (ho 0)), (2, .int (nI yr)), (3, .int (nI z)), (4, .int 1), (5, .int (nI k)), (6, .int 0)] rfl ?_
      exact R47 10 0 (by omega)
  show Z p l e { frames := 10, cells := 0, slots := 0, locals := 230 } s m args below meth c X A 7 Q 0 0 (QW h a b na nf ho ao bo no mo X gP gT gA gF gP pT gA pF) [(0, .ref (h 0)), (1, .ref (ho 0)), (2, .int (nI yr)), (3, .int (nI z))] 0 []
  refine z_aln C dL_areAlike_0 0 rfl ?_
  refine q_oV (As := []) (rest := []) C (mX5_floods l X h a b na nf gP gT gA gF) gL_areAlike_X5_floods rfl ⟨rfl, by decide, by decide, (by decide : (parseMethodDescriptor yX5_floods.desc).map (fun d => d.parameters.length) = some 0)⟩ ⟨by decide, by decide⟩ ⟨by decide, by decide⟩ rfl (Nat.le_of_ble_eq_true rfl) dL_areAlike_1 rfl ?_
  refine z_aln C dL_areAlike_4 1 rfl ?_
  refine q_pV (As := []) (rest := [.int (fX5_floods gP gT gA gF)]) C (mX5_floods l X ho ao bo no mo gP pT gA pF) gL_areAlike_X5_floods rfl ⟨rfl, by decide, by decide, (by decide : (parseMethodDescriptor yX5_floods.desc).map (fun d => d.parameters.length) = some 0)⟩ ⟨by decide, by decide⟩ ⟨by decide, by decide⟩ rfl (Nat.le_of_ble_eq_true rfl) dL_areAlike_5 rfl ?_
  refine z_ic_ne C 26 dL_areAlike_8 (by decide) (fun c26 => (c26 rfl).elim) (fun c26 => ?_)
  refine z_aln C dL_areAlike_11 0 rfl ?_
  refine q_oV (As := []) (rest := []) C (mX5_iceAnew l X h a b na nf gP gT gA gF) gL_areAlike_X5_iceAnew rfl ⟨rfl, by decide, by decide, (by decide : (parseMethodDescriptor yX5_iceAnew.desc).map (fun d => d.parameters.length) = some 0)⟩ ⟨by decide, by decide⟩ ⟨by decide, by decide⟩ rfl (Nat.le_of_ble_eq_true rfl) dL_areAlike_12 rfl ?_
  refine z_aln C dL_areAlike_15 1 rfl ?_
  refine q_pV (As := []) (rest := [.int (fX5_iceAnew gP gT gA gF)]) C (mX5_iceAnew l X ho ao bo no mo gP pT gA pF) gL_areAlike_X5_iceAnew rfl ⟨rfl, by decide, by decide, (by decide : (parseMethodDescriptor yX5_iceAnew.desc).map (fun d => d.parameters.length) = some 0)⟩ ⟨by decide, by decide⟩ ⟨by decide, by decide⟩ rfl (Nat.le_of_ble_eq_true rfl) dL_areAlike_16 rfl ?_
  refine z_ic_ne C 26 dL_areAlike_19 (by decide) (fun c27 => (c27 rfl).elim) (fun c27 => ?_)
  refine z_ic C dL_areAlike_22 1 (by decide) ?_
  refine z_go C 27 dL_areAlike_23 (by decide) ?_
  refine z_is C [(4, .int 1), (0, .ref (h 0)), (1, .ref (ho 0)), (2, .int (nI yr)), (3, .int (nI z))] dL_areAlike_27 (by decide) rfl ?_
  refine z_ic C dL_areAlike_29 0 (by decide) ?_
  refine z_is C [(5, .int 0), (4, .int 1), (0, .ref (h 0)), (1, .ref (ho 0)), (2, .int (nI yr)), (3, .int (nI z))] dL_areAlike_30 (by decide) rfl ?_
  refine z_lv [2, 3, 4, 5, 1, 0] [(0, .ref (h 0)), (1, .ref (ho 0)), (2, .int (nI yr)), (3, .int (nI z)), (4, .int 1), (5, .int 0)] rfl ?_
  exact R32 12 0 (by omega)
