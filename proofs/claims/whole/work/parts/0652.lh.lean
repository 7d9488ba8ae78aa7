/-! L, part g, 0: the law's calls, one by one -/
section LL0
variable {p : Program} {l : Launch} {e : Env} {s : State} {m : MethodId} {below : List Frame} {meth : Method} {c : Code} {b L : Nat} {xs : Nat → Int32} {Q : State → Prop}
set_option maxRecDepth 100000 in
set_option maxHeartbeats 8000000 in
theorem lc_0 : lC p l e s m below meth c b L xs Q 168 := by
  intro t u i H locs ls cells slots X hN hX hbl ht hL hfl hJ hG hS hl hi hc hs kk
  have q0 : 0 < NN ∧ sT 0 = 13 := by decide
  have q40 : 40 < NN ∧ sT 40 = 14 := by decide
  have q39 : 39 < NN ∧ sT 39 = 103 ∧ sN 39 = 1 := by decide
  replace hl : lv_has ls 7 [(4, .int (iI i)), (3, .ref (t.2.2.1 39)), (2, .ref (t.2.2.1 40)), (1, .ref (t.2.2.1 0)), (0, .ref b)] := hl
  obtain ⟨⟨r, u1⟩, hf, ⟨r2, u2⟩, hm, e1, e2, hJ2⟩ := jAppend hJ sv_r sv_r sv_r sv_r sv_r
  dsimp only at hm e1 e2 hJ2
  subst e1
  refine lv_aload_n X.1.1 X.1.2.1 dL_law_168 rfl (lv_at hl 3 rfl) ?_
  refine lv_aload_n X.1.1 X.1.2.1 dL_law_169 rfl (lv_at hl 4 rfl) ?_
  refine lv_iload X.1.1 X.1.2.1 dL_law_170 (lv_at hl 0 rfl) ?_
  refine x_iconst X dL_law_172 ?_
  refine x_iadd X dL_law_173 ?_
  refine x_sld X hX hbl ht hS ⟨by omega, by omega⟩ hL dL_law_174 ?_
  refine lv_aload_n X.1.1 X.1.2.1 dL_law_175 rfl (lv_at hl 4 rfl) ?_
  refine lv_iload X.1.1 X.1.2.1 dL_law_176 (lv_at hl 0 rfl) ?_
  refine x_iconst X dL_law_178 ?_
  refine x_iadd X dL_law_179 ?_
  refine x_sld X hX hbl ht hS ⟨by omega, by omega⟩ hL dL_law_180 ?_
  refine lv_aload_n X.1.1 X.1.2.1 dL_law_181 rfl (lv_at hl 4 rfl) ?_
  refine lv_iload X.1.1 X.1.2.1 dL_law_182 (lv_at hl 0 rfl) ?_
  refine x_iconst X dL_law_184 ?_
  refine x_iadd X dL_law_185 ?_
  refine x_sld X hX hbl ht hS ⟨by omega, by omega⟩ hL dL_law_186 ?_
  refine lv_aload_n X.1.1 X.1.2.1 dL_law_187 rfl (lv_at hl 4 rfl) ?_
  refine lv_iload X.1.1 X.1.2.1 dL_law_188 (lv_at hl 0 rfl) ?_
  refine x_iconst X dL_law_190 ?_
  refine x_iadd X dL_law_191 ?_
  refine x_sld X hX hbl ht hS ⟨by omega, by omega⟩ hL dL_law_192 ?_
  refine lv_aload_n X.1.1 X.1.2.1 dL_law_193 rfl (lv_at hl 4 rfl) ?_
  refine lv_iload X.1.1 X.1.2.1 dL_law_194 (lv_at hl 0 rfl) ?_
  refine x_iconst X dL_law_196 ?_
  refine x_iadd X dL_law_197 ?_
  refine x_sld X hX hbl ht hS ⟨by omega, by omega⟩ hL dL_law_198 ?_
  refine x_callVi0 X hG hS (c_X9_append l t (sv xs (i + 1)) (sv xs (i + 2)) (sv xs (i + 3)) (sv xs (i + 4)) (sv xs (i + 5)) _ _ _ hf) (cwV 5 X.1.2.2.2.2 gL_law_X9_append rfl rfl rfl hd_X9_append ⟨Nat.le_of_ble_eq_true rfl, Nat.le_of_ble_eq_true rfl⟩) q0.1 q0.2 rfl (by decide) (by rfl) hl.1 (Nat.le_of_ble_eq_true rfl) dL_law_199 ⟨by show cells ≤ 601024; omega, by show slots ≤ 7293034; omega⟩ rfl (fun H locs hG hS => ?_)
  refine lv_aload_n X.1.1 X.1.2.1 dL_law_202 rfl (lv_at hl 2 rfl) ?_
  refine lv_aload_n X.1.1 X.1.2.1 dL_law_203 rfl (lv_at hl 4 rfl) ?_
  refine lv_iload X.1.1 X.1.2.1 dL_law_204 (lv_at hl 0 rfl) ?_
  refine x_iconst X dL_law_206 ?_
  refine x_iadd X dL_law_207 ?_
  refine x_sld X hX hbl ht hS ⟨by omega, by omega⟩ hL dL_law_208 ?_
  refine lv_aload_n X.1.1 X.1.2.1 dL_law_209 rfl (lv_at hl 4 rfl) ?_
  refine lv_iload X.1.1 X.1.2.1 dL_law_210 (lv_at hl 0 rfl) ?_
  refine x_iconst X dL_law_212 ?_
  refine x_iadd X dL_law_213 ?_
  refine x_sld X hX hbl ht hS ⟨by omega, by omega⟩ hL dL_law_214 ?_
  refine lv_aload_n X.1.1 X.1.2.1 dL_law_215 rfl (lv_at hl 4 rfl) ?_
  refine lv_iload X.1.1 X.1.2.1 dL_law_216 (lv_at hl 0 rfl) ?_
  refine x_iconst X dL_law_218 ?_
  refine x_iadd X dL_law_219 ?_
  refine x_sld X hX hbl ht hS ⟨by omega, by omega⟩ hL dL_law_220 ?_
  refine lv_aload_n X.1.1 X.1.2.1 dL_law_221 rfl (lv_at hl 4 rfl) ?_
  refine lv_iload X.1.1 X.1.2.1 dL_law_222 (lv_at hl 0 rfl) ?_
  refine x_iconst X dL_law_224 ?_
  refine x_iadd X dL_law_225 ?_
  refine x_sld X hX hbl ht hS ⟨by omega, by omega⟩ hL dL_law_226 ?_
  refine lv_aload_n X.1.1 X.1.2.1 dL_law_227 rfl (lv_at hl 4 rfl) ?_
  refine lv_iload X.1.1 X.1.2.1 dL_law_228 (lv_at hl 0 rfl) ?_
  refine x_iconst X dL_law_230 ?_
  refine x_iadd X dL_law_231 ?_
  refine x_sld X hX hbl ht hS ⟨by omega, by omega⟩ hL dL_law_232 ?_
  refine x_callVi0 X hG hS (c_X10_append l t (sv xs (i + 1)) (sv xs (i + 2)) (sv xs (i + 3)) (sv xs (i + 4)) (sv xs (i + 5)) _ _ _ hm) (cwV 5 X.1.2.2.2.2 gL_law_X10_append rfl rfl rfl hd_X10_append ⟨Nat.le_of_ble_eq_true rfl, Nat.le_of_ble_eq_true rfl⟩) q40.1 q40.2 rfl (by decide) (by rfl) hl.1 (Nat.le_of_ble_eq_true rfl) dL_law_233 ⟨by show cells ≤ 601024; omega, by show slots ≤ 7293034; omega⟩ rfl (fun H locs hG hS => ?_)
  refine lv_icmp_eq (tgt := 1665) X.1.1 X.1.2.1 dL_law_236 (by decide) (fun _ => ?_) (fun h => absurd rfl h)
  exact W.widen (k := cells + 13) (n := slots + 1206) (by omega) (by omega) (kk t u2 H locs ls X ht hJ2 hG hS hl)
set_option maxRecDepth 100000 in
set_option maxHeartbeats 8000000 in
theorem lc_1 : lC p l e s m below meth c b L xs Q 241 := by
  intro t u i H locs ls cells slots X hN hX hbl ht hL hfl hJ hG hS hl hi hc hs kk
  have q0 : 0 < NN ∧ sT 0 = 13 := by decide
  have q40 : 40 < NN ∧ sT 40 = 14 := by decide
  have q39 : 39 < NN ∧ sT 39 = 103 ∧ sN 39 = 1 := by decide
  replace hl : lv_has ls 7 [(4, .int (iI i)), (3, .ref (t.2.2.1 39)), (2, .ref (t.2.2.1 40)), (1, .ref (t.2.2.1 0)), (0, .ref b)] := hl
  obtain ⟨⟨g, r, u1⟩, hf, k, hok, hm⟩ := jParse hJ sv_r
  dsimp only at hok hm
  obtain ⟨hg, hk, hkr, hk0⟩ := okA_x hok
  refine lv_aload_n X.1.1 X.1.2.1 dL_law_241 rfl (lv_at hl 3 rfl) ?_
  refine lv_aload_n X.1.1 X.1.2.1 dL_law_242 rfl (lv_at hl 4 rfl) ?_
  refine lv_iload X.1.1 X.1.2.1 dL_law_243 (lv_at hl 0 rfl) ?_
  refine x_iconst X dL_law_245 ?_
  refine x_iadd X dL_law_246 ?_
  refine x_sld X hX hbl ht hS ⟨by omega, by omega⟩ hL dL_law_247 ?_
  refine lv_aload_n X.1.1 X.1.2.1 dL_law_248 rfl (lv_at hl 1 rfl) ?_
  refine x_callWi X hN hG hS (c_L_parse l hfl t (sv xs (i + 1)) u g r u1 hf hg) (vx_cwSW 3 X.1.2.2.2.2 gL_law_L_parse rfl rfl rfl hdL_parse ⟨Nat.le_of_ble_eq_true rfl, Nat.le_of_ble_eq_true rfl⟩) (by rfl) hl.1 (Nat.le_of_ble_eq_true rfl) dL_law_249 ⟨by show cells + 1 ≤ 601024; omega, by show slots + 6 ≤ 7293034; omega⟩ rfl (fun H locs hG hS => ?_)
  rw [hk]
  generalize hw : (if g = 0 then up u1 39 0 (iI r).toInt else u1) = w at hG
  obtain ⟨⟨r2, u2⟩, hm2, e1, e2, e3, hJ2⟩ := hm w (fun d hd => by rw [← hw]; exact w39_o d hd)
  dsimp only at hm2 e1 e2 e3 hJ2
  refine lv_istore (lv' := [(5, .int (iI k)), (4, .int (iI i)), (3, .ref (t.2.2.1 39)), (2, .ref (t.2.2.1 40)), (1, .ref (t.2.2.1 0)), (0, .ref b)]) X.1.1 X.1.2.1 dL_law_252 hl (by decide) rfl (fun ls hl => ?_)
  refine lv_aload_n X.1.1 X.1.2.1 dL_law_254 rfl (lv_at hl 3 rfl) ?_
  refine lv_aload_n X.1.1 X.1.2.1 dL_law_255 rfl (lv_at hl 5 rfl) ?_
  refine lv_iload X.1.1 X.1.2.1 dL_law_256 (lv_at hl 1 rfl) ?_
  refine x_iconst X dL_law_258 ?_
  refine x_iadd X dL_law_259 ?_
  refine x_sld X hX hbl ht hS ⟨by omega, by omega⟩ hL dL_law_260 ?_
  refine x_callVi0 X hG hS (c_X10_parse l t (sv xs (i + 1)) _ _ _ hm2) (cwV 1 X.1.2.2.2.2 gL_law_X10_parse rfl rfl rfl hd_X10_parse ⟨Nat.le_of_ble_eq_true rfl, Nat.le_of_ble_eq_true rfl⟩) q40.1 q40.2 rfl (by decide) (by rfl) hl.1 (Nat.le_of_ble_eq_true rfl) dL_law_261 ⟨by show cells + 1 ≤ 601024; omega, by show slots + 6 ≤ 7293034; omega⟩ rfl (fun H locs hG hS => ?_)
  refine lv_istore (lv' := [(6, .int (iI r2)), (5, .int (iI k)), (4, .int (iI i)), (3, .ref (t.2.2.1 39)), (2, .ref (t.2.2.1 40)), (1, .ref (t.2.2.1 0)), (0, .ref b)]) X.1.1 X.1.2.1 dL_law_264 hl (by decide) rfl (fun ls hl => ?_)
  refine lv_aload_n X.1.1 X.1.2.1 dL_law_266 rfl (lv_at hl 4 rfl) ?_
  refine x_callVi0 X hG hS (c_X10_thrown l t _ _ _ (x_thrown_f u2)) (cwV 0 X.1.2.2.2.2 gL_law_X10_thrown rfl rfl rfl hd_X10_thrown ⟨Nat.le_of_ble_eq_true rfl, Nat.le_of_ble_eq_true rfl⟩) q40.1 q40.2 rfl (by decide) (by rfl) hl.1 (Nat.le_of_ble_eq_true rfl) dL_law_267 ⟨by show cells + 1 ≤ 601024; omega, by show slots + 6 ≤ 7293034; omega⟩ rfl (fun H locs hG hS => ?_)
  rw [e1]
  refine lv_iload X.1.1 X.1.2.1 dL_law_270 (lv_at hl 1 rfl) ?_
  refine lv_icmp_eq (tgt := 277) X.1.1 X.1.2.1 dL_law_272 (by decide) (fun _ => ?_) (fun h => absurd rfl h)
  refine lv_iload X.1.1 X.1.2.1 dL_law_277 (lv_at hl 1 rfl) ?_
  refine x_if_ne (tgt := 294) X hkr dL_law_279 (by decide) (fun _ => ?_) (fun h0 => ?_)
  · refine lv_goto (tgt := 1665) X.1.1 X.1.2.1 dL_law_294 (by decide) ?_
    exact W.widen (k := cells + 13) (n := slots + 1206) (by omega) (by omega) (kk t u2 H locs ls X ht hJ2 hG hS (lv_sub hl [2, 3, 4, 5, 6] rfl))
  · have g0 := hk0 h0
    have er : r2 = r := e2 h0
    have e39 : u2 39 0 = (iI r).toInt := by rw [e3, ← hw]; exact w39_s g0
    refine lv_aload_n X.1.1 X.1.2.1 dL_law_282 rfl (lv_at hl 3 rfl) ?_
    refine x_iconst X dL_law_283 ?_
    refine x_lald X hG q39.1 q39.2.1 q39.2.2 (by decide) (by decide) dL_law_284 ?_
    rw [e39]
    refine lv_iload X.1.1 X.1.2.1 dL_law_285 (lv_at hl 0 rfl) ?_
    rw [er]
    rw [← iI_x (iI r)]
    have ev : ((iI ((iI r).toInt)).toInt) = (iI r).toInt := by rw [iI_x]
    rw [ev]
    have eL : InL (iI r).toInt := ⟨by have := (inR_x (iI r)).1; omega, by have := (inR_x (iI r)).2; omega⟩
    refine x_i2l X (inR_x _) dL_law_287 ?_
    refine x_lcmp X eL eL dL_law_288 ?_
    rw [cmpL_self]
    refine x_if_eq (tgt := 294) X (by decide) dL_law_289 (by decide) (fun _ => ?_) (fun h => absurd rfl h)
    refine lv_goto (tgt := 1665) X.1.1 X.1.2.1 dL_law_294 (by decide) ?_
    exact W.widen (k := cells + 13) (n := slots + 1206) (by omega) (by omega) (kk t u2 H locs ls X ht hJ2 hG hS (lv_sub hl [2, 3, 4, 5, 6] rfl))
set_option maxRecDepth 100000 in
set_option maxHeartbeats 8000000 in
theorem lc_2 : lC p l e s m below meth c b L xs Q 297 := by
  intro t u i H locs ls cells slots X hN hX hbl ht hL hfl hJ hG hS hl hi hc hs kk
  have q0 : 0 < NN ∧ sT 0 = 13 := by decide
  have q40 : 40 < NN ∧ sT 40 = 14 := by decide
  have q39 : 39 < NN ∧ sT 39 = 103 ∧ sN 39 = 1 := by decide
  replace hl : lv_has ls 7 [(4, .int (iI i)), (3, .ref (t.2.2.1 39)), (2, .ref (t.2.2.1 40)), (1, .ref (t.2.2.1 0)), (0, .ref b)] := hl
  obtain ⟨⟨r, u1⟩, hf, ⟨r2, u2⟩, hm, e1, e2, hJ2⟩ := jErr hJ 
  dsimp only at hm e1 e2 hJ2
  subst e1
  refine lv_aload_n X.1.1 X.1.2.1 dL_law_297 rfl (lv_at hl 3 rfl) ?_
  refine x_callVi0 X hG hS (c_X9_errorPosition l t  _ _ _ hf) (cwV 0 X.1.2.2.2.2 gL_law_X9_errorPosition rfl rfl rfl hd_X9_errorPosition ⟨Nat.le_of_ble_eq_true rfl, Nat.le_of_ble_eq_true rfl⟩) q0.1 q0.2 rfl (by decide) (by rfl) hl.1 (Nat.le_of_ble_eq_true rfl) dL_law_298 ⟨by show cells ≤ 601024; omega, by show slots ≤ 7293034; omega⟩ rfl (fun H locs hG hS => ?_)
  refine lv_aload_n X.1.1 X.1.2.1 dL_law_301 rfl (lv_at hl 2 rfl) ?_
  refine x_callVi0 X hG hS (c_X10_errorPosition l t  _ _ _ hm) (cwV 0 X.1.2.2.2.2 gL_law_X10_errorPosition rfl rfl rfl hd_X10_errorPosition ⟨Nat.le_of_ble_eq_true rfl, Nat.le_of_ble_eq_true rfl⟩) q40.1 q40.2 rfl (by decide) (by rfl) hl.1 (Nat.le_of_ble_eq_true rfl) dL_law_302 ⟨by show cells ≤ 601024; omega, by show slots ≤ 7293034; omega⟩ rfl (fun H locs hG hS => ?_)
  refine lv_icmp_eq (tgt := 1665) X.1.1 X.1.2.1 dL_law_305 (by decide) (fun _ => ?_) (fun h => absurd rfl h)
  exact W.widen (k := cells + 13) (n := slots + 1206) (by omega) (by omega) (kk t u2 H locs ls X ht hJ2 hG hS hl)
set_option maxRecDepth 100000 in
set_option maxHeartbeats 8000000 in
theorem lc_3 : lC p l e s m below meth c b L xs Q 310 := by
  intro t u i H locs ls cells slots X hN hX hbl ht hL hfl hJ hG hS hl hi hc hs kk
  have q0 : 0 < NN ∧ sT 0 = 13 := by decide
  have q40 : 40 < NN ∧ sT 40 = 14 := by decide
  have q39 : 39 < NN ∧ sT 39 = 103 ∧ sN 39 = 1 := by decide
  replace hl : lv_has ls 7 [(4, .int (iI i)), (3, .ref (t.2.2.1 39)), (2, .ref (t.2.2.1 40)), (1, .ref (t.2.2.1 0)), (0, .ref b)] := hl
  obtain ⟨⟨g, r, u1⟩, hf, k, hok, hm⟩ := jSize hJ sv_r
  dsimp only at hok hm
  obtain ⟨hg, hk, hkr, hk0⟩ := okA_x hok
  refine lv_aload_n X.1.1 X.1.2.1 dL_law_310 rfl (lv_at hl 3 rfl) ?_
  refine lv_aload_n X.1.1 X.1.2.1 dL_law_311 rfl (lv_at hl 4 rfl) ?_
  refine lv_iload X.1.1 X.1.2.1 dL_law_312 (lv_at hl 0 rfl) ?_
  refine x_iconst X dL_law_314 ?_
  refine x_iadd X dL_law_315 ?_
  refine x_sld X hX hbl ht hS ⟨by omega, by omega⟩ hL dL_law_316 ?_
  refine lv_aload_n X.1.1 X.1.2.1 dL_law_317 rfl (lv_at hl 1 rfl) ?_
  refine x_callWi X hN hG hS (c_L_size l hfl t (sv xs (i + 1)) u g r u1 hf hg) (vx_cwSW 3 X.1.2.2.2.2 gL_law_L_size rfl rfl rfl hdL_size ⟨Nat.le_of_ble_eq_true rfl, Nat.le_of_ble_eq_true rfl⟩) (by rfl) hl.1 (Nat.le_of_ble_eq_true rfl) dL_law_318 ⟨by show cells + 1 ≤ 601024; omega, by show slots + 6 ≤ 7293034; omega⟩ rfl (fun H locs hG hS => ?_)
  rw [hk]
  generalize hw : (if g = 0 then up u1 39 0 (iI r).toInt else u1) = w at hG
  obtain ⟨⟨r2, u2⟩, hm2, e1, e2, e3, hJ2⟩ := hm w (fun d hd => by rw [← hw]; exact w39_o d hd)
  dsimp only at hm2 e1 e2 e3 hJ2
  refine lv_istore (lv' := [(5, .int (iI k)), (4, .int (iI i)), (3, .ref (t.2.2.1 39)), (2, .ref (t.2.2.1 40)), (1, .ref (t.2.2.1 0)), (0, .ref b)]) X.1.1 X.1.2.1 dL_law_321 hl (by decide) rfl (fun ls hl => ?_)
  refine lv_aload_n X.1.1 X.1.2.1 dL_law_323 rfl (lv_at hl 3 rfl) ?_
  refine lv_aload_n X.1.1 X.1.2.1 dL_law_324 rfl (lv_at hl 5 rfl) ?_
  refine lv_iload X.1.1 X.1.2.1 dL_law_325 (lv_at hl 1 rfl) ?_
  refine x_iconst X dL_law_327 ?_
  refine x_iadd X dL_law_328 ?_
  refine x_sld X hX hbl ht hS ⟨by omega, by omega⟩ hL dL_law_329 ?_
  refine x_callVi0 X hG hS (c_X10_size l t (sv xs (i + 1)) _ _ _ hm2) (cwV 1 X.1.2.2.2.2 gL_law_X10_size rfl rfl rfl hd_X10_size ⟨Nat.le_of_ble_eq_true rfl, Nat.le_of_ble_eq_true rfl⟩) q40.1 q40.2 rfl (by decide) (by rfl) hl.1 (Nat.le_of_ble_eq_true rfl) dL_law_330 ⟨by show cells + 1 ≤ 601024; omega, by show slots + 6 ≤ 7293034; omega⟩ rfl (fun H locs hG hS => ?_)
  refine lv_istore (lv' := [(6, .int (iI r2)), (5, .int (iI k)), (4, .int (iI i)), (3, .ref (t.2.2.1 39)), (2, .ref (t.2.2.1 40)), (1, .ref (t.2.2.1 0)), (0, .ref b)]) X.1.1 X.1.2.1 dL_law_333 hl (by decide) rfl (fun ls hl => ?_)
  refine lv_aload_n X.1.1 X.1.2.1 dL_law_335 rfl (lv_at hl 4 rfl) ?_
  refine x_callVi0 X hG hS (c_X10_thrown l t _ _ _ (x_thrown_f u2)) (cwV 0 X.1.2.2.2.2 gL_law_X10_thrown rfl rfl rfl hd_X10_thrown ⟨Nat.le_of_ble_eq_true rfl, Nat.le_of_ble_eq_true rfl⟩) q40.1 q40.2 rfl (by decide) (by rfl) hl.1 (Nat.le_of_ble_eq_true rfl) dL_law_336 ⟨by show cells + 1 ≤ 601024; omega, by show slots + 6 ≤ 7293034; omega⟩ rfl (fun H locs hG hS => ?_)
  rw [e1]
  refine lv_iload X.1.1 X.1.2.1 dL_law_339 (lv_at hl 1 rfl) ?_
  refine lv_icmp_eq (tgt := 346) X.1.1 X.1.2.1 dL_law_341 (by decide) (fun _ => ?_) (fun h => absurd rfl h)
  refine lv_iload X.1.1 X.1.2.1 dL_law_346 (lv_at hl 1 rfl) ?_
  refine x_if_ne (tgt := 363) X hkr dL_law_348 (by decide) (fun _ => ?_) (fun h0 => ?_)
  · refine lv_goto (tgt := 1665) X.1.1 X.1.2.1 dL_law_363 (by decide) ?_
    exact W.widen (k := cells + 13) (n := slots + 1206) (by omega) (by omega) (kk t u2 H locs ls X ht hJ2 hG hS (lv_sub hl [2, 3, 4, 5, 6] rfl))
  · have g0 := hk0 h0
    have er : r2 = r := e2 h0
    have e39 : u2 39 0 = (iI r).toInt := by rw [e3, ← hw]; exact w39_s g0
    refine lv_aload_n X.1.1 X.1.2.1 dL_law_351 rfl (lv_at hl 3 rfl) ?_
    refine x_iconst X dL_law_352 ?_
    refine x_lald X hG q39.1 q39.2.1 q39.2.2 (by decide) (by decide) dL_law_353 ?_
    rw [e39]
    refine lv_iload X.1.1 X.1.2.1 dL_law_354 (lv_at hl 0 rfl) ?_
    rw [er]
    rw [← iI_x (iI r)]
    have ev : ((iI ((iI r).toInt)).toInt) = (iI r).toInt := by rw [iI_x]
    rw [ev]
    have eL : InL (iI r).toInt := ⟨by have := (inR_x (iI r)).1; omega, by have := (inR_x (iI r)).2; omega⟩
    refine x_i2l X (inR_x _) dL_law_356 ?_
    refine x_lcmp X eL eL dL_law_357 ?_
    rw [cmpL_self]
    refine x_if_eq (tgt := 363) X (by decide) dL_law_358 (by decide) (fun _ => ?_) (fun h => absurd rfl h)
    refine lv_goto (tgt := 1665) X.1.1 X.1.2.1 dL_law_363 (by decide) ?_
    exact W.widen (k := cells + 13) (n := slots + 1206) (by omega) (by omega) (kk t u2 H locs ls X ht hJ2 hG hS (lv_sub hl [2, 3, 4, 5, 6] rfl))
set_option maxRecDepth 100000 in
set_option maxHeartbeats 8000000 in
theorem lc_4 : lC p l e s m below meth c b L xs Q 366 := by
  intro t u i H locs ls cells slots X hN hX hbl ht hL hfl hJ hG hS hl hi hc hs kk
  have q0 : 0 < NN ∧ sT 0 = 13 := by decide
  have q40 : 40 < NN ∧ sT 40 = 14 := by decide
  have q39 : 39 < NN ∧ sT 39 = 103 ∧ sN 39 = 1 := by decide
  replace hl : lv_has ls 7 [(4, .int (iI i)), (3, .ref (t.2.2.1 39)), (2, .ref (t.2.2.1 40)), (1, .ref (t.2.2.1 0)), (0, .ref b)] := hl
  obtain ⟨⟨r, u1⟩, hf, ⟨r2, u2⟩, hm, e1, e2, hJ2⟩ := jTick hJ 
  dsimp only at hm e1 e2 hJ2
  subst e1
  refine lv_aload_n X.1.1 X.1.2.1 dL_law_366 rfl (lv_at hl 3 rfl) ?_
  refine x_callVi0 X hG hS (c_X9_tick l t  _ _ _ hf) (cwV 0 X.1.2.2.2.2 gL_law_X9_tick rfl rfl rfl hd_X9_tick ⟨Nat.le_of_ble_eq_true rfl, Nat.le_of_ble_eq_true rfl⟩) q0.1 q0.2 rfl (by decide) (by rfl) hl.1 (Nat.le_of_ble_eq_true rfl) dL_law_367 ⟨by show cells ≤ 601024; omega, by show slots ≤ 7293034; omega⟩ rfl (fun H locs hG hS => ?_)
  refine lv_aload_n X.1.1 X.1.2.1 dL_law_370 rfl (lv_at hl 2 rfl) ?_
  refine x_callVi0 X hG hS (c_X10_tick l t  _ _ _ hm) (cwV 0 X.1.2.2.2.2 gL_law_X10_tick rfl rfl rfl hd_X10_tick ⟨Nat.le_of_ble_eq_true rfl, Nat.le_of_ble_eq_true rfl⟩) q40.1 q40.2 rfl (by decide) (by rfl) hl.1 (Nat.le_of_ble_eq_true rfl) dL_law_371 ⟨by show cells ≤ 601024; omega, by show slots ≤ 7293034; omega⟩ rfl (fun H locs hG hS => ?_)
  refine lv_icmp_eq (tgt := 1665) X.1.1 X.1.2.1 dL_law_374 (by decide) (fun _ => ?_) (fun h => absurd rfl h)
  exact W.widen (k := cells + 13) (n := slots + 1206) (by omega) (by omega) (kk t u2 H locs ls X ht hJ2 hG hS hl)
set_option maxRecDepth 100000 in
set_option maxHeartbeats 8000000 in
theorem lc_5 : lC p l e s m below meth c b L xs Q 379 := by
  intro t u i H locs ls cells slots X hN hX hbl ht hL hfl hJ hG hS hl hi hc hs kk
  have q0 : 0 < NN ∧ sT 0 = 13 := by decide
  have q40 : 40 < NN ∧ sT 40 = 14 := by decide
  have q39 : 39 < NN ∧ sT 39 = 103 ∧ sN 39 = 1 := by decide
  replace hl : lv_has ls 7 [(4, .int (iI i)), (3, .ref (t.2.2.1 39)), (2, .ref (t.2.2.1 40)), (1, .ref (t.2.2.1 0)), (0, .ref b)] := hl
  obtain ⟨⟨g, r, u1⟩, hf, k, hok, hm⟩ := jBetween hJ sv_r sv_r
  dsimp only at hok hm
  obtain ⟨hg, hk, hkr, hk0⟩ := okI_x hok
  refine lv_aload_n X.1.1 X.1.2.1 dL_law_379 rfl (lv_at hl 3 rfl) ?_
  refine lv_aload_n X.1.1 X.1.2.1 dL_law_380 rfl (lv_at hl 4 rfl) ?_
  refine lv_iload X.1.1 X.1.2.1 dL_law_381 (lv_at hl 0 rfl) ?_
  refine x_iconst X dL_law_383 ?_
  refine x_iadd X dL_law_384 ?_
  refine x_sld X hX hbl ht hS ⟨by omega, by omega⟩ hL dL_law_385 ?_
  refine lv_aload_n X.1.1 X.1.2.1 dL_law_386 rfl (lv_at hl 4 rfl) ?_
  refine lv_iload X.1.1 X.1.2.1 dL_law_387 (lv_at hl 0 rfl) ?_
  refine x_iconst X dL_law_389 ?_
  refine x_iadd X dL_law_390 ?_
  refine x_sld X hX hbl ht hS ⟨by omega, by omega⟩ hL dL_law_391 ?_
  refine lv_aload_n X.1.1 X.1.2.1 dL_law_392 rfl (lv_at hl 1 rfl) ?_
  refine x_callWi X hN hG hS (c_L_between l hfl t (sv xs (i + 1)) (sv xs (i + 2)) u g r u1 hf hg) (vx_cwSW 4 X.1.2.2.2.2 gL_law_L_between rfl rfl rfl hdL_between ⟨Nat.le_of_ble_eq_true rfl, Nat.le_of_ble_eq_true rfl⟩) (by rfl) hl.1 (Nat.le_of_ble_eq_true rfl) dL_law_393 ⟨by show cells + 2 ≤ 601024; omega, by show slots + 12 ≤ 7293034; omega⟩ rfl (fun H locs hG hS => ?_)
  rw [hk]
  generalize hw : (if g = 0 then up u1 39 0 (iI r).toInt else u1) = w at hG
  obtain ⟨⟨r2, u2⟩, hm2, e1, e2, e3, hJ2⟩ := hm w (fun d hd => by rw [← hw]; exact w39_o d hd)
  dsimp only at hm2 e1 e2 e3 hJ2
  refine lv_istore (lv' := [(5, .int (iI k)), (4, .int (iI i)), (3, .ref (t.2.2.1 39)), (2, .ref (t.2.2.1 40)), (1, .ref (t.2.2.1 0)), (0, .ref b)]) X.1.1 X.1.2.1 dL_law_396 hl (by decide) rfl (fun ls hl => ?_)
  refine lv_aload_n X.1.1 X.1.2.1 dL_law_398 rfl (lv_at hl 3 rfl) ?_
  refine lv_aload_n X.1.1 X.1.2.1 dL_law_399 rfl (lv_at hl 5 rfl) ?_
  refine lv_iload X.1.1 X.1.2.1 dL_law_400 (lv_at hl 1 rfl) ?_
  refine x_iconst X dL_law_402 ?_
  refine x_iadd X dL_law_403 ?_
  refine x_sld X hX hbl ht hS ⟨by omega, by omega⟩ hL dL_law_404 ?_
  refine lv_aload_n X.1.1 X.1.2.1 dL_law_405 rfl (lv_at hl 5 rfl) ?_
  refine lv_iload X.1.1 X.1.2.1 dL_law_406 (lv_at hl 1 rfl) ?_
  refine x_iconst X dL_law_408 ?_
  refine x_iadd X dL_law_409 ?_
  refine x_sld X hX hbl ht hS ⟨by omega, by omega⟩ hL dL_law_410 ?_
  refine x_callVi0 X hG hS (c_X10_between l t (sv xs (i + 1)) (sv xs (i + 2)) _ _ _ hm2) (cwV 2 X.1.2.2.2.2 gL_law_X10_between rfl rfl rfl hd_X10_between ⟨Nat.le_of_ble_eq_true rfl, Nat.le_of_ble_eq_true rfl⟩) q40.1 q40.2 rfl (by decide) (by rfl) hl.1 (Nat.le_of_ble_eq_true rfl) dL_law_411 ⟨by show cells + 2 ≤ 601024; omega, by show slots + 12 ≤ 7293034; omega⟩ rfl (fun H locs hG hS => ?_)
  refine lv_istore (lv' := [(6, .int (iI r2)), (5, .int (iI k)), (4, .int (iI i)), (3, .ref (t.2.2.1 39)), (2, .ref (t.2.2.1 40)), (1, .ref (t.2.2.1 0)), (0, .ref b)]) X.1.1 X.1.2.1 dL_law_414 hl (by decide) rfl (fun ls hl => ?_)
  refine lv_aload_n X.1.1 X.1.2.1 dL_law_416 rfl (lv_at hl 4 rfl) ?_
  refine x_callVi0 X hG hS (c_X10_thrown l t _ _ _ (x_thrown_f u2)) (cwV 0 X.1.2.2.2.2 gL_law_X10_thrown rfl rfl rfl hd_X10_thrown ⟨Nat.le_of_ble_eq_true rfl, Nat.le_of_ble_eq_true rfl⟩) q40.1 q40.2 rfl (by decide) (by rfl) hl.1 (Nat.le_of_ble_eq_true rfl) dL_law_417 ⟨by show cells + 2 ≤ 601024; omega, by show slots + 12 ≤ 7293034; omega⟩ rfl (fun H locs hG hS => ?_)
  rw [e1]
  refine lv_iload X.1.1 X.1.2.1 dL_law_420 (lv_at hl 1 rfl) ?_
  refine lv_icmp_eq (tgt := 427) X.1.1 X.1.2.1 dL_law_422 (by decide) (fun _ => ?_) (fun h => absurd rfl h)
  refine lv_iload X.1.1 X.1.2.1 dL_law_427 (lv_at hl 1 rfl) ?_
  refine x_if_ne (tgt := 444) X hkr dL_law_429 (by decide) (fun _ => ?_) (fun h0 => ?_)
  · refine lv_goto (tgt := 1665) X.1.1 X.1.2.1 dL_law_444 (by decide) ?_
    exact W.widen (k := cells + 13) (n := slots + 1206) (by omega) (by omega) (kk t u2 H locs ls X ht hJ2 hG hS (lv_sub hl [2, 3, 4, 5, 6] rfl))
  · have g0 := hk0 h0
    have er : r2 = r := e2 h0
    have e39 : u2 39 0 = (iI r).toInt := by rw [e3, ← hw]; exact w39_s g0
    refine lv_aload_n X.1.1 X.1.2.1 dL_law_432 rfl (lv_at hl 3 rfl) ?_
    refine x_iconst X dL_law_433 ?_
    refine x_lald X hG q39.1 q39.2.1 q39.2.2 (by decide) (by decide) dL_law_434 ?_
    rw [e39]
    refine lv_iload X.1.1 X.1.2.1 dL_law_435 (lv_at hl 0 rfl) ?_
    rw [er]
    rw [← iI_x (iI r)]
    have ev : ((iI ((iI r).toInt)).toInt) = (iI r).toInt := by rw [iI_x]
    rw [ev]
    have eL : InL (iI r).toInt := ⟨by have := (inR_x (iI r)).1; omega, by have := (inR_x (iI r)).2; omega⟩
    refine x_i2l X (inR_x _) dL_law_437 ?_
    refine x_lcmp X eL eL dL_law_438 ?_
    rw [cmpL_self]
    refine x_if_eq (tgt := 444) X (by decide) dL_law_439 (by decide) (fun _ => ?_) (fun h => absurd rfl h)
    refine lv_goto (tgt := 1665) X.1.1 X.1.2.1 dL_law_444 (by decide) ?_
    exact W.widen (k := cells + 13) (n := slots + 1206) (by omega) (by omega) (kk t u2 H locs ls X ht hJ2 hG hS (lv_sub hl [2, 3, 4, 5, 6] rfl))
set_option maxRecDepth 100000 in
set_option maxHeartbeats 8000000 in
theorem lc_6 : lC p l e s m below meth c b L xs Q 447 := by
  intro t u i H locs ls cells slots X hN hX hbl ht hL hfl hJ hG hS hl hi hc hs kk
  have q0 : 0 < NN ∧ sT 0 = 13 := by decide
  have q40 : 40 < NN ∧ sT 40 = 14 := by decide
  have q39 : 39 < NN ∧ sT 39 = 103 ∧ sN 39 = 1 := by decide
  replace hl : lv_has ls 7 [(4, .int (iI i)), (3, .ref (t.2.2.1 39)), (2, .ref (t.2.2.1 40)), (1, .ref (t.2.2.1 0)), (0, .ref b)] := hl
  obtain ⟨⟨g, r, u1⟩, hf, k, hok, hm⟩ := jTravel hJ sv_r sv_r
  dsimp only at hok hm
  obtain ⟨hg, hk, hkr, hk0⟩ := okI_x hok
  refine lv_aload_n X.1.1 X.1.2.1 dL_law_447 rfl (lv_at hl 3 rfl) ?_
  refine lv_aload_n X.1.1 X.1.2.1 dL_law_448 rfl (lv_at hl 4 rfl) ?_
  refine lv_iload X.1.1 X.1.2.1 dL_law_449 (lv_at hl 0 rfl) ?_
  refine x_iconst X dL_law_451 ?_
  refine x_iadd X dL_law_452 ?_
  refine x_sld X hX hbl ht hS ⟨by omega, by omega⟩ hL dL_law_453 ?_
  refine lv_aload_n X.1.1 X.1.2.1 dL_law_454 rfl (lv_at hl 4 rfl) ?_
  refine lv_iload X.1.1 X.1.2.1 dL_law_455 (lv_at hl 0 rfl) ?_
  refine x_iconst X dL_law_457 ?_
  refine x_iadd X dL_law_458 ?_
  refine x_sld X hX hbl ht hS ⟨by omega, by omega⟩ hL dL_law_459 ?_
  refine lv_aload_n X.1.1 X.1.2.1 dL_law_460 rfl (lv_at hl 1 rfl) ?_
  refine x_callWi X hN hG hS (c_L_travel l hfl t (sv xs (i + 1)) (sv xs (i + 2)) u g r u1 hf hg) (vx_cwSW 4 X.1.2.2.2.2 gL_law_L_travel rfl rfl rfl hdL_travel ⟨Nat.le_of_ble_eq_true rfl, Nat.le_of_ble_eq_true rfl⟩) (by rfl) hl.1 (Nat.le_of_ble_eq_true rfl) dL_law_461 ⟨by show cells + 2 ≤ 601024; omega, by show slots + 12 ≤ 7293034; omega⟩ rfl (fun H locs hG hS => ?_)
  rw [hk]
  generalize hw : (if g = 0 then up u1 39 0 (iI r).toInt else u1) = w at hG
  obtain ⟨⟨r2, u2⟩, hm2, e1, e2, e3, hJ2⟩ := hm w (fun d hd => by rw [← hw]; exact w39_o d hd)
  dsimp only at hm2 e1 e2 e3 hJ2
  refine lv_istore (lv' := [(5, .int (iI k)), (4, .int (iI i)), (3, .ref (t.2.2.1 39)), (2, .ref (t.2.2.1 40)), (1, .ref (t.2.2.1 0)), (0, .ref b)]) X.1.1 X.1.2.1 dL_law_464 hl (by decide) rfl (fun ls hl => ?_)
  refine lv_aload_n X.1.1 X.1.2.1 dL_law_466 rfl (lv_at hl 3 rfl) ?_
  refine lv_aload_n X.1.1 X.1.2.1 dL_law_467 rfl (lv_at hl 5 rfl) ?_
  refine lv_iload X.1.1 X.1.2.1 dL_law_468 (lv_at hl 1 rfl) ?_
  refine x_iconst X dL_law_470 ?_
  refine x_iadd X dL_law_471 ?_
  refine x_sld X hX hbl ht hS ⟨by omega, by omega⟩ hL dL_law_472 ?_
  refine lv_aload_n X.1.1 X.1.2.1 dL_law_473 rfl (lv_at hl 5 rfl) ?_
  refine lv_iload X.1.1 X.1.2.1 dL_law_474 (lv_at hl 1 rfl) ?_
  refine x_iconst X dL_law_476 ?_
  refine x_iadd X dL_law_477 ?_
  refine x_sld X hX hbl ht hS ⟨by omega, by omega⟩ hL dL_law_478 ?_
  refine x_callVi0 X hG hS (c_X10_travel l t (sv xs (i + 1)) (sv xs (i + 2)) _ _ _ hm2) (cwV 2 X.1.2.2.2.2 gL_law_X10_travel rfl rfl rfl hd_X10_travel ⟨Nat.le_of_ble_eq_true rfl, Nat.le_of_ble_eq_true rfl⟩) q40.1 q40.2 rfl (by decide) (by rfl) hl.1 (Nat.le_of_ble_eq_true rfl) dL_law_479 ⟨by show cells + 2 ≤ 601024; omega, by show slots + 12 ≤ 7293034; omega⟩ rfl (fun H locs hG hS => ?_)
  refine lv_istore (lv' := [(6, .int (iI r2)), (5, .int (iI k)), (4, .int (iI i)), (3, .ref (t.2.2.1 39)), (2, .ref (t.2.2.1 40)), (1, .ref (t.2.2.1 0)), (0, .ref b)]) X.1.1 X.1.2.1 dL_law_482 hl (by decide) rfl (fun ls hl => ?_)
  refine lv_aload_n X.1.1 X.1.2.1 dL_law_484 rfl (lv_at hl 4 rfl) ?_
  refine x_callVi0 X hG hS (c_X10_thrown l t _ _ _ (x_thrown_f u2)) (cwV 0 X.1.2.2.2.2 gL_law_X10_thrown rfl rfl rfl hd_X10_thrown ⟨Nat.le_of_ble_eq_true rfl, Nat.le_of_ble_eq_true rfl⟩) q40.1 q40.2 rfl (by decide) (by rfl) hl.1 (Nat.le_of_ble_eq_true rfl) dL_law_485 ⟨by show cells + 2 ≤ 601024; omega, by show slots + 12 ≤ 7293034; omega⟩ rfl (fun H locs hG hS => ?_)
  rw [e1]
  refine lv_iload X.1.1 X.1.2.1 dL_law_488 (lv_at hl 1 rfl) ?_
  refine lv_icmp_eq (tgt := 495) X.1.1 X.1.2.1 dL_law_490 (by decide) (fun _ => ?_) (fun h => absurd rfl h)
  refine lv_iload X.1.1 X.1.2.1 dL_law_495 (lv_at hl 1 rfl) ?_
  refine x_if_ne (tgt := 512) X hkr dL_law_497 (by decide) (fun _ => ?_) (fun h0 => ?_)
  · refine lv_goto (tgt := 1665) X.1.1 X.1.2.1 dL_law_512 (by decide) ?_
    exact W.widen (k := cells + 13) (n := slots + 1206) (by omega) (by omega) (kk t u2 H locs ls X ht hJ2 hG hS (lv_sub hl [2, 3, 4, 5, 6] rfl))
  · have g0 := hk0 h0
    have er : r2 = r := e2 h0
    have e39 : u2 39 0 = (iI r).toInt := by rw [e3, ← hw]; exact w39_s g0
    refine lv_aload_n X.1.1 X.1.2.1 dL_law_500 rfl (lv_at hl 3 rfl) ?_
    refine x_iconst X dL_law_501 ?_
    refine x_lald X hG q39.1 q39.2.1 q39.2.2 (by decide) (by decide) dL_law_502 ?_
    rw [e39]
    refine lv_iload X.1.1 X.1.2.1 dL_law_503 (lv_at hl 0 rfl) ?_
    rw [er]
    rw [← iI_x (iI r)]
    have ev : ((iI ((iI r).toInt)).toInt) = (iI r).toInt := by rw [iI_x]
    rw [ev]
    have eL : InL (iI r).toInt := ⟨by have := (inR_x (iI r)).1; omega, by have := (inR_x (iI r)).2; omega⟩
    refine x_i2l X (inR_x _) dL_law_505 ?_
    refine x_lcmp X eL eL dL_law_506 ?_
    rw [cmpL_self]
    refine x_if_eq (tgt := 512) X (by decide) dL_law_507 (by decide) (fun _ => ?_) (fun h => absurd rfl h)
    refine lv_goto (tgt := 1665) X.1.1 X.1.2.1 dL_law_512 (by decide) ?_
    exact W.widen (k := cells + 13) (n := slots + 1206) (by omega) (by omega) (kk t u2 H locs ls X ht hJ2 hG hS (lv_sub hl [2, 3, 4, 5, 6] rfl))
end LL0
