abbrev rL_net : Room := { frames := 6, cells := 115, slots := 56828, locals := 200 }
set_option maxRecDepth 100000 in
set_option maxHeartbeats 8000000 in
theorem c_L_net (l : Launch) (t0 : gP) (u : uS) (r : Int) (u' : uS) (h : f_L_net u = some (r, u')) (aq357 : al t0 357) : xMra 38 264 291 l yL_net wsL_net rL_net t0 [.ref (t0.2.2.1 37), .ref (t0.2.2.1 357)] u r u' 115 56828 := by
  refine x_ofWra (cc := cL_net) (maxL := 4) (rt := (.object "TriggerNetworkLaw$Net")) (own := RL) (Or.inl ⟨_, rfl⟩) (by decide) rfl rfl (Nat.le_of_ble_eq_true rfl) ?_
  intro p e s m args below meth c Q X0 hret H locs ls hG hS hl
  replace hl : lv_has ls 4 [(0, .ref (t0.2.2.1 37)), (1, .ref (t0.2.2.1 357))] := hl
  have q37 : 37 < NN ∧ sT 37 = 1 := by decide
  have iX10 : ∀ w ∈ wsX100, w ∈ wsL_net := by decide +kernel
  have iX12 : ∀ w ∈ wsX120, w ∈ wsL_net := by decide +kernel
  have q357 : al t0 357 ∧ sT 357 = 100 ∧ sN 357 = 1 := ⟨aq357, by decide +kernel, by decide +kernel⟩
  obtain ⟨t, ht, hT⟩ : ∃ t, t0 = t ∧ ag 38 264 291 t0 t := ⟨t0, rfl, ag.rf⟩
  have X := X0.ag hT (by decide)
  rw [ht] at hG hS hl
  clear ht
  unfold f_L_net at h
  obtain ⟨g1, h⟩ := xgd_of h
  refine mk_Net X hG hS hl.1 g1 ⟨by decide, by decide⟩ (kk := fun t' H locs hag f2 hG hS => ?_)
  obtain ⟨u3, eu3, h⟩ := xlet_of h
  replace hG : G t' u3 H := by rw [eu3]; exact hG
  rw [← hag.at (k := 37) (by decide), ← hag.at (k := 357) (by decide)] at hl
  replace X := X.ag hag (by decide)
  replace hT : ag 38 264 291 t0 t' := hT.tr hag (by decide)
  clear hag
  obtain ⟨t, rfl⟩ : ∃ z, z = t' := ⟨_, rfl⟩
  have f4 : al t 264 ∧ sT 264 = 14 := ⟨f2, by decide +kernel⟩
  refine lv_astore_n (lv' := [(2, .ref (t.2.2.1 264)), (0, .ref (t.2.2.1 37)), (1, .ref (t.2.2.1 357))]) X.1.1 X.1.2.1 dL_net_7 rfl hl (by decide) rfl (fun ls hl => ?_)
  refine lv_aload_n X.1.1 X.1.2.1 dL_net_8 rfl (lv_at hl 0 rfl) ?_
  refine x_iconst X dL_net_9 ?_
  refine lv_aload_n X.1.1 X.1.2.1 dL_net_10 rfl (lv_at hl 2 rfl) ?_
  refine x_bipush X dL_net_11 (by decide) ?_
  obtain ⟨v5, u6, hf, h⟩ := xbd_of h
  refine x_callSi0 X hG hS (c_L_draw l t _ _ _ _ hf (hT.fk (by decide) q357).1) (va_cwS 2 X.1.2.2.2.2 gL_net_L_draw rfl rfl rfl hds_L_draw ⟨Nat.le_of_ble_eq_true rfl, Nat.le_of_ble_eq_true rfl⟩) (by rfl) hl.1 (Nat.le_of_ble_eq_true rfl) dL_net_13 ⟨by decide, by decide⟩ rfl (fun H locs hG hS => ?_)
  refine x_iadd X dL_net_16 ?_
  refine yN_puti X hG hS 14 6 264 6 _ tyX10 tyX10_ok nmX10 (inC := iX10) rfl f4.1 f4.2 ⟨by decide, by decide, by decide, rfl, rfl⟩ rfl (by decide +kernel) (x_m 0 rfl) dL_net_17 (fun H locs hG hS => ?_)
  obtain ⟨u7, eu7, h⟩ := xlet_of h
  replace hG : G t u7 H := by rw [eu7]; exact hG
  refine x_iconst X dL_net_20 ?_
  refine lv_istore_n (lv' := [(3, .int (iI 0)), (2, .ref (t.2.2.1 264)), (0, .ref (t.2.2.1 37)), (1, .ref (t.2.2.1 357))]) X.1.1 X.1.2.1 dL_net_21 rfl hl (by decide) rfl (fun ls hl => ?_)
  obtain ⟨j8, ej8, h⟩ := xlet_of h
  have Jj8 : ∀ (t : gP) (hT : ag 38 264 291 t0 t) (f10 : al t 264 ∧ sT 264 = 14) (u9 : uS), j8 u9 = some (r, u') → xG p l e rL_net s m args below meth c t Q 4 63 27404 122 u9 [(0, .ref (t.2.2.1 37)), (1, .ref (t.2.2.1 357)), (2, .ref (t.2.2.1 264))] [] := by
      intro t hT f10 u9 h H locs ls hG hS hl
      replace X := X0.ag hT (by decide)
      replace h := (congrFun ej8 u9).symm.trans h
      refine lv_aload_n X.1.1 X.1.2.1 dL_net_122 rfl (lv_at hl 2 rfl) ?_
      refine lv_aload_n X.1.1 X.1.2.1 dL_net_123 rfl (lv_at hl 1 rfl) ?_
      refine x_bipush X dL_net_124 (by decide) ?_
      obtain ⟨v11, u12, hf, h⟩ := xbd_of h
      refine x_callSi0 X hG hS (c_L_draw l t _ _ _ _ hf (hT.fk (by decide) q357).1) (va_cwS 2 X.1.2.2.2.2 gL_net_L_draw rfl rfl rfl hds_L_draw ⟨Nat.le_of_ble_eq_true rfl, Nat.le_of_ble_eq_true rfl⟩) (by rfl) hl.1 (Nat.le_of_ble_eq_true rfl) dL_net_126 ⟨by decide, by decide⟩ rfl (fun H locs hG hS => ?_)
      refine yN_puti X hG hS 14 11 264 11 _ tyX10 tyX10_ok nmX10 (inC := iX10) rfl f10.1 f10.2 ⟨by decide, by decide, by decide, rfl, rfl⟩ rfl (by decide +kernel) (x_m 4 rfl) dL_net_129 (fun H locs hG hS => ?_)
      obtain ⟨u13, eu13, h⟩ := xlet_of h
      replace hG : G t u13 H := by rw [eu13]; exact hG
      refine lv_aload_n X.1.1 X.1.2.1 dL_net_132 rfl (lv_at hl 2 rfl) ?_
      refine lv_aload_n X.1.1 X.1.2.1 dL_net_133 rfl (lv_at hl 1 rfl) ?_
      refine x_bipush X dL_net_134 (by decide) ?_
      obtain ⟨v14, u15, hf, h⟩ := xbd_of h
      refine x_callSi0 X hG hS (c_L_draw l t _ _ _ _ hf (hT.fk (by decide) q357).1) (va_cwS 2 X.1.2.2.2.2 gL_net_L_draw rfl rfl rfl hds_L_draw ⟨Nat.le_of_ble_eq_true rfl, Nat.le_of_ble_eq_true rfl⟩) (by rfl) hl.1 (Nat.le_of_ble_eq_true rfl) dL_net_136 ⟨by decide, by decide⟩ rfl (fun H locs hG hS => ?_)
      refine yN_puti X hG hS 14 12 264 12 _ tyX10 tyX10_ok nmX10 (inC := iX10) rfl f10.1 f10.2 ⟨by decide, by decide, by decide, rfl, rfl⟩ rfl (by decide +kernel) (x_m 5 rfl) dL_net_139 (fun H locs hG hS => ?_)
      obtain ⟨u16, eu16, h⟩ := xlet_of h
      replace hG : G t u16 H := by rw [eu16]; exact hG
      refine lv_aload_n X.1.1 X.1.2.1 dL_net_142 rfl (lv_at hl 2 rfl) ?_
      refine x_iconst X dL_net_143 ?_
      refine lv_aload_n X.1.1 X.1.2.1 dL_net_144 rfl (lv_at hl 1 rfl) ?_
      refine x_iconst X dL_net_145 ?_
      obtain ⟨v17, u18, hf, h⟩ := xbd_of h
      refine x_callSi0 X hG hS (c_L_draw l t _ _ _ _ hf (hT.fk (by decide) q357).1) (va_cwS 2 X.1.2.2.2.2 gL_net_L_draw rfl rfl rfl hds_L_draw ⟨Nat.le_of_ble_eq_true rfl, Nat.le_of_ble_eq_true rfl⟩) (by rfl) hl.1 (Nat.le_of_ble_eq_true rfl) dL_net_146 ⟨by decide, by decide⟩ rfl (fun H locs hG hS => ?_)
      refine x_iadd X dL_net_149 ?_
      refine yN_puti X hG hS 14 13 264 13 _ tyX10 tyX10_ok nmX10 (inC := iX10) rfl f10.1 f10.2 ⟨by decide, by decide, by decide, rfl, rfl⟩ rfl (by decide +kernel) (x_m 6 rfl) dL_net_150 (fun H locs hG hS => ?_)
      obtain ⟨u19, eu19, h⟩ := xlet_of h
      replace hG : G t u19 H := by rw [eu19]; exact hG
      refine lv_aload_n X.1.1 X.1.2.1 dL_net_153 rfl (lv_at hl 2 rfl) ?_
      refine x_iconst X dL_net_154 ?_
      refine lv_aload_n X.1.1 X.1.2.1 dL_net_155 rfl (lv_at hl 1 rfl) ?_
      refine x_iconst X dL_net_156 ?_
      obtain ⟨v20, u21, hf, h⟩ := xbd_of h
      refine x_callSi0 X hG hS (c_L_draw l t _ _ _ _ hf (hT.fk (by decide) q357).1) (va_cwS 2 X.1.2.2.2.2 gL_net_L_draw rfl rfl rfl hds_L_draw ⟨Nat.le_of_ble_eq_true rfl, Nat.le_of_ble_eq_true rfl⟩) (by rfl) hl.1 (Nat.le_of_ble_eq_true rfl) dL_net_157 ⟨by decide, by decide⟩ rfl (fun H locs hG hS => ?_)
      refine x_iadd X dL_net_160 ?_
      refine yN_puti X hG hS 14 14 264 14 _ tyX10 tyX10_ok nmX10 (inC := iX10) rfl f10.1 f10.2 ⟨by decide, by decide, by decide, rfl, rfl⟩ rfl (by decide +kernel) (x_m 7 rfl) dL_net_161 (fun H locs hG hS => ?_)
      obtain ⟨u22, eu22, h⟩ := xlet_of h
      replace hG : G t u22 H := by rw [eu22]; exact hG
      refine lv_aload_n X.1.1 X.1.2.1 dL_net_164 rfl (lv_at hl 2 rfl) ?_
      refine x_iconst X dL_net_165 ?_
      refine lv_aload_n X.1.1 X.1.2.1 dL_net_166 rfl (lv_at hl 1 rfl) ?_
      refine x_bipush X dL_net_167 (by decide) ?_
      obtain ⟨v23, u24, hf, h⟩ := xbd_of h
      refine x_callSi0 X hG hS (c_L_draw l t _ _ _ _ hf (hT.fk (by decide) q357).1) (va_cwS 2 X.1.2.2.2.2 gL_net_L_draw rfl rfl rfl hds_L_draw ⟨Nat.le_of_ble_eq_true rfl, Nat.le_of_ble_eq_true rfl⟩) (by rfl) hl.1 (Nat.le_of_ble_eq_true rfl) dL_net_169 ⟨by decide, by decide⟩ rfl (fun H locs hG hS => ?_)
      refine x_iadd X dL_net_172 ?_
      refine yN_puti X hG hS 14 15 264 15 _ tyX10 tyX10_ok nmX10 (inC := iX10) rfl f10.1 f10.2 ⟨by decide, by decide, by decide, rfl, rfl⟩ rfl (by decide +kernel) (x_m 8 rfl) dL_net_173 (fun H locs hG hS => ?_)
      obtain ⟨u25, eu25, h⟩ := xlet_of h
      replace hG : G t u25 H := by rw [eu25]; exact hG
      refine lv_aload_n X.1.1 X.1.2.1 dL_net_176 rfl (lv_at hl 2 rfl) ?_
      refine x_iconst X dL_net_177 ?_
      refine lv_aload_n X.1.1 X.1.2.1 dL_net_178 rfl (lv_at hl 1 rfl) ?_
      refine x_sipush X dL_net_179 (by decide) ?_
      obtain ⟨v26, u27, hf, h⟩ := xbd_of h
      refine x_callSi0 X hG hS (c_L_draw l t _ _ _ _ hf (hT.fk (by decide) q357).1) (va_cwS 2 X.1.2.2.2.2 gL_net_L_draw rfl rfl rfl hds_L_draw ⟨Nat.le_of_ble_eq_true rfl, Nat.le_of_ble_eq_true rfl⟩) (by rfl) hl.1 (Nat.le_of_ble_eq_true rfl) dL_net_182 ⟨by decide, by decide⟩ rfl (fun H locs hG hS => ?_)
      refine x_iadd X dL_net_185 ?_
      refine yN_puti X hG hS 14 16 264 16 _ tyX10 tyX10_ok nmX10 (inC := iX10) rfl f10.1 f10.2 ⟨by decide, by decide, by decide, rfl, rfl⟩ rfl (by decide +kernel) (x_m 9 rfl) dL_net_186 (fun H locs hG hS => ?_)
      obtain ⟨u28, eu28, h⟩ := xlet_of h
      replace hG : G t u28 H := by rw [eu28]; exact hG
      refine lv_aload_n X.1.1 X.1.2.1 dL_net_189 rfl (lv_at hl 2 rfl) ?_
      refine x_iconst X dL_net_190 ?_
      refine lv_aload_n X.1.1 X.1.2.1 dL_net_191 rfl (lv_at hl 1 rfl) ?_
      refine x_iconst X dL_net_192 ?_
      obtain ⟨v29, u30, hf, h⟩ := xbd_of h
      refine x_callSi0 X hG hS (c_L_draw l t _ _ _ _ hf (hT.fk (by decide) q357).1) (va_cwS 2 X.1.2.2.2.2 gL_net_L_draw rfl rfl rfl hds_L_draw ⟨Nat.le_of_ble_eq_true rfl, Nat.le_of_ble_eq_true rfl⟩) (by rfl) hl.1 (Nat.le_of_ble_eq_true rfl) dL_net_193 ⟨by decide, by decide⟩ rfl (fun H locs hG hS => ?_)
      refine x_iadd X dL_net_196 ?_
      refine yN_puti X hG hS 14 17 264 17 _ tyX10 tyX10_ok nmX10 (inC := iX10) rfl f10.1 f10.2 ⟨by decide, by decide, by decide, rfl, rfl⟩ rfl (by decide +kernel) (x_m 10 rfl) dL_net_197 (fun H locs hG hS => ?_)
      obtain ⟨u31, eu31, h⟩ := xlet_of h
      replace hG : G t u31 H := by rw [eu31]; exact hG
      refine lv_aload_n X.1.1 X.1.2.1 dL_net_200 rfl (lv_at hl 2 rfl) ?_
      refine lv_aload_n X.1.1 X.1.2.1 dL_net_201 rfl (lv_at hl 2 rfl) ?_
      refine yN_geti X hG 14 17 264 17 (inC := iX10) rfl f10.1 f10.2 ⟨by decide, by decide, by decide, rfl, rfl⟩ (x_m 10 rfl) dL_net_202 ?_
      refine lv_aload_n X.1.1 X.1.2.1 dL_net_205 rfl (lv_at hl 1 rfl) ?_
      refine x_bipush X dL_net_206 (by decide) ?_
      obtain ⟨v32, u33, hf, h⟩ := xbd_of h
      refine x_callSi0 X hG hS (c_L_draw l t _ _ _ _ hf (hT.fk (by decide) q357).1) (va_cwS 2 X.1.2.2.2.2 gL_net_L_draw rfl rfl rfl hds_L_draw ⟨Nat.le_of_ble_eq_true rfl, Nat.le_of_ble_eq_true rfl⟩) (by rfl) hl.1 (Nat.le_of_ble_eq_true rfl) dL_net_208 ⟨by decide, by decide⟩ rfl (fun H locs hG hS => ?_)
      refine x_iadd X dL_net_211 ?_
      refine yN_puti X hG hS 14 18 264 18 _ tyX10 tyX10_ok nmX10 (inC := iX10) rfl f10.1 f10.2 ⟨by decide, by decide, by decide, rfl, rfl⟩ rfl (by decide +kernel) (x_m 11 rfl) dL_net_212 (fun H locs hG hS => ?_)
      obtain ⟨u34, eu34, h⟩ := xlet_of h
      replace hG : G t u34 H := by rw [eu34]; exact hG
      refine lv_aload_n X.1.1 X.1.2.1 dL_net_215 rfl (lv_at hl 2 rfl) ?_
      refine x_bipush X dL_net_216 (by decide) ?_
      refine lv_aload_n X.1.1 X.1.2.1 dL_net_218 rfl (lv_at hl 1 rfl) ?_
      refine x_sipush X dL_net_219 (by decide) ?_
      obtain ⟨v35, u36, hf, h⟩ := xbd_of h
      refine x_callSi0 X hG hS (c_L_draw l t _ _ _ _ hf (hT.fk (by decide) q357).1) (va_cwS 2 X.1.2.2.2.2 gL_net_L_draw rfl rfl rfl hds_L_draw ⟨Nat.le_of_ble_eq_true rfl, Nat.le_of_ble_eq_true rfl⟩) (by rfl) hl.1 (Nat.le_of_ble_eq_true rfl) dL_net_222 ⟨by decide, by decide⟩ rfl (fun H locs hG hS => ?_)
      refine x_iadd X dL_net_225 ?_
      refine yN_puti X hG hS 14 19 264 19 _ tyX10 tyX10_ok nmX10 (inC := iX10) rfl f10.1 f10.2 ⟨by decide, by decide, by decide, rfl, rfl⟩ rfl (by decide +kernel) (x_m 12 rfl) dL_net_226 (fun H locs hG hS => ?_)
      obtain ⟨u37, eu37, h⟩ := xlet_of h
      replace hG : G t u37 H := by rw [eu37]; exact hG
      refine lv_aload_n X.1.1 X.1.2.1 dL_net_229 rfl (lv_at hl 2 rfl) ?_
      refine lv_aload_n X.1.1 X.1.2.1 dL_net_230 rfl (lv_at hl 1 rfl) ?_
      refine lv_aload_n X.1.1 X.1.2.1 dL_net_231 rfl (lv_at hl 2 rfl) ?_
      refine yN_geti X hG 14 19 264 19 (inC := iX10) rfl f10.1 f10.2 ⟨by decide, by decide, by decide, rfl, rfl⟩ (x_m 12 rfl) dL_net_232 ?_
      refine x_iconst X dL_net_235 ?_
      refine x_iadd X dL_net_236 ?_
      obtain ⟨v38, u39, hf, h⟩ := xbd_of h
      refine x_callSi0 X hG hS (c_L_draw l t _ _ _ _ hf (hT.fk (by decide) q357).1) (va_cwS 2 X.1.2.2.2.2 gL_net_L_draw rfl rfl rfl hds_L_draw ⟨Nat.le_of_ble_eq_true rfl, Nat.le_of_ble_eq_true rfl⟩) (by rfl) hl.1 (Nat.le_of_ble_eq_true rfl) dL_net_237 ⟨by decide, by decide⟩ rfl (fun H locs hG hS => ?_)
      refine yN_puti X hG hS 14 20 264 20 _ tyX10 tyX10_ok nmX10 (inC := iX10) rfl f10.1 f10.2 ⟨by decide, by decide, by decide, rfl, rfl⟩ rfl (by decide +kernel) (x_m 13 rfl) dL_net_240 (fun H locs hG hS => ?_)
      obtain ⟨u40, eu40, h⟩ := xlet_of h
      replace hG : G t u40 H := by rw [eu40]; exact hG
      refine lv_aload_n X.1.1 X.1.2.1 dL_net_243 rfl (lv_at hl 2 rfl) ?_
      refine x_iconst X dL_net_244 ?_
      refine lv_aload_n X.1.1 X.1.2.1 dL_net_245 rfl (lv_at hl 1 rfl) ?_
      refine x_iconst X dL_net_246 ?_
      obtain ⟨v41, u42, hf, h⟩ := xbd_of h
      refine x_callSi0 X hG hS (c_L_draw l t _ _ _ _ hf (hT.fk (by decide) q357).1) (va_cwS 2 X.1.2.2.2.2 gL_net_L_draw rfl rfl rfl hds_L_draw ⟨Nat.le_of_ble_eq_true rfl, Nat.le_of_ble_eq_true rfl⟩) (by rfl) hl.1 (Nat.le_of_ble_eq_true rfl) dL_net_247 ⟨by decide, by decide⟩ rfl (fun H locs hG hS => ?_)
      refine x_iadd X dL_net_250 ?_
      refine yN_puti X hG hS 14 21 264 21 _ tyX10 tyX10_ok nmX10 (inC := iX10) rfl f10.1 f10.2 ⟨by decide, by decide, by decide, rfl, rfl⟩ rfl (by decide +kernel) (x_m 14 rfl) dL_net_251 (fun H locs hG hS => ?_)
      obtain ⟨u43, eu43, h⟩ := xlet_of h
      replace hG : G t u43 H := by rw [eu43]; exact hG
      refine lv_aload_n X.1.1 X.1.2.1 dL_net_254 rfl (lv_at hl 2 rfl) ?_
      refine lv_aload_n X.1.1 X.1.2.1 dL_net_255 rfl (lv_at hl 1 rfl) ?_
      refine x_bipush X dL_net_256 (by decide) ?_
      obtain ⟨v44, u45, hf, h⟩ := xbd_of h
      refine x_callSi0 X hG hS (c_L_draw l t _ _ _ _ hf (hT.fk (by decide) q357).1) (va_cwS 2 X.1.2.2.2.2 gL_net_L_draw rfl rfl rfl hds_L_draw ⟨Nat.le_of_ble_eq_true rfl, Nat.le_of_ble_eq_true rfl⟩) (by rfl) hl.1 (Nat.le_of_ble_eq_true rfl) dL_net_258 ⟨by decide, by decide⟩ rfl (fun H locs hG hS => ?_)
      refine yN_puti X hG hS 14 22 264 22 _ tyX10 tyX10_ok nmX10 (inC := iX10) rfl f10.1 f10.2 ⟨by decide, by decide, by decide, rfl, rfl⟩ rfl (by decide +kernel) (x_m 15 rfl) dL_net_261 (fun H locs hG hS => ?_)
      obtain ⟨u46, eu46, h⟩ := xlet_of h
      replace hG : G t u46 H := by rw [eu46]; exact hG
      refine lv_aload_n X.1.1 X.1.2.1 dL_net_264 rfl (lv_at hl 2 rfl) ?_
      refine lv_aload_n X.1.1 X.1.2.1 dL_net_265 rfl (lv_at hl 1 rfl) ?_
      refine x_iconst X dL_net_266 ?_
      obtain ⟨v47, u48, hf, h⟩ := xbd_of h
      refine x_callSi0 X hG hS (c_L_draw l t _ _ _ _ hf (hT.fk (by decide) q357).1) (va_cwS 2 X.1.2.2.2.2 gL_net_L_draw rfl rfl rfl hds_L_draw ⟨Nat.le_of_ble_eq_true rfl, Nat.le_of_ble_eq_true rfl⟩) (by rfl) hl.1 (Nat.le_of_ble_eq_true rfl) dL_net_267 ⟨by decide, by decide⟩ rfl (fun H locs hG hS => ?_)
      refine yN_puti X hG hS 14 23 264 23 _ tyX10 tyX10_ok nmX10 (inC := iX10) rfl f10.1 f10.2 ⟨by decide, by decide, by decide, rfl, rfl⟩ rfl (by decide +kernel) (x_m 16 rfl) dL_net_270 (fun H locs hG hS => ?_)
      obtain ⟨u49, eu49, h⟩ := xlet_of h
      replace hG : G t u49 H := by rw [eu49]; exact hG
      refine lv_aload_n X.1.1 X.1.2.1 dL_net_273 rfl (lv_at hl 0 rfl) ?_
      obtain ⟨g50, h⟩ := xgd_of h
      refine mk_SB2 X hG hS hl.1 g50 ⟨by decide, by decide⟩ (kk := fun t' H locs hag e7 f51 f52 hG hS => ?_)
      have k53 : t'.2.2.1 287 = t0.2.2.1 37 := e7.trans (hT.at (by decide))
      replace hT : ag 37 264 291 t0 t := hT.b37
      rw [← e7] at hl
      rw [← e7]
      obtain ⟨u54, eu54, h⟩ := xlet_of h
      replace hG : G t' u54 H := by rw [eu54]; exact hG
      rw [← hag.at (k := 357) (by decide), ← hag.at (k := 264) (by decide)] at hl
      have f56 := hag.fk (by decide) f10
      replace X := X.ag hag (by decide)
      replace hT : ag 37 264 291 t0 t' := hT.tr hag (by decide)
      clear hag
      obtain ⟨t, rfl⟩ : ∃ z, z = t' := ⟨_, rfl⟩
      have f55 : al t 287 ∧ sT 287 = 1 := ⟨f51, by decide +kernel⟩
      refine x_lds X (x_m 10 rfl) dL_net_281 ?_
      obtain ⟨v57, u58, hf, h⟩ := xbd_of h
      obtain ⟨g59, h⟩ := xgd_of h
      rw [g59] at hf
      refine x_ksm hS (va_runV (As := [.ref (t.2.2.1 2010)]) X.1 (c_J4_append_15ec4 l t _ _ _ _ hf) (cwV 1 X.1.2.2.2.2 gL_net_J4_append_15ec4 rfl rfl rfl hd_J4_append_15ec4 ⟨Nat.le_of_ble_eq_true rfl, Nat.le_of_ble_eq_true rfl⟩) ⟨x_blind, x_sbrecv X hG, x_pre X hG hS⟩ rfl rfl hl.1 rfl (lv_room (Nat.le_of_ble_eq_true rfl)) dL_net_283 ⟨by decide, by decide⟩) (fun b H locs hG hS => ?_)
      rw [show (37 : Int).toNat = 37 from rfl]
      have hag := mv_ag (t := t) (b := b)
      replace hS : va_S (gA (mv t b)) s.heap H locs := hS
      generalize mv t b = t' at hG hS hag
      rw [← hag.at (k := 287) (by decide), ← hag.at (k := 357) (by decide), ← hag.at (k := 264) (by decide)] at hl
      rw [← hag.at (k := 37) (by decide), ← hag.at (k := 287) (by decide)]
      have f60 := hag.fk (by decide) f55
      have f61 := hag.fk (by decide) f56
      replace f52 := hag.al (k := 288) (by decide) f52
      replace k53 := (hag.at (k := 287) (by decide)).trans k53
      replace X := X.ag hag (by decide)
      replace hT : ag 37 264 291 t0 t' := hT.tr hag (by decide)
      clear hag
      obtain ⟨t, rfl⟩ : ∃ z, z = t' := ⟨_, rfl⟩
      refine lv_aload_n X.1.1 X.1.2.1 dL_net_286 rfl (lv_at hl 2 rfl) ?_
      refine yN_geti X hG 14 11 264 11 (inC := iX10) rfl f61.1 f61.2 ⟨by decide, by decide, by decide, rfl, rfl⟩ (x_m 4 rfl) dL_net_287 ?_
      obtain ⟨v62, u63, hf, h⟩ := xbd_of h
      obtain ⟨g64, h⟩ := xgd_of h
      rw [g64] at hf
      refine x_ksm hS (va_runV (As := [.int (iI (u58 264 11))]) X.1 (c_J4_append_bf812 l t _ _ _ _ hf) (cwV 1 X.1.2.2.2.2 gL_net_J4_append_bf812 rfl rfl rfl hd_J4_append_bf812 ⟨Nat.le_of_ble_eq_true rfl, Nat.le_of_ble_eq_true rfl⟩) ⟨x_blind, x_sbrecv X hG, x_pre X hG hS⟩ rfl rfl hl.1 rfl (lv_room (Nat.le_of_ble_eq_true rfl)) dL_net_290 ⟨by decide, by decide⟩) (fun b H locs hG hS => ?_)
      rw [show (37 : Int).toNat = 37 from rfl]
      have hag := mv_ag (t := t) (b := b)
      replace hS : va_S (gA (mv t b)) s.heap H locs := hS
      generalize mv t b = t' at hG hS hag
      rw [← hag.at (k := 287) (by decide), ← hag.at (k := 357) (by decide), ← hag.at (k := 264) (by decide)] at hl
      rw [← hag.at (k := 37) (by decide), ← hag.at (k := 287) (by decide)]
      have f65 := hag.fk (by decide) f60
      have f66 := hag.fk (by decide) f61
      replace f52 := hag.al (k := 288) (by decide) f52
      replace k53 := (hag.at (k := 287) (by decide)).trans k53
      replace X := X.ag hag (by decide)
      replace hT : ag 37 264 291 t0 t' := hT.tr hag (by decide)
      clear hag
      obtain ⟨t, rfl⟩ : ∃ z, z = t' := ⟨_, rfl⟩
      refine x_lds X (x_m 11 rfl) dL_net_293 ?_
      obtain ⟨v67, u68, hf, h⟩ := xbd_of h
      obtain ⟨g69, h⟩ := xgd_of h
      rw [g69] at hf
      refine x_ksm hS (va_runV (As := [.ref (t.2.2.1 2011)]) X.1 (c_J4_append_15ec4 l t _ _ _ _ hf) (cwV 1 X.1.2.2.2.2 gL_net_J4_append_15ec4 rfl rfl rfl hd_J4_append_15ec4 ⟨Nat.le_of_ble_eq_true rfl, Nat.le_of_ble_eq_true rfl⟩) ⟨x_blind, x_sbrecv X hG, x_pre X hG hS⟩ rfl rfl hl.1 rfl (lv_room (Nat.le_of_ble_eq_true rfl)) dL_net_295 ⟨by decide, by decide⟩) (fun b H locs hG hS => ?_)
      rw [show (37 : Int).toNat = 37 from rfl]
      have hag := mv_ag (t := t) (b := b)
      replace hS : va_S (gA (mv t b)) s.heap H locs := hS
      generalize mv t b = t' at hG hS hag
      rw [← hag.at (k := 287) (by decide), ← hag.at (k := 357) (by decide), ← hag.at (k := 264) (by decide)] at hl
      rw [← hag.at (k := 37) (by decide), ← hag.at (k := 287) (by decide)]
      have f70 := hag.fk (by decide) f65
      have f71 := hag.fk (by decide) f66
      replace f52 := hag.al (k := 288) (by decide) f52
      replace k53 := (hag.at (k := 287) (by decide)).trans k53
      replace X := X.ag hag (by decide)
      replace hT : ag 37 264 291 t0 t' := hT.tr hag (by decide)
      clear hag
      obtain ⟨t, rfl⟩ : ∃ z, z = t' := ⟨_, rfl⟩
      refine lv_aload_n X.1.1 X.1.2.1 dL_net_298 rfl (lv_at hl 2 rfl) ?_
      refine yN_geti X hG 14 12 264 12 (inC := iX10) rfl f71.1 f71.2 ⟨by decide, by decide, by decide, rfl, rfl⟩ (x_m 5 rfl) dL_net_299 ?_
      obtain ⟨v72, u73, hf, h⟩ := xbd_of h
      obtain ⟨g74, h⟩ := xgd_of h
      rw [g74] at hf
      refine x_ksm hS (va_runV (As := [.int (iI (u68 264 12))]) X.1 (c_J4_append_bf812 l t _ _ _ _ hf) (cwV 1 X.1.2.2.2.2 gL_net_J4_append_bf812 rfl rfl rfl hd_J4_append_bf812 ⟨Nat.le_of_ble_eq_true rfl, Nat.le_of_ble_eq_true rfl⟩) ⟨x_blind, x_sbrecv X hG, x_pre X hG hS⟩ rfl rfl hl.1 rfl (lv_room (Nat.le_of_ble_eq_true rfl)) dL_net_302 ⟨by decide, by decide⟩) (fun b H locs hG hS => ?_)
      rw [show (37 : Int).toNat = 37 from rfl]
      have hag := mv_ag (t := t) (b := b)
      replace hS : va_S (gA (mv t b)) s.heap H locs := hS
      generalize mv t b = t' at hG hS hag
      rw [← hag.at (k := 287) (by decide), ← hag.at (k := 357) (by decide), ← hag.at (k := 264) (by decide)] at hl
      rw [← hag.at (k := 37) (by decide), ← hag.at (k := 287) (by decide)]
      have f75 := hag.fk (by decide) f70
      have f76 := hag.fk (by decide) f71
      replace f52 := hag.al (k := 288) (by decide) f52
      replace k53 := (hag.at (k := 287) (by decide)).trans k53
      replace X := X.ag hag (by decide)
      replace hT : ag 37 264 291 t0 t' := hT.tr hag (by decide)
      clear hag
      obtain ⟨t, rfl⟩ : ∃ z, z = t' := ⟨_, rfl⟩
      refine x_lds X (x_m 11 rfl) dL_net_305 ?_
      obtain ⟨v77, u78, hf, h⟩ := xbd_of h
      obtain ⟨g79, h⟩ := xgd_of h
      rw [g79] at hf
      refine x_ksm hS (va_runV (As := [.ref (t.2.2.1 2011)]) X.1 (c_J4_append_15ec4 l t _ _ _ _ hf) (cwV 1 X.1.2.2.2.2 gL_net_J4_append_15ec4 rfl rfl rfl hd_J4_append_15ec4 ⟨Nat.le_of_ble_eq_true rfl, Nat.le_of_ble_eq_true rfl⟩) ⟨x_blind, x_sbrecv X hG, x_pre X hG hS⟩ rfl rfl hl.1 rfl (lv_room (Nat.le_of_ble_eq_true rfl)) dL_net_307 ⟨by decide, by decide⟩) (fun b H locs hG hS => ?_)
      rw [show (37 : Int).toNat = 37 from rfl]
      have hag := mv_ag (t := t) (b := b)
      replace hS : va_S (gA (mv t b)) s.heap H locs := hS
      generalize mv t b = t' at hG hS hag
      rw [← hag.at (k := 287) (by decide), ← hag.at (k := 357) (by decide), ← hag.at (k := 264) (by decide)] at hl
      rw [← hag.at (k := 37) (by decide), ← hag.at (k := 287) (by decide)]
      have f80 := hag.fk (by decide) f75
      have f81 := hag.fk (by decide) f76
      replace f52 := hag.al (k := 288) (by decide) f52
      replace k53 := (hag.at (k := 287) (by decide)).trans k53
      replace X := X.ag hag (by decide)
      replace hT : ag 37 264 291 t0 t' := hT.tr hag (by decide)
      clear hag
      obtain ⟨t, rfl⟩ : ∃ z, z = t' := ⟨_, rfl⟩
      refine lv_aload_n X.1.1 X.1.2.1 dL_net_310 rfl (lv_at hl 2 rfl) ?_
      refine yN_geti X hG 14 13 264 13 (inC := iX10) rfl f81.1 f81.2 ⟨by decide, by decide, by decide, rfl, rfl⟩ (x_m 6 rfl) dL_net_311 ?_
      obtain ⟨v82, u83, hf, h⟩ := xbd_of h
      obtain ⟨g84, h⟩ := xgd_of h
      rw [g84] at hf
      refine x_ksm hS (va_runV (As := [.int (iI (u78 264 13))]) X.1 (c_J4_append_bf812 l t _ _ _ _ hf) (cwV 1 X.1.2.2.2.2 gL_net_J4_append_bf812 rfl rfl rfl hd_J4_append_bf812 ⟨Nat.le_of_ble_eq_true rfl, Nat.le_of_ble_eq_true rfl⟩) ⟨x_blind, x_sbrecv X hG, x_pre X hG hS⟩ rfl rfl hl.1 rfl (lv_room (Nat.le_of_ble_eq_true rfl)) dL_net_314 ⟨by decide, by decide⟩) (fun b H locs hG hS => ?_)
      rw [show (37 : Int).toNat = 37 from rfl]
      have hag := mv_ag (t := t) (b := b)
      replace hS : va_S (gA (mv t b)) s.heap H locs := hS
      generalize mv t b = t' at hG hS hag
      rw [← hag.at (k := 287) (by decide), ← hag.at (k := 357) (by decide), ← hag.at (k := 264) (by decide)] at hl
      rw [← hag.at (k := 37) (by decide), ← hag.at (k := 287) (by decide)]
      have f85 := hag.fk (by decide) f80
      have f86 := hag.fk (by decide) f81
      replace f52 := hag.al (k := 288) (by decide) f52
      replace k53 := (hag.at (k := 287) (by decide)).trans k53
      replace X := X.ag hag (by decide)
      replace hT : ag 37 264 291 t0 t' := hT.tr hag (by decide)
      clear hag
      obtain ⟨t, rfl⟩ : ∃ z, z = t' := ⟨_, rfl⟩
      refine x_lds X (x_m 11 rfl) dL_net_317 ?_
      obtain ⟨v87, u88, hf, h⟩ := xbd_of h
      obtain ⟨g89, h⟩ := xgd_of h
      rw [g89] at hf
      refine x_ksm hS (va_runV (As := [.ref (t.2.2.1 2011)]) X.1 (c_J4_append_15ec4 l t _ _ _ _ hf) (cwV 1 X.1.2.2.2.2 gL_net_J4_append_15ec4 rfl rfl rfl hd_J4_append_15ec4 ⟨Nat.le_of_ble_eq_true rfl, Nat.le_of_ble_eq_true rfl⟩) ⟨x_blind, x_sbrecv X hG, x_pre X hG hS⟩ rfl rfl hl.1 rfl (lv_room (Nat.le_of_ble_eq_true rfl)) dL_net_319 ⟨by decide, by decide⟩) (fun b H locs hG hS => ?_)
      rw [show (37 : Int).toNat = 37 from rfl]
      have hag := mv_ag (t := t) (b := b)
      replace hS : va_S (gA (mv t b)) s.heap H locs := hS
      generalize mv t b = t' at hG hS hag
      rw [← hag.at (k := 287) (by decide), ← hag.at (k := 357) (by decide), ← hag.at (k := 264) (by decide)] at hl
      rw [← hag.at (k := 37) (by decide), ← hag.at (k := 287) (by decide)]
      have f90 := hag.fk (by decide) f85
      have f91 := hag.fk (by decide) f86
      replace f52 := hag.al (k := 288) (by decide) f52
      replace k53 := (hag.at (k := 287) (by decide)).trans k53
      replace X := X.ag hag (by decide)
      replace hT : ag 37 264 291 t0 t' := hT.tr hag (by decide)
      clear hag
      obtain ⟨t, rfl⟩ : ∃ z, z = t' := ⟨_, rfl⟩
      refine lv_aload_n X.1.1 X.1.2.1 dL_net_322 rfl (lv_at hl 2 rfl) ?_
      refine yN_geti X hG 14 14 264 14 (inC := iX10) rfl f91.1 f91.2 ⟨by decide, by decide, by decide, rfl, rfl⟩ (x_m 7 rfl) dL_net_323 ?_
      obtain ⟨v92, u93, hf, h⟩ := xbd_of h
      obtain ⟨g94, h⟩ := xgd_of h
      rw [g94] at hf
      refine x_ksm hS (va_runV (As := [.int (iI (u88 264 14))]) X.1 (c_J4_append_bf812 l t _ _ _ _ hf) (cwV 1 X.1.2.2.2.2 gL_net_J4_append_bf812 rfl rfl rfl hd_J4_append_bf812 ⟨Nat.le_of_ble_eq_true rfl, Nat.le_of_ble_eq_true rfl⟩) ⟨x_blind, x_sbrecv X hG, x_pre X hG hS⟩ rfl rfl hl.1 rfl (lv_room (Nat.le_of_ble_eq_true rfl)) dL_net_326 ⟨by decide, by decide⟩) (fun b H locs hG hS => ?_)
      rw [show (37 : Int).toNat = 37 from rfl]
      have hag := mv_ag (t := t) (b := b)
      replace hS : va_S (gA (mv t b)) s.heap H locs := hS
      generalize mv t b = t' at hG hS hag
      rw [← hag.at (k := 287) (by decide), ← hag.at (k := 357) (by decide), ← hag.at (k := 264) (by decide)] at hl
      rw [← hag.at (k := 37) (by decide), ← hag.at (k := 287) (by decide)]
      have f95 := hag.fk (by decide) f90
      have f96 := hag.fk (by decide) f91
      replace f52 := hag.al (k := 288) (by decide) f52
      replace k53 := (hag.at (k := 287) (by decide)).trans k53
      replace X := X.ag hag (by decide)
      replace hT : ag 37 264 291 t0 t' := hT.tr hag (by decide)
      clear hag
      obtain ⟨t, rfl⟩ : ∃ z, z = t' := ⟨_, rfl⟩
      refine x_lds X (x_m 11 rfl) dL_net_329 ?_
      obtain ⟨v97, u98, hf, h⟩ := xbd_of h
      obtain ⟨g99, h⟩ := xgd_of h
      rw [g99] at hf
      refine x_ksm hS (va_runV (As := [.ref (t.2.2.1 2011)]) X.1 (c_J4_append_15ec4 l t _ _ _ _ hf) (cwV 1 X.1.2.2.2.2 gL_net_J4_append_15ec4 rfl rfl rfl hd_J4_append_15ec4 ⟨Nat.le_of_ble_eq_true rfl, Nat.le_of_ble_eq_true rfl⟩) ⟨x_blind, x_sbrecv X hG, x_pre X hG hS⟩ rfl rfl hl.1 rfl (lv_room (Nat.le_of_ble_eq_true rfl)) dL_net_331 ⟨by decide, by decide⟩) (fun b H locs hG hS => ?_)
      rw [show (37 : Int).toNat = 37 from rfl]
      have hag := mv_ag (t := t) (b := b)
      replace hS : va_S (gA (mv t b)) s.heap H locs := hS
      generalize mv t b = t' at hG hS hag
      rw [← hag.at (k := 287) (by decide), ← hag.at (k := 357) (by decide), ← hag.at (k := 264) (by decide)] at hl
      rw [← hag.at (k := 37) (by decide), ← hag.at (k := 287) (by decide)]
      have f100 := hag.fk (by decide) f95
      have f101 := hag.fk (by decide) f96
      replace f52 := hag.al (k := 288) (by decide) f52
      replace k53 := (hag.at (k := 287) (by decide)).trans k53
      replace X := X.ag hag (by decide)
      replace hT : ag 37 264 291 t0 t' := hT.tr hag (by decide)
      clear hag
      obtain ⟨t, rfl⟩ : ∃ z, z = t' := ⟨_, rfl⟩
      refine lv_aload_n X.1.1 X.1.2.1 dL_net_334 rfl (lv_at hl 2 rfl) ?_
      refine yN_geti X hG 14 15 264 15 (inC := iX10) rfl f101.1 f101.2 ⟨by decide, by decide, by decide, rfl, rfl⟩ (x_m 8 rfl) dL_net_335 ?_
      obtain ⟨v102, u103, hf, h⟩ := xbd_of h
      obtain ⟨g104, h⟩ := xgd_of h
      rw [g104] at hf
      refine x_ksm hS (va_runV (As := [.int (iI (u98 264 15))]) X.1 (c_J4_append_bf812 l t _ _ _ _ hf) (cwV 1 X.1.2.2.2.2 gL_net_J4_append_bf812 rfl rfl rfl hd_J4_append_bf812 ⟨Nat.le_of_ble_eq_true rfl, Nat.le_of_ble_eq_true rfl⟩) ⟨x_blind, x_sbrecv X hG, x_pre X hG hS⟩ rfl rfl hl.1 rfl (lv_room (Nat.le_of_ble_eq_true rfl)) dL_net_338 ⟨by decide, by decide⟩) (fun b H locs hG hS => ?_)
      rw [show (37 : Int).toNat = 37 from rfl]
      have hag := mv_ag (t := t) (b := b)
      replace hS : va_S (gA (mv t b)) s.heap H locs := hS
      generalize mv t b = t' at hG hS hag
      rw [← hag.at (k := 287) (by decide), ← hag.at (k := 357) (by decide), ← hag.at (k := 264) (by decide)] at hl
      rw [← hag.at (k := 37) (by decide), ← hag.at (k := 287) (by decide)]
      have f105 := hag.fk (by decide) f100
      have f106 := hag.fk (by decide) f101
      replace f52 := hag.al (k := 288) (by decide) f52
      replace k53 := (hag.at (k := 287) (by decide)).trans k53
      replace X := X.ag hag (by decide)
      replace hT : ag 37 264 291 t0 t' := hT.tr hag (by decide)
      clear hag
      obtain ⟨t, rfl⟩ : ∃ z, z = t' := ⟨_, rfl⟩
      refine x_lds X (x_m 12 rfl) dL_net_341 ?_
      obtain ⟨v107, u108, hf, h⟩ := xbd_of h
      obtain ⟨g109, h⟩ := xgd_of h
      rw [g109] at hf
      refine x_ksm hS (va_runV (As := [.ref (t.2.2.1 2012)]) X.1 (c_J4_append_15ec4 l t _ _ _ _ hf) (cwV 1 X.1.2.2.2.2 gL_net_J4_append_15ec4 rfl rfl rfl hd_J4_append_15ec4 ⟨Nat.le_of_ble_eq_true rfl, Nat.le_of_ble_eq_true rfl⟩) ⟨x_blind, x_sbrecv X hG, x_pre X hG hS⟩ rfl rfl hl.1 rfl (lv_room (Nat.le_of_ble_eq_true rfl)) dL_net_343 ⟨by decide, by decide⟩) (fun b H locs hG hS => ?_)
      rw [show (37 : Int).toNat = 37 from rfl]
      have hag := mv_ag (t := t) (b := b)
      replace hS : va_S (gA (mv t b)) s.heap H locs := hS
      generalize mv t b = t' at hG hS hag
      rw [← hag.at (k := 287) (by decide), ← hag.at (k := 357) (by decide), ← hag.at (k := 264) (by decide)] at hl
      rw [← hag.at (k := 37) (by decide), ← hag.at (k := 287) (by decide)]
      have f110 := hag.fk (by decide) f105
      have f111 := hag.fk (by decide) f106
      replace f52 := hag.al (k := 288) (by decide) f52
      replace k53 := (hag.at (k := 287) (by decide)).trans k53
      replace X := X.ag hag (by decide)
      replace hT : ag 37 264 291 t0 t' := hT.tr hag (by decide)
      clear hag
      obtain ⟨t, rfl⟩ : ∃ z, z = t' := ⟨_, rfl⟩
      refine lv_aload_n X.1.1 X.1.2.1 dL_net_346 rfl (lv_at hl 2 rfl) ?_
      refine yN_geti X hG 14 16 264 16 (inC := iX10) rfl f111.1 f111.2 ⟨by decide, by decide, by decide, rfl, rfl⟩ (x_m 9 rfl) dL_net_347 ?_
      obtain ⟨v112, u113, hf, h⟩ := xbd_of h
      obtain ⟨g114, h⟩ := xgd_of h
      rw [g114] at hf
      refine x_ksm hS (va_runV (As := [.int (iI (u108 264 16))]) X.1 (c_J4_append_bf812 l t _ _ _ _ hf) (cwV 1 X.1.2.2.2.2 gL_net_J4_append_bf812 rfl rfl rfl hd_J4_append_bf812 ⟨Nat.le_of_ble_eq_true rfl, Nat.le_of_ble_eq_true rfl⟩) ⟨x_blind, x_sbrecv X hG, x_pre X hG hS⟩ rfl rfl hl.1 rfl (lv_room (Nat.le_of_ble_eq_true rfl)) dL_net_350 ⟨by decide, by decide⟩) (fun b H locs hG hS => ?_)
      rw [show (37 : Int).toNat = 37 from rfl]
      have hag := mv_ag (t := t) (b := b)
      replace hS : va_S (gA (mv t b)) s.heap H locs := hS
      generalize mv t b = t' at hG hS hag
      rw [← hag.at (k := 287) (by decide), ← hag.at (k := 357) (by decide), ← hag.at (k := 264) (by decide)] at hl
      rw [← hag.at (k := 37) (by decide), ← hag.at (k := 287) (by decide)]
      have f115 := hag.fk (by decide) f110
      have f116 := hag.fk (by decide) f111
      replace f52 := hag.al (k := 288) (by decide) f52
      replace k53 := (hag.at (k := 287) (by decide)).trans k53
      replace X := X.ag hag (by decide)
      replace hT : ag 37 264 291 t0 t' := hT.tr hag (by decide)
      clear hag
      obtain ⟨t, rfl⟩ : ∃ z, z = t' := ⟨_, rfl⟩
      refine x_lds X (x_m 13 rfl) dL_net_353 ?_
      obtain ⟨v117, u118, hf, h⟩ := xbd_of h
      obtain ⟨g119, h⟩ := xgd_of h
      rw [g119] at hf
      refine x_ksm hS (va_runV (As := [.ref (t.2.2.1 2013)]) X.1 (c_J4_append_15ec4 l t _ _ _ _ hf) (cwV 1 X.1.2.2.2.2 gL_net_J4_append_15ec4 rfl rfl rfl hd_J4_append_15ec4 ⟨Nat.le_of_ble_eq_true rfl, Nat.le_of_ble_eq_true rfl⟩) ⟨x_blind, x_sbrecv X hG, x_pre X hG hS⟩ rfl rfl hl.1 rfl (lv_room (Nat.le_of_ble_eq_true rfl)) dL_net_355 ⟨by decide, by decide⟩) (fun b H locs hG hS => ?_)
      rw [show (37 : Int).toNat = 37 from rfl]
      have hag := mv_ag (t := t) (b := b)
      replace hS : va_S (gA (mv t b)) s.heap H locs := hS
      generalize mv t b = t' at hG hS hag
      rw [← hag.at (k := 287) (by decide), ← hag.at (k := 357) (by decide), ← hag.at (k := 264) (by decide)] at hl
      rw [← hag.at (k := 37) (by decide), ← hag.at (k := 287) (by decide)]
      have f120 := hag.fk (by decide) f115
      have f121 := hag.fk (by decide) f116
      replace f52 := hag.al (k := 288) (by decide) f52
      replace k53 := (hag.at (k := 287) (by decide)).trans k53
      replace X := X.ag hag (by decide)
      replace hT : ag 37 264 291 t0 t' := hT.tr hag (by decide)
      clear hag
      obtain ⟨t, rfl⟩ : ∃ z, z = t' := ⟨_, rfl⟩
      refine lv_aload_n X.1.1 X.1.2.1 dL_net_358 rfl (lv_at hl 2 rfl) ?_
      refine yN_geti X hG 14 17 264 17 (inC := iX10) rfl f121.1 f121.2 ⟨by decide, by decide, by decide, rfl, rfl⟩ (x_m 10 rfl) dL_net_359 ?_
      obtain ⟨v122, u123, hf, h⟩ := xbd_of h
      obtain ⟨g124, h⟩ := xgd_of h
      rw [g124] at hf
      refine x_ksm hS (va_runV (As := [.int (iI (u118 264 17))]) X.1 (c_J4_append_bf812 l t _ _ _ _ hf) (cwV 1 X.1.2.2.2.2 gL_net_J4_append_bf812 rfl rfl rfl hd_J4_append_bf812 ⟨Nat.le_of_ble_eq_true rfl, Nat.le_of_ble_eq_true rfl⟩) ⟨x_blind, x_sbrecv X hG, x_pre X hG hS⟩ rfl rfl hl.1 rfl (lv_room (Nat.le_of_ble_eq_true rfl)) dL_net_362 ⟨by decide, by decide⟩) (fun b H locs hG hS => ?_)
      rw [show (37 : Int).toNat = 37 from rfl]
      have hag := mv_ag (t := t) (b := b)
      replace hS : va_S (gA (mv t b)) s.heap H locs := hS
      generalize mv t b = t' at hG hS hag
      rw [← hag.at (k := 287) (by decide), ← hag.at (k := 357) (by decide), ← hag.at (k := 264) (by decide)] at hl
      rw [← hag.at (k := 37) (by decide), ← hag.at (k := 287) (by decide)]
      have f125 := hag.fk (by decide) f120
      have f126 := hag.fk (by decide) f121
      replace f52 := hag.al (k := 288) (by decide) f52
      replace k53 := (hag.at (k := 287) (by decide)).trans k53
      replace X := X.ag hag (by decide)
      replace hT : ag 37 264 291 t0 t' := hT.tr hag (by decide)
      clear hag
      obtain ⟨t, rfl⟩ : ∃ z, z = t' := ⟨_, rfl⟩
      refine x_lds X (x_m 11 rfl) dL_net_365 ?_
      obtain ⟨v127, u128, hf, h⟩ := xbd_of h
      obtain ⟨g129, h⟩ := xgd_of h
      rw [g129] at hf
      refine x_ksm hS (va_runV (As := [.ref (t.2.2.1 2011)]) X.1 (c_J4_append_15ec4 l t _ _ _ _ hf) (cwV 1 X.1.2.2.2.2 gL_net_J4_append_15ec4 rfl rfl rfl hd_J4_append_15ec4 ⟨Nat.le_of_ble_eq_true rfl, Nat.le_of_ble_eq_true rfl⟩) ⟨x_blind, x_sbrecv X hG, x_pre X hG hS⟩ rfl rfl hl.1 rfl (lv_room (Nat.le_of_ble_eq_true rfl)) dL_net_367 ⟨by decide, by decide⟩) (fun b H locs hG hS => ?_)
      rw [show (37 : Int).toNat = 37 from rfl]
      have hag := mv_ag (t := t) (b := b)
      replace hS : va_S (gA (mv t b)) s.heap H locs := hS
      generalize mv t b = t' at hG hS hag
      rw [← hag.at (k := 287) (by decide), ← hag.at (k := 357) (by decide), ← hag.at (k := 264) (by decide)] at hl
      rw [← hag.at (k := 37) (by decide), ← hag.at (k := 287) (by decide)]
      have f130 := hag.fk (by decide) f125
      have f131 := hag.fk (by decide) f126
      replace f52 := hag.al (k := 288) (by decide) f52
      replace k53 := (hag.at (k := 287) (by decide)).trans k53
      replace X := X.ag hag (by decide)
      replace hT : ag 37 264 291 t0 t' := hT.tr hag (by decide)
      clear hag
      obtain ⟨t, rfl⟩ : ∃ z, z = t' := ⟨_, rfl⟩
      refine lv_aload_n X.1.1 X.1.2.1 dL_net_370 rfl (lv_at hl 2 rfl) ?_
      refine yN_geti X hG 14 18 264 18 (inC := iX10) rfl f131.1 f131.2 ⟨by decide, by decide, by decide, rfl, rfl⟩ (x_m 11 rfl) dL_net_371 ?_
      obtain ⟨v132, u133, hf, h⟩ := xbd_of h
      obtain ⟨g134, h⟩ := xgd_of h
      rw [g134] at hf
      refine x_ksm hS (va_runV (As := [.int (iI (u128 264 18))]) X.1 (c_J4_append_bf812 l t _ _ _ _ hf) (cwV 1 X.1.2.2.2.2 gL_net_J4_append_bf812 rfl rfl rfl hd_J4_append_bf812 ⟨Nat.le_of_ble_eq_true rfl, Nat.le_of_ble_eq_true rfl⟩) ⟨x_blind, x_sbrecv X hG, x_pre X hG hS⟩ rfl rfl hl.1 rfl (lv_room (Nat.le_of_ble_eq_true rfl)) dL_net_374 ⟨by decide, by decide⟩) (fun b H locs hG hS => ?_)
      rw [show (37 : Int).toNat = 37 from rfl]
      have hag := mv_ag (t := t) (b := b)
      replace hS : va_S (gA (mv t b)) s.heap H locs := hS
      generalize mv t b = t' at hG hS hag
      rw [← hag.at (k := 287) (by decide), ← hag.at (k := 357) (by decide), ← hag.at (k := 264) (by decide)] at hl
      rw [← hag.at (k := 37) (by decide), ← hag.at (k := 287) (by decide)]
      have f135 := hag.fk (by decide) f130
      have f136 := hag.fk (by decide) f131
      replace f52 := hag.al (k := 288) (by decide) f52
      replace k53 := (hag.at (k := 287) (by decide)).trans k53
      replace X := X.ag hag (by decide)
      replace hT : ag 37 264 291 t0 t' := hT.tr hag (by decide)
      clear hag
      obtain ⟨t, rfl⟩ : ∃ z, z = t' := ⟨_, rfl⟩
      refine x_lds X (x_m 14 rfl) dL_net_377 ?_
      obtain ⟨v137, u138, hf, h⟩ := xbd_of h
      obtain ⟨g139, h⟩ := xgd_of h
      rw [g139] at hf
      refine x_ksm hS (va_runV (As := [.ref (t.2.2.1 2014)]) X.1 (c_J4_append_15ec4 l t _ _ _ _ hf) (cwV 1 X.1.2.2.2.2 gL_net_J4_append_15ec4 rfl rfl rfl hd_J4_append_15ec4 ⟨Nat.le_of_ble_eq_true rfl, Nat.le_of_ble_eq_true rfl⟩) ⟨x_blind, x_sbrecv X hG, x_pre X hG hS⟩ rfl rfl hl.1 rfl (lv_room (Nat.le_of_ble_eq_true rfl)) dL_net_379 ⟨by decide, by decide⟩) (fun b H locs hG hS => ?_)
      rw [show (37 : Int).toNat = 37 from rfl]
      have hag := mv_ag (t := t) (b := b)
      replace hS : va_S (gA (mv t b)) s.heap H locs := hS
      generalize mv t b = t' at hG hS hag
      rw [← hag.at (k := 287) (by decide), ← hag.at (k := 357) (by decide), ← hag.at (k := 264) (by decide)] at hl
      rw [← hag.at (k := 37) (by decide), ← hag.at (k := 287) (by decide)]
      have f140 := hag.fk (by decide) f135
      have f141 := hag.fk (by decide) f136
      replace f52 := hag.al (k := 288) (by decide) f52
      replace k53 := (hag.at (k := 287) (by decide)).trans k53
      replace X := X.ag hag (by decide)
      replace hT : ag 37 264 291 t0 t' := hT.tr hag (by decide)
      clear hag
      obtain ⟨t, rfl⟩ : ∃ z, z = t' := ⟨_, rfl⟩
      refine lv_aload_n X.1.1 X.1.2.1 dL_net_382 rfl (lv_at hl 2 rfl) ?_
      refine yN_geti X hG 14 19 264 19 (inC := iX10) rfl f141.1 f141.2 ⟨by decide, by decide, by decide, rfl, rfl⟩ (x_m 12 rfl) dL_net_383 ?_
      obtain ⟨v142, u143, hf, h⟩ := xbd_of h
      obtain ⟨g144, h⟩ := xgd_of h
      rw [g144] at hf
      refine x_ksm hS (va_runV (As := [.int (iI (u138 264 19))]) X.1 (c_J4_append_bf812 l t _ _ _ _ hf) (cwV 1 X.1.2.2.2.2 gL_net_J4_append_bf812 rfl rfl rfl hd_J4_append_bf812 ⟨Nat.le_of_ble_eq_true rfl, Nat.le_of_ble_eq_true rfl⟩) ⟨x_blind, x_sbrecv X hG, x_pre X hG hS⟩ rfl rfl hl.1 rfl (lv_room (Nat.le_of_ble_eq_true rfl)) dL_net_386 ⟨by decide, by decide⟩) (fun b H locs hG hS => ?_)
      rw [show (37 : Int).toNat = 37 from rfl]
      have hag := mv_ag (t := t) (b := b)
      replace hS : va_S (gA (mv t b)) s.heap H locs := hS
      generalize mv t b = t' at hG hS hag
      rw [← hag.at (k := 287) (by decide), ← hag.at (k := 357) (by decide), ← hag.at (k := 264) (by decide)] at hl
      rw [← hag.at (k := 37) (by decide), ← hag.at (k := 287) (by decide)]
      have f145 := hag.fk (by decide) f140
      have f146 := hag.fk (by decide) f141
      replace f52 := hag.al (k := 288) (by decide) f52
      replace k53 := (hag.at (k := 287) (by decide)).trans k53
      replace X := X.ag hag (by decide)
      replace hT : ag 37 264 291 t0 t' := hT.tr hag (by decide)
      clear hag
      obtain ⟨t, rfl⟩ : ∃ z, z = t' := ⟨_, rfl⟩
      refine x_lds X (x_m 11 rfl) dL_net_389 ?_
      obtain ⟨v147, u148, hf, h⟩ := xbd_of h
      obtain ⟨g149, h⟩ := xgd_of h
      rw [g149] at hf
      refine x_ksm hS (va_runV (As := [.ref (t.2.2.1 2011)]) X.1 (c_J4_append_15ec4 l t _ _ _ _ hf) (cwV 1 X.1.2.2.2.2 gL_net_J4_append_15ec4 rfl rfl rfl hd_J4_append_15ec4 ⟨Nat.le_of_ble_eq_true rfl, Nat.le_of_ble_eq_true rfl⟩) ⟨x_blind, x_sbrecv X hG, x_pre X hG hS⟩ rfl rfl hl.1 rfl (lv_room (Nat.le_of_ble_eq_true rfl)) dL_net_391 ⟨by decide, by decide⟩) (fun b H locs hG hS => ?_)
      rw [show (37 : Int).toNat = 37 from rfl]
      have hag := mv_ag (t := t) (b := b)
      replace hS : va_S (gA (mv t b)) s.heap H locs := hS
      generalize mv t b = t' at hG hS hag
      rw [← hag.at (k := 287) (by decide), ← hag.at (k := 357) (by decide), ← hag.at (k := 264) (by decide)] at hl
      rw [← hag.at (k := 37) (by decide), ← hag.at (k := 287) (by decide)]
      have f150 := hag.fk (by decide) f145
      have f151 := hag.fk (by decide) f146
      replace f52 := hag.al (k := 288) (by decide) f52
      replace k53 := (hag.at (k := 287) (by decide)).trans k53
      replace X := X.ag hag (by decide)
      replace hT : ag 37 264 291 t0 t' := hT.tr hag (by decide)
      clear hag
      obtain ⟨t, rfl⟩ : ∃ z, z = t' := ⟨_, rfl⟩
      refine lv_aload_n X.1.1 X.1.2.1 dL_net_394 rfl (lv_at hl 2 rfl) ?_
      refine yN_geti X hG 14 20 264 20 (inC := iX10) rfl f151.1 f151.2 ⟨by decide, by decide, by decide, rfl, rfl⟩ (x_m 13 rfl) dL_net_395 ?_
      obtain ⟨v152, u153, hf, h⟩ := xbd_of h
      obtain ⟨g154, h⟩ := xgd_of h
      rw [g154] at hf
      refine x_ksm hS (va_runV (As := [.int (iI (u148 264 20))]) X.1 (c_J4_append_bf812 l t _ _ _ _ hf) (cwV 1 X.1.2.2.2.2 gL_net_J4_append_bf812 rfl rfl rfl hd_J4_append_bf812 ⟨Nat.le_of_ble_eq_true rfl, Nat.le_of_ble_eq_true rfl⟩) ⟨x_blind, x_sbrecv X hG, x_pre X hG hS⟩ rfl rfl hl.1 rfl (lv_room (Nat.le_of_ble_eq_true rfl)) dL_net_398 ⟨by decide, by decide⟩) (fun b H locs hG hS => ?_)
      rw [show (37 : Int).toNat = 37 from rfl]
      have hag := mv_ag (t := t) (b := b)
      replace hS : va_S (gA (mv t b)) s.heap H locs := hS
      generalize mv t b = t' at hG hS hag
      rw [← hag.at (k := 287) (by decide), ← hag.at (k := 357) (by decide), ← hag.at (k := 264) (by decide)] at hl
      rw [← hag.at (k := 37) (by decide), ← hag.at (k := 287) (by decide)]
      have f155 := hag.fk (by decide) f150
      have f156 := hag.fk (by decide) f151
      replace f52 := hag.al (k := 288) (by decide) f52
      replace k53 := (hag.at (k := 287) (by decide)).trans k53
      replace X := X.ag hag (by decide)
      replace hT : ag 37 264 291 t0 t' := hT.tr hag (by decide)
      clear hag
      obtain ⟨t, rfl⟩ : ∃ z, z = t' := ⟨_, rfl⟩
      refine x_lds X (x_m 15 rfl) dL_net_401 ?_
      obtain ⟨v157, u158, hf, h⟩ := xbd_of h
      obtain ⟨g159, h⟩ := xgd_of h
      rw [g159] at hf
      refine x_ksm hS (va_runV (As := [.ref (t.2.2.1 2015)]) X.1 (c_J4_append_15ec4 l t _ _ _ _ hf) (cwV 1 X.1.2.2.2.2 gL_net_J4_append_15ec4 rfl rfl rfl hd_J4_append_15ec4 ⟨Nat.le_of_ble_eq_true rfl, Nat.le_of_ble_eq_true rfl⟩) ⟨x_blind, x_sbrecv X hG, x_pre X hG hS⟩ rfl rfl hl.1 rfl (lv_room (Nat.le_of_ble_eq_true rfl)) dL_net_403 ⟨by decide, by decide⟩) (fun b H locs hG hS => ?_)
      rw [show (37 : Int).toNat = 37 from rfl]
      have hag := mv_ag (t := t) (b := b)
      replace hS : va_S (gA (mv t b)) s.heap H locs := hS
      generalize mv t b = t' at hG hS hag
      rw [← hag.at (k := 287) (by decide), ← hag.at (k := 357) (by decide), ← hag.at (k := 264) (by decide)] at hl
      rw [← hag.at (k := 37) (by decide), ← hag.at (k := 287) (by decide)]
      have f160 := hag.fk (by decide) f155
      have f161 := hag.fk (by decide) f156
      replace f52 := hag.al (k := 288) (by decide) f52
      replace k53 := (hag.at (k := 287) (by decide)).trans k53
      replace X := X.ag hag (by decide)
      replace hT : ag 37 264 291 t0 t' := hT.tr hag (by decide)
      clear hag
      obtain ⟨t, rfl⟩ : ∃ z, z = t' := ⟨_, rfl⟩
      refine lv_aload_n X.1.1 X.1.2.1 dL_net_406 rfl (lv_at hl 2 rfl) ?_
      refine yN_geti X hG 14 21 264 21 (inC := iX10) rfl f161.1 f161.2 ⟨by decide, by decide, by decide, rfl, rfl⟩ (x_m 14 rfl) dL_net_407 ?_
      obtain ⟨v162, u163, hf, h⟩ := xbd_of h
      obtain ⟨g164, h⟩ := xgd_of h
      rw [g164] at hf
      refine x_ksm hS (va_runV (As := [.int (iI (u158 264 21))]) X.1 (c_J4_append_bf812 l t _ _ _ _ hf) (cwV 1 X.1.2.2.2.2 gL_net_J4_append_bf812 rfl rfl rfl hd_J4_append_bf812 ⟨Nat.le_of_ble_eq_true rfl, Nat.le_of_ble_eq_true rfl⟩) ⟨x_blind, x_sbrecv X hG, x_pre X hG hS⟩ rfl rfl hl.1 rfl (lv_room (Nat.le_of_ble_eq_true rfl)) dL_net_410 ⟨by decide, by decide⟩) (fun b H locs hG hS => ?_)
      rw [show (37 : Int).toNat = 37 from rfl]
      have hag := mv_ag (t := t) (b := b)
      replace hS : va_S (gA (mv t b)) s.heap H locs := hS
      generalize mv t b = t' at hG hS hag
      rw [← hag.at (k := 287) (by decide), ← hag.at (k := 357) (by decide), ← hag.at (k := 264) (by decide)] at hl
      rw [← hag.at (k := 37) (by decide), ← hag.at (k := 287) (by decide)]
      have f165 := hag.fk (by decide) f160
      have f166 := hag.fk (by decide) f161
      replace f52 := hag.al (k := 288) (by decide) f52
      replace k53 := (hag.at (k := 287) (by decide)).trans k53
      replace X := X.ag hag (by decide)
      replace hT : ag 37 264 291 t0 t' := hT.tr hag (by decide)
      clear hag
      obtain ⟨t, rfl⟩ : ∃ z, z = t' := ⟨_, rfl⟩
      refine x_lds X (x_m 16 rfl) dL_net_413 ?_
      obtain ⟨v167, u168, hf, h⟩ := xbd_of h
      obtain ⟨g169, h⟩ := xgd_of h
      rw [g169] at hf
      refine x_ksm hS (va_runV (As := [.ref (t.2.2.1 2016)]) X.1 (c_J4_append_15ec4 l t _ _ _ _ hf) (cwV 1 X.1.2.2.2.2 gL_net_J4_append_15ec4 rfl rfl rfl hd_J4_append_15ec4 ⟨Nat.le_of_ble_eq_true rfl, Nat.le_of_ble_eq_true rfl⟩) ⟨x_blind, x_sbrecv X hG, x_pre X hG hS⟩ rfl rfl hl.1 rfl (lv_room (Nat.le_of_ble_eq_true rfl)) dL_net_415 ⟨by decide, by decide⟩) (fun b H locs hG hS => ?_)
      rw [show (37 : Int).toNat = 37 from rfl]
      have hag := mv_ag (t := t) (b := b)
      replace hS : va_S (gA (mv t b)) s.heap H locs := hS
      generalize mv t b = t' at hG hS hag
      rw [← hag.at (k := 287) (by decide), ← hag.at (k := 357) (by decide), ← hag.at (k := 264) (by decide)] at hl
      rw [← hag.at (k := 37) (by decide), ← hag.at (k := 287) (by decide)]
      have f170 := hag.fk (by decide) f165
      have f171 := hag.fk (by decide) f166
      replace f52 := hag.al (k := 288) (by decide) f52
      replace k53 := (hag.at (k := 287) (by decide)).trans k53
      replace X := X.ag hag (by decide)
      replace hT : ag 37 264 291 t0 t' := hT.tr hag (by decide)
      clear hag
      obtain ⟨t, rfl⟩ : ∃ z, z = t' := ⟨_, rfl⟩
      refine lv_aload_n X.1.1 X.1.2.1 dL_net_418 rfl (lv_at hl 2 rfl) ?_
      refine yN_geti X hG 14 22 264 22 (inC := iX10) rfl f171.1 f171.2 ⟨by decide, by decide, by decide, rfl, rfl⟩ (x_m 15 rfl) dL_net_419 ?_
      obtain ⟨v172, u173, hf, h⟩ := xbd_of h
      obtain ⟨g174, h⟩ := xgd_of h
      rw [g174] at hf
      refine x_ksm hS (va_runV (As := [.int (iI (u168 264 22))]) X.1 (c_J4_append_bf812 l t _ _ _ _ hf) (cwV 1 X.1.2.2.2.2 gL_net_J4_append_bf812 rfl rfl rfl hd_J4_append_bf812 ⟨Nat.le_of_ble_eq_true rfl, Nat.le_of_ble_eq_true rfl⟩) ⟨x_blind, x_sbrecv X hG, x_pre X hG hS⟩ rfl rfl hl.1 rfl (lv_room (Nat.le_of_ble_eq_true rfl)) dL_net_422 ⟨by decide, by decide⟩) (fun b H locs hG hS => ?_)
      rw [show (37 : Int).toNat = 37 from rfl]
      have hag := mv_ag (t := t) (b := b)
      replace hS : va_S (gA (mv t b)) s.heap H locs := hS
      generalize mv t b = t' at hG hS hag
      rw [← hag.at (k := 287) (by decide), ← hag.at (k := 357) (by decide), ← hag.at (k := 264) (by decide)] at hl
      rw [← hag.at (k := 37) (by decide), ← hag.at (k := 287) (by decide)]
      have f175 := hag.fk (by decide) f170
      have f176 := hag.fk (by decide) f171
      replace f52 := hag.al (k := 288) (by decide) f52
      replace k53 := (hag.at (k := 287) (by decide)).trans k53
      replace X := X.ag hag (by decide)
      replace hT : ag 37 264 291 t0 t' := hT.tr hag (by decide)
      clear hag
      obtain ⟨t, rfl⟩ : ∃ z, z = t' := ⟨_, rfl⟩
      refine x_lds X (x_m 17 rfl) dL_net_425 ?_
      obtain ⟨v177, u178, hf, h⟩ := xbd_of h
      obtain ⟨g179, h⟩ := xgd_of h
      rw [g179] at hf
      refine x_ksm hS (va_runV (As := [.ref (t.2.2.1 2017)]) X.1 (c_J4_append_15ec4 l t _ _ _ _ hf) (cwV 1 X.1.2.2.2.2 gL_net_J4_append_15ec4 rfl rfl rfl hd_J4_append_15ec4 ⟨Nat.le_of_ble_eq_true rfl, Nat.le_of_ble_eq_true rfl⟩) ⟨x_blind, x_sbrecv X hG, x_pre X hG hS⟩ rfl rfl hl.1 rfl (lv_room (Nat.le_of_ble_eq_true rfl)) dL_net_427 ⟨by decide, by decide⟩) (fun b H locs hG hS => ?_)
      rw [show (37 : Int).toNat = 37 from rfl]
      have hag := mv_ag (t := t) (b := b)
      replace hS : va_S (gA (mv t b)) s.heap H locs := hS
      generalize mv t b = t' at hG hS hag
      rw [← hag.at (k := 287) (by decide), ← hag.at (k := 357) (by decide), ← hag.at (k := 264) (by decide)] at hl
      rw [← hag.at (k := 37) (by decide), ← hag.at (k := 287) (by decide)]
      have f180 := hag.fk (by decide) f175
      have f181 := hag.fk (by decide) f176
      replace f52 := hag.al (k := 288) (by decide) f52
      replace k53 := (hag.at (k := 287) (by decide)).trans k53
      replace X := X.ag hag (by decide)
      replace hT : ag 37 264 291 t0 t' := hT.tr hag (by decide)
      clear hag
      obtain ⟨t, rfl⟩ : ∃ z, z = t' := ⟨_, rfl⟩
      refine lv_aload_n X.1.1 X.1.2.1 dL_net_430 rfl (lv_at hl 2 rfl) ?_
      refine yN_geti X hG 14 23 264 23 (inC := iX10) rfl f181.1 f181.2 ⟨by decide, by decide, by decide, rfl, rfl⟩ (x_m 16 rfl) dL_net_431 ?_
      obtain ⟨v182, u183, hf, h⟩ := xbd_of h
      obtain ⟨g184, h⟩ := xgd_of h
      rw [g184] at hf
      refine x_ksm hS (va_runV (As := [.int (iI (u178 264 23))]) X.1 (c_J4_append_bf812 l t _ _ _ _ hf) (cwV 1 X.1.2.2.2.2 gL_net_J4_append_bf812 rfl rfl rfl hd_J4_append_bf812 ⟨Nat.le_of_ble_eq_true rfl, Nat.le_of_ble_eq_true rfl⟩) ⟨x_blind, x_sbrecv X hG, x_pre X hG hS⟩ rfl rfl hl.1 rfl (lv_room (Nat.le_of_ble_eq_true rfl)) dL_net_434 ⟨by decide, by decide⟩) (fun b H locs hG hS => ?_)
      rw [show (37 : Int).toNat = 37 from rfl]
      have hag := mv_ag (t := t) (b := b)
      replace hS : va_S (gA (mv t b)) s.heap H locs := hS
      generalize mv t b = t' at hG hS hag
      rw [← hag.at (k := 287) (by decide), ← hag.at (k := 357) (by decide), ← hag.at (k := 264) (by decide)] at hl
      rw [← hag.at (k := 37) (by decide), ← hag.at (k := 287) (by decide)]
      have f185 := hag.fk (by decide) f180
      have f186 := hag.fk (by decide) f181
      replace f52 := hag.al (k := 288) (by decide) f52
      replace k53 := (hag.at (k := 287) (by decide)).trans k53
      replace X := X.ag hag (by decide)
      replace hT : ag 37 264 291 t0 t' := hT.tr hag (by decide)
      clear hag
      obtain ⟨t, rfl⟩ : ∃ z, z = t' := ⟨_, rfl⟩
      refine x_lds X (x_m 18 rfl) dL_net_437 ?_
      obtain ⟨v187, u188, hf, h⟩ := xbd_of h
      obtain ⟨g189, h⟩ := xgd_of h
      rw [g189] at hf
      refine x_ksm hS (va_runV (As := [.ref (t.2.2.1 2018)]) X.1 (c_J4_append_15ec4 l t _ _ _ _ hf) (cwV 1 X.1.2.2.2.2 gL_net_J4_append_15ec4 rfl rfl rfl hd_J4_append_15ec4 ⟨Nat.le_of_ble_eq_true rfl, Nat.le_of_ble_eq_true rfl⟩) ⟨x_blind, x_sbrecv X hG, x_pre X hG hS⟩ rfl rfl hl.1 rfl (lv_room (Nat.le_of_ble_eq_true rfl)) dL_net_439 ⟨by decide, by decide⟩) (fun b H locs hG hS => ?_)
      rw [show (37 : Int).toNat = 37 from rfl]
      have hag := mv_ag (t := t) (b := b)
      replace hS : va_S (gA (mv t b)) s.heap H locs := hS
      generalize mv t b = t' at hG hS hag
      rw [← hag.at (k := 287) (by decide), ← hag.at (k := 357) (by decide), ← hag.at (k := 264) (by decide)] at hl
      rw [← hag.at (k := 37) (by decide), ← hag.at (k := 287) (by decide)]
      have f190 := hag.fk (by decide) f185
      have f191 := hag.fk (by decide) f186
      replace f52 := hag.al (k := 288) (by decide) f52
      replace k53 := (hag.at (k := 287) (by decide)).trans k53
      replace X := X.ag hag (by decide)
      replace hT : ag 37 264 291 t0 t' := hT.tr hag (by decide)
      clear hag
      obtain ⟨t, rfl⟩ : ∃ z, z = t' := ⟨_, rfl⟩
      obtain ⟨v192, u193, hf, h⟩ := xbd_of h
      refine y_callVta X hG hS (c_toString l t _ _ _ hf) (cwV 0 X.1.2.2.2.2 gL_net_J4_toString_0e30d rfl rfl rfl hd_toString ⟨Nat.le_of_ble_eq_true rfl, Nat.le_of_ble_eq_true rfl⟩) (by rfl) hl.1 (Nat.le_of_ble_eq_true rfl) dL_net_442 ⟨by decide, by decide⟩ rfl (fun t' H locs hag f194 hG hS => ?_)
      rw [← hag.at (k := 287) (by decide), ← hag.at (k := 357) (by decide), ← hag.at (k := 264) (by decide)] at hl
      rw [← hag.at (k := 287) (by decide)]
      have f195 := hag.fk (by decide) f190
      have f196 := hag.fk (by decide) f191
      replace f52 := hag.al (k := 288) (by decide) f52
      replace k53 := (hag.at (k := 287) (by decide)).trans k53
      replace X := X.ag hag (by decide)
      replace hT : ag 37 264 291 t0 t' := hT.tr hag (by decide)
      clear hag
      obtain ⟨t, rfl⟩ : ∃ z, z = t' := ⟨_, rfl⟩
      have f197 : al t 289 ∧ sT 289 = 0 := ⟨f194.1, by decide +kernel⟩
      have f198 := f194.2
      obtain ⟨g199, h⟩ := xgd_of h
      replace hG := G.pop hG g199 f195.1 f52
      have hag := pop_ag (t := t)
      have e7 : (sbT3 t).2.2.1 37 = t.2.2.1 287 := rfl
      replace hS : va_S (gA (sbT3 t)) s.heap H locs := hS
      generalize sbT3 t = t' at hG hS hag e7
      rw [← e7] at hl
      rw [← e7]
      have k8 := e7.trans k53
      obtain ⟨u200, eu200, h⟩ := xlet_of h
      replace hG : G t' u200 H := by rw [eu200]; exact hG
      rw [← hag.at (k := 357) (by decide), ← hag.at (k := 264) (by decide)] at hl
      rw [← hag.at (k := 289) (by decide)]
      have f201 := hag.fk (by decide) f196
      have f202 := hag.fk (by decide) f197
      replace f198 := hag.al (k := 290) (by decide) f198
      replace X := X.ag hag (by decide)
      replace hT : ag 37 264 291 t0 t' := hT.tr hag (by decide)
      clear hag
      obtain ⟨t, rfl⟩ : ∃ z, z = t' := ⟨_, rfl⟩
      replace hT : ag 38 264 291 t0 t := hT.b38 k8
      obtain ⟨v203, u204, hf, h⟩ := xbd_of h
      obtain ⟨g205, h⟩ := xgd_of h
      rw [g205] at hf
      refine x_ksm hS (va_runV (As := [.ref (t.2.2.1 289)]) X.1 (cd_J4_append l t _ _ _ hf f202 f198) (cwV 1 X.1.2.2.2.2 gL_net_J4_append_15ec4 rfl rfl rfl hd_J4_append_15ec4 ⟨Nat.le_of_ble_eq_true rfl, Nat.le_of_ble_eq_true rfl⟩) ⟨x_blind, x_sbrecv X hG, x_pre X hG hS⟩ rfl rfl hl.1 rfl (lv_room (Nat.le_of_ble_eq_true rfl)) dL_net_445 ⟨by decide, by decide⟩) (fun b H locs hG hS => ?_)
      rw [show (37 : Int).toNat = 37 from rfl]
      have hag := mv_ag (t := t) (b := b)
      replace hS : va_S (gA (mv t b)) s.heap H locs := hS
      generalize mv t b = t' at hG hS hag
      rw [← hag.at (k := 37) (by decide), ← hag.at (k := 357) (by decide), ← hag.at (k := 264) (by decide)] at hl
      rw [← hag.at (k := 37) (by decide)]
      have f206 := hag.fk (by decide) f201
      replace X := X.ag hag (by decide)
      replace hT : ag 38 264 291 t0 t' := hT.tr hag (by decide)
      clear hag
      obtain ⟨t, rfl⟩ : ∃ z, z = t' := ⟨_, rfl⟩
      refine lv_pop X.1.1 X.1.2.1 dL_net_448 rfl ?_
      refine lv_aload_n X.1.1 X.1.2.1 dL_net_449 rfl (lv_at hl 2 rfl) ?_
      refine lv_aload_n X.1.1 X.1.2.1 dL_net_450 rfl (lv_at hl 1 rfl) ?_
      refine x_iconst X dL_net_451 ?_
      obtain ⟨v207, u208, hf, h⟩ := xbd_of h
      refine x_callSi0 X hG hS (c_L_draw l t _ _ _ _ hf (hT.fk (by decide) q357).1) (va_cwS 2 X.1.2.2.2.2 gL_net_L_draw rfl rfl rfl hds_L_draw ⟨Nat.le_of_ble_eq_true rfl, Nat.le_of_ble_eq_true rfl⟩) (by rfl) hl.1 (Nat.le_of_ble_eq_true rfl) dL_net_452 ⟨by decide, by decide⟩ rfl (fun H locs hG hS => ?_)
      refine yN_puti X hG hS 14 10 264 10 _ tyX10 tyX10_ok nmX10 (inC := iX10) rfl f206.1 f206.2 ⟨by decide, by decide, by decide, rfl, rfl⟩ rfl (by decide +kernel) (x_m 17 rfl) dL_net_455 (fun H locs hG hS => ?_)
      obtain ⟨u209, eu209, h⟩ := xlet_of h
      replace hG : G t u209 H := by rw [eu209]; exact hG
      refine x_iconst X dL_net_458 ?_
      refine lv_istore_n (lv' := [(3, .int (iI 0)), (0, .ref (t.2.2.1 37)), (1, .ref (t.2.2.1 357)), (2, .ref (t.2.2.1 264))]) X.1.1 X.1.2.1 dL_net_459 rfl hl (by decide) rfl (fun ls hl => ?_)
      have Lgo210 : ∀ (nf : Nat) (x3_211 : Int) (u212 : uS) q, xl2 (s_L_net_460) nf x3_211 u212 = some q → ∀ (ck460 cn460 : Nat) (t : gP) (hT : ag 38 264 291 t0 t) (f213 : al t 264 ∧ sT 264 = 14), ((ck460 ≤ 115 ∧ cn460 ≤ 56828) ∧ (ck460 : Int) + (4 - x3_211) * 5 ≤ ((115 : Nat) : Int) ∧ (cn460 : Int) + (4 - x3_211) * 3000 ≤ ((56828 : Nat) : Int)) → q = (r, u') → xG p l e rL_net s m args below meth c t Q 4 ck460 cn460 460 u212 [(3, .int (iI x3_211)), (0, .ref (t.2.2.1 37)), (1, .ref (t.2.2.1 357)), (2, .ref (t.2.2.1 264))] [] := by
        refine xl2_N (F := s_L_net_460) (fun nf x3_211 u212 q => ∀ (ck460 cn460 : Nat) (t : gP) (hT : ag 38 264 291 t0 t) (f213 : al t 264 ∧ sT 264 = 14), ((ck460 ≤ 115 ∧ cn460 ≤ 56828) ∧ (ck460 : Int) + (4 - x3_211) * 5 ≤ ((115 : Nat) : Int) ∧ (cn460 : Int) + (4 - x3_211) * 3000 ≤ ((56828 : Nat) : Int)) → q = (r, u') → xG p l e rL_net s m args below meth c t Q 4 ck460 cn460 460 u212 [(3, .int (iI x3_211)), (0, .ref (t.2.2.1 37)), (1, .ref (t.2.2.1 357)), (2, .ref (t.2.2.1 264))] []) ?_
        intro nf go210 igo210 x3_211 u212 q h ck460 cn460 t hT f213 hck460 hq H locs ls hG hS hl
        subst hq
        replace X := X0.ag hT (by decide)
        unfold s_L_net_460 at h
        refine lv_iload_n X.1.1 X.1.2.1 dL_net_460 rfl (lv_at hl 0 rfl) ?_
        refine lv_aload_n X.1.1 X.1.2.1 dL_net_461 rfl (lv_at hl 3 rfl) ?_
        refine yN_geti X hG 14 10 264 10 (inC := iX10) rfl f213.1 f213.2 ⟨by decide, by decide, by decide, rfl, rfl⟩ (x_m 17 rfl) dL_net_462 ?_
        obtain ⟨g214, h⟩ := xgd_of h
        refine x_icmp_ge (tgt := 569) X g214.1 g214.2 dL_net_465 (by decide) (fun c215 => ?_) (fun c215 => ?_)
        · replace h := xif_t h c215
          refine lv_aload_n X.1.1 X.1.2.1 dL_net_569 rfl (lv_at hl 3 rfl) ?_
          cases h
          exact hret _ _ _ _ _ _ _ hT (by omega) (by omega) dL_net_570 f213.1 hG hS
        · replace h := xif_f h c215
          obtain ⟨g216, h⟩ := xgd_of h
          refine lv_aload_n X.1.1 X.1.2.1 dL_net_468 rfl (lv_at hl 3 rfl) ?_
          refine yN_getr X hG 14 4 264 5 (inC := iX10) rfl f213.1 f213.2 ⟨by decide, by decide, by decide, rfl, by decide, by decide⟩ (x_m 18 rfl) dL_net_469 ?_
          refine lv_iload_n X.1.1 X.1.2.1 dL_net_472 rfl (lv_at hl 0 rfl) ?_
          refine lv_iload_n X.1.1 X.1.2.1 dL_net_473 rfl (lv_at hl 0 rfl) ?_
          obtain ⟨g217, h⟩ := xgd_of h
          obtain ⟨j218, ej218, h⟩ := xlet_of h
          have Jj218 : ∀ (t : gP) (hT : ag 38 264 291 t0 t) (f221 : al t 264 ∧ sT 264 = 14) (f222 : al t 269 ∧ sT 269 = 100 ∧ sN 269 = 8) (s219 : Int) (u220 : uS), j218 s219 u220 = some (r, u') → xG p l e rL_net s m args below meth c t Q 4 (ck460 + 0) (cn460 + 0) 491 u220 [(0, .ref (t.2.2.1 37)), (1, .ref (t.2.2.1 357)), (2, .ref (t.2.2.1 264)), (3, .int (iI x3_211))] [.int (iI s219), .int (iI x3_211), .ref (t.2.2.1 269)] := by
              intro t hT f221 f222 s219 u220 h H locs ls hG hS hl
              replace X := X0.ag hT (by decide)
              replace h := (congrFun (congrFun ej218 s219) u220).symm.trans h
              refine lv_aload_n X.1.1 X.1.2.1 dL_net_491 rfl (lv_at hl 1 rfl) ?_
              refine x_bipush X dL_net_492 (by decide) ?_
              obtain ⟨v223, u224, hf, h⟩ := xbd_of h
              refine x_callSi0 X hG hS (c_L_draw l t _ _ _ _ hf (hT.fk (by decide) q357).1) (va_cwS 2 X.1.2.2.2.2 gL_net_L_draw rfl rfl rfl hds_L_draw ⟨Nat.le_of_ble_eq_true rfl, Nat.le_of_ble_eq_true rfl⟩) (by rfl) hl.1 (Nat.le_of_ble_eq_true rfl) dL_net_494 ⟨by show ck460 + 0 ≤ 115; omega, by show cn460 + 0 ≤ 56828; omega⟩ rfl (fun H locs hG hS => ?_)
              refine x_iadd X dL_net_497 ?_
              obtain ⟨g225, h⟩ := xgd_of h
              refine y_iast X hG hS f222.1 f222.2.1 (n := 8) f222.2.2 g225 (by decide) dL_net_498 (fun H locs hG hS => ?_)
              obtain ⟨u226, eu226, h⟩ := xlet_of h
              replace hG : G t u226 H := by rw [eu226]; exact hG
              refine lv_aload_n X.1.1 X.1.2.1 dL_net_499 rfl (lv_at hl 2 rfl) ?_
              refine yN_getr X hG 14 5 264 6 (inC := iX10) rfl f221.1 f221.2 ⟨by decide, by decide, by decide, rfl, by decide, by decide⟩ (x_m 19 rfl) dL_net_500 ?_
              refine lv_iload_n X.1.1 X.1.2.1 dL_net_503 rfl (lv_at hl 3 rfl) ?_
              refine lv_iload_n X.1.1 X.1.2.1 dL_net_504 rfl (lv_at hl 3 rfl) ?_
              obtain ⟨g227, h⟩ := xgd_of h
              obtain ⟨j228, ej228, h⟩ := xlet_of h
              have Jj228 : ∀ (t : gP) (hT : ag 38 264 291 t0 t) (f231 : al t 264 ∧ sT 264 = 14) (f232 : al t 270 ∧ sT 270 = 100 ∧ sN 270 = 8) (s229 : Int) (u230 : uS), j228 s229 u230 = some (r, u') → xG p l e rL_net s m args below meth c t Q 4 (ck460 + 0) (cn460 + 0) 520 u230 [(0, .ref (t.2.2.1 37)), (1, .ref (t.2.2.1 357)), (2, .ref (t.2.2.1 264)), (3, .int (iI x3_211))] [.int (iI s229), .int (iI x3_211), .ref (t.2.2.1 270)] := by
                  intro t hT f231 f232 s229 u230 h H locs ls hG hS hl
                  replace X := X0.ag hT (by decide)
                  replace h := (congrFun (congrFun ej228 s229) u230).symm.trans h
                  refine lv_aload_n X.1.1 X.1.2.1 dL_net_520 rfl (lv_at hl 1 rfl) ?_
                  refine x_bipush X dL_net_521 (by decide) ?_
                  obtain ⟨v233, u234, hf, h⟩ := xbd_of h
                  refine x_callSi0 X hG hS (c_L_draw l t _ _ _ _ hf (hT.fk (by decide) q357).1) (va_cwS 2 X.1.2.2.2.2 gL_net_L_draw rfl rfl rfl hds_L_draw ⟨Nat.le_of_ble_eq_true rfl, Nat.le_of_ble_eq_true rfl⟩) (by rfl) hl.1 (Nat.le_of_ble_eq_true rfl) dL_net_523 ⟨by show ck460 + 0 ≤ 115; omega, by show cn460 + 0 ≤ 56828; omega⟩ rfl (fun H locs hG hS => ?_)
                  refine x_iadd X dL_net_526 ?_
                  obtain ⟨g235, h⟩ := xgd_of h
                  refine y_iast X hG hS f232.1 f232.2.1 (n := 8) f232.2.2 g235 (by decide) dL_net_527 (fun H locs hG hS => ?_)
                  obtain ⟨u236, eu236, h⟩ := xlet_of h
                  replace hG : G t u236 H := by rw [eu236]; exact hG
                  refine lv_aload_n X.1.1 X.1.2.1 dL_net_528 rfl (lv_at hl 0 rfl) ?_
                  refine x_lds X (x_m 19 rfl) dL_net_529 ?_
                  obtain ⟨v237, u238, hf, h⟩ := xbd_of h
                  obtain ⟨g239, h⟩ := xgd_of h
                  rw [g239] at hf
                  refine x_ksm hS (va_runV (As := [.ref (t.2.2.1 2019)]) X.1 (c_J4_append_15ec4 l t _ _ _ _ hf) (cwV 1 X.1.2.2.2.2 gL_net_J4_append_15ec4 rfl rfl rfl hd_J4_append_15ec4 ⟨Nat.le_of_ble_eq_true rfl, Nat.le_of_ble_eq_true rfl⟩) ⟨x_blind, x_sbrecv X hG, x_pre X hG hS⟩ rfl rfl hl.1 rfl (lv_room (Nat.le_of_ble_eq_true rfl)) dL_net_531 ⟨by show ck460 + 0 + 1 ≤ 115; omega, by show cn460 + 0 + 600 ≤ 56828; omega⟩) (fun b H locs hG hS => ?_)
                  rw [show (37 : Int).toNat = 37 from rfl]
                  have hag := mv_ag (t := t) (b := b)
                  replace hS : va_S (gA (mv t b)) s.heap H locs := hS
                  generalize mv t b = t' at hG hS hag
                  rw [← hag.at (k := 37) (by decide), ← hag.at (k := 357) (by decide), ← hag.at (k := 264) (by decide)] at hl
                  rw [← hag.at (k := 37) (by decide)]
                  have f240 := hag.fk (by decide) f231
                  replace X := X.ag hag (by decide)
                  replace hT : ag 38 264 291 t0 t' := hT.tr hag (by decide)
                  clear hag
                  obtain ⟨t, rfl⟩ : ∃ z, z = t' := ⟨_, rfl⟩
                  refine lv_aload_n X.1.1 X.1.2.1 dL_net_534 rfl (lv_at hl 2 rfl) ?_
                  refine yN_getr X hG 14 4 264 5 (inC := iX10) rfl f240.1 f240.2 ⟨by decide, by decide, by decide, rfl, by decide, by decide⟩ (x_m 18 rfl) dL_net_535 ?_
                  refine lv_iload_n X.1.1 X.1.2.1 dL_net_538 rfl (lv_at hl 3 rfl) ?_
                  obtain ⟨g241, h⟩ := xgd_of h
                  refine y_iald X hG (fy_14_4 hG f240).1 (fy_14_4 hG f240).2.1 (n := 8) (fy_14_4 hG f240).2.2 g241 (by decide) dL_net_539 ?_
                  obtain ⟨v242, u243, hf, h⟩ := xbd_of h
                  obtain ⟨g244, h⟩ := xgd_of h
                  rw [g244] at hf
                  refine x_ksm hS (va_runV (As := [.int (iI (u238 269 x3_211))]) X.1 (c_J4_append_bf812 l t _ _ _ _ hf) (cwV 1 X.1.2.2.2.2 gL_net_J4_append_bf812 rfl rfl rfl hd_J4_append_bf812 ⟨Nat.le_of_ble_eq_true rfl, Nat.le_of_ble_eq_true rfl⟩) ⟨x_blind, x_sbrecv X hG, x_pre X hG hS⟩ rfl rfl hl.1 rfl (lv_room (Nat.le_of_ble_eq_true rfl)) dL_net_540 ⟨by show ck460 + 1 + 1 ≤ 115; omega, by show cn460 + 600 + 600 ≤ 56828; omega⟩) (fun b H locs hG hS => ?_)
                  rw [show (37 : Int).toNat = 37 from rfl]
                  have hag := mv_ag (t := t) (b := b)
                  replace hS : va_S (gA (mv t b)) s.heap H locs := hS
                  generalize mv t b = t' at hG hS hag
                  rw [← hag.at (k := 37) (by decide), ← hag.at (k := 357) (by decide), ← hag.at (k := 264) (by decide)] at hl
                  rw [← hag.at (k := 37) (by decide)]
                  have f245 := hag.fk (by decide) f240
                  replace X := X.ag hag (by decide)
                  replace hT : ag 38 264 291 t0 t' := hT.tr hag (by decide)
                  clear hag
                  obtain ⟨t, rfl⟩ : ∃ z, z = t' := ⟨_, rfl⟩
                  refine x_bipush X dL_net_543 (by decide) ?_
                  obtain ⟨v246, u247, hf, h⟩ := xbd_of h
                  obtain ⟨g248, h⟩ := xgd_of h
                  rw [g248] at hf
                  refine x_ksm hS (va_runV (As := [.int (iI 32)]) X.1 (c_J4_append_cf468 l t _ _ _ _ hf) (cwV 1 X.1.2.2.2.2 gL_net_J4_append_cf468 rfl rfl rfl hd_J4_append_cf468 ⟨Nat.le_of_ble_eq_true rfl, Nat.le_of_ble_eq_true rfl⟩) ⟨x_blind, x_sbrecv X hG, x_pre X hG hS⟩ rfl rfl hl.1 rfl (lv_room (Nat.le_of_ble_eq_true rfl)) dL_net_545 ⟨by show ck460 + 2 + 1 ≤ 115; omega, by show cn460 + 1200 + 600 ≤ 56828; omega⟩) (fun b H locs hG hS => ?_)
                  rw [show (37 : Int).toNat = 37 from rfl]
                  have hag := mv_ag (t := t) (b := b)
                  replace hS : va_S (gA (mv t b)) s.heap H locs := hS
                  generalize mv t b = t' at hG hS hag
                  rw [← hag.at (k := 37) (by decide), ← hag.at (k := 357) (by decide), ← hag.at (k := 264) (by decide)] at hl
                  rw [← hag.at (k := 37) (by decide)]
                  have f249 := hag.fk (by decide) f245
                  replace X := X.ag hag (by decide)
                  replace hT : ag 38 264 291 t0 t' := hT.tr hag (by decide)
                  clear hag
                  obtain ⟨t, rfl⟩ : ∃ z, z = t' := ⟨_, rfl⟩
                  refine lv_aload_n X.1.1 X.1.2.1 dL_net_548 rfl (lv_at hl 2 rfl) ?_
                  refine yN_getr X hG 14 5 264 6 (inC := iX10) rfl f249.1 f249.2 ⟨by decide, by decide, by decide, rfl, by decide, by decide⟩ (x_m 19 rfl) dL_net_549 ?_
                  refine lv_iload_n X.1.1 X.1.2.1 dL_net_552 rfl (lv_at hl 3 rfl) ?_
                  obtain ⟨g250, h⟩ := xgd_of h
                  refine y_iald X hG (fy_14_5 hG f249).1 (fy_14_5 hG f249).2.1 (n := 8) (fy_14_5 hG f249).2.2 g250 (by decide) dL_net_553 ?_
                  obtain ⟨v251, u252, hf, h⟩ := xbd_of h
                  obtain ⟨g253, h⟩ := xgd_of h
                  rw [g253] at hf
                  refine x_ksm hS (va_runV (As := [.int (iI (u247 270 x3_211))]) X.1 (c_J4_append_bf812 l t _ _ _ _ hf) (cwV 1 X.1.2.2.2.2 gL_net_J4_append_bf812 rfl rfl rfl hd_J4_append_bf812 ⟨Nat.le_of_ble_eq_true rfl, Nat.le_of_ble_eq_true rfl⟩) ⟨x_blind, x_sbrecv X hG, x_pre X hG hS⟩ rfl rfl hl.1 rfl (lv_room (Nat.le_of_ble_eq_true rfl)) dL_net_554 ⟨by show ck460 + 3 + 1 ≤ 115; omega, by show cn460 + 1800 + 600 ≤ 56828; omega⟩) (fun b H locs hG hS => ?_)
                  rw [show (37 : Int).toNat = 37 from rfl]
                  have hag := mv_ag (t := t) (b := b)
                  replace hS : va_S (gA (mv t b)) s.heap H locs := hS
                  generalize mv t b = t' at hG hS hag
                  rw [← hag.at (k := 37) (by decide), ← hag.at (k := 357) (by decide), ← hag.at (k := 264) (by decide)] at hl
                  rw [← hag.at (k := 37) (by decide)]
                  have f254 := hag.fk (by decide) f249
                  replace X := X.ag hag (by decide)
                  replace hT : ag 38 264 291 t0 t' := hT.tr hag (by decide)
                  clear hag
                  obtain ⟨t, rfl⟩ : ∃ z, z = t' := ⟨_, rfl⟩
                  refine x_bipush X dL_net_557 (by decide) ?_
                  obtain ⟨v255, u256, hf, h⟩ := xbd_of h
                  obtain ⟨g257, h⟩ := xgd_of h
                  rw [g257] at hf
                  refine x_ksm hS (va_runV (As := [.int (iI 59)]) X.1 (c_J4_append_cf468 l t _ _ _ _ hf) (cwV 1 X.1.2.2.2.2 gL_net_J4_append_cf468 rfl rfl rfl hd_J4_append_cf468 ⟨Nat.le_of_ble_eq_true rfl, Nat.le_of_ble_eq_true rfl⟩) ⟨x_blind, x_sbrecv X hG, x_pre X hG hS⟩ rfl rfl hl.1 rfl (lv_room (Nat.le_of_ble_eq_true rfl)) dL_net_559 ⟨by show ck460 + 4 + 1 ≤ 115; omega, by show cn460 + 2400 + 600 ≤ 56828; omega⟩) (fun b H locs hG hS => ?_)
                  rw [show (37 : Int).toNat = 37 from rfl]
                  have hag := mv_ag (t := t) (b := b)
                  replace hS : va_S (gA (mv t b)) s.heap H locs := hS
                  generalize mv t b = t' at hG hS hag
                  rw [← hag.at (k := 37) (by decide), ← hag.at (k := 357) (by decide), ← hag.at (k := 264) (by decide)] at hl
                  rw [← hag.at (k := 37) (by decide)]
                  have f258 := hag.fk (by decide) f254
                  replace X := X.ag hag (by decide)
                  replace hT : ag 38 264 291 t0 t' := hT.tr hag (by decide)
                  clear hag
                  obtain ⟨t, rfl⟩ : ∃ z, z = t' := ⟨_, rfl⟩
                  refine lv_pop X.1.1 X.1.2.1 dL_net_562 rfl ?_
                  refine lv_iinc (v := (iI (x3_211 + 1))) (lv' := [(3, .int (iI (x3_211 + 1))), (0, .ref (t.2.2.1 37)), (1, .ref (t.2.2.1 357)), (2, .ref (t.2.2.1 264))]) X.1.1 X.1.2.1 dL_net_563 hl (k := 3) rfl (iI_add _ _) (by decide) rfl (fun ls hl => ?_)
                  refine lv_goto (tgt := 460) X.1.1 X.1.2.1 dL_net_566 (by decide) ?_
                  exact igo210 _ _ _ h (ck460 + 5) (cn460 + 3000) t hT f258 (by omega) rfl _ _ _ hG hS (lv_sub hl [0, 1, 2, 3] rfl)
              refine x_if_ne (tgt := 512) X g227 dL_net_505 (by decide) (fun c259 => ?_) (fun c259 => ?_)
              · replace h := xif_f h c259
                refine lv_aload_n X.1.1 X.1.2.1 dL_net_512 rfl (lv_at hl 2 rfl) ?_
                refine yN_getr X hG 14 5 264 6 (inC := iX10) rfl f221.1 f221.2 ⟨by decide, by decide, by decide, rfl, by decide, by decide⟩ (x_m 19 rfl) dL_net_513 ?_
                refine lv_iload_n X.1.1 X.1.2.1 dL_net_516 rfl (lv_at hl 3 rfl) ?_
                refine x_iconst X dL_net_517 ?_
                refine x_isub X dL_net_518 ?_
                obtain ⟨g260, h⟩ := xgd_of h
                refine y_iald X hG (fy_14_5 hG f221).1 (fy_14_5 hG f221).2.1 (n := 8) (fy_14_5 hG f221).2.2 g260 (by decide) dL_net_519 ?_
                exact Jj228 t hT f221 (fy_14_5 hG f221) _ _ h _ _ _ hG hS (lv_sub hl [0, 1, 2, 3] rfl)
              · replace h := xif_t h c259
                refine x_iconst X dL_net_508 ?_
                refine lv_goto (tgt := 520) X.1.1 X.1.2.1 dL_net_509 (by decide) ?_
                exact Jj228 t hT f221 (fy_14_5 hG f221) _ _ h _ _ _ hG hS (lv_sub hl [0, 1, 2, 3] rfl)
          refine x_if_ne (tgt := 481) X g217 dL_net_474 (by decide) (fun c261 => ?_) (fun c261 => ?_)
          · replace h := xif_f h c261
            refine lv_aload_n X.1.1 X.1.2.1 dL_net_481 rfl (lv_at hl 3 rfl) ?_
            refine yN_getr X hG 14 4 264 5 (inC := iX10) rfl f213.1 f213.2 ⟨by decide, by decide, by decide, rfl, by decide, by decide⟩ (x_m 18 rfl) dL_net_482 ?_
            refine lv_iload_n X.1.1 X.1.2.1 dL_net_485 rfl (lv_at hl 0 rfl) ?_
            refine x_iconst X dL_net_486 ?_
            refine x_isub X dL_net_487 ?_
            obtain ⟨g262, h⟩ := xgd_of h
            refine y_iald X hG (fy_14_4 hG f213).1 (fy_14_4 hG f213).2.1 (n := 8) (fy_14_4 hG f213).2.2 g262 (by decide) dL_net_488 ?_
            refine x_iconst X dL_net_489 ?_
            refine x_iadd X dL_net_490 ?_
            exact Jj218 t hT f213 (fy_14_4 hG f213) _ _ h _ _ _ hG hS (lv_sub hl [1, 2, 3, 0] rfl)
          · replace h := xif_t h c261
            refine x_iconst X dL_net_477 ?_
            refine lv_goto (tgt := 491) X.1.1 X.1.2.1 dL_net_478 (by decide) ?_
            exact Jj218 t hT f213 (fy_14_4 hG f213) _ _ h _ _ _ hG hS (lv_sub hl [1, 2, 3, 0] rfl)
      exact Lgo210 5 _ _ _ h 95 44828 t hT f206 (by omega) rfl _ _ _ hG hS (lv_sub hl [0, 1, 2, 3] rfl)
  have Lgo263 : ∀ (nf : Nat) (x3_264 : Int) (u265 : uS) q, xl2 (s_L_net_22 j8) nf x3_264 u265 = some q → ∀ (ck22 cn22 : Nat) (t : gP) (hT : ag 38 264 291 t0 t) (f266 : al t 264 ∧ sT 264 = 14), ((ck22 ≤ 63 ∧ cn22 ≤ 27404) ∧ (ck22 : Int) + (8 - x3_264) * 7 ≤ ((63 : Nat) : Int) ∧ (cn22 : Int) + (8 - x3_264) * 3407 ≤ ((27404 : Nat) : Int)) → q = (r, u') → xG p l e rL_net s m args below meth c t Q 4 ck22 cn22 22 u265 [(3, .int (iI x3_264)), (0, .ref (t.2.2.1 37)), (1, .ref (t.2.2.1 357)), (2, .ref (t.2.2.1 264))] [] := by
    refine xl2_N (F := s_L_net_22 j8) (fun nf x3_264 u265 q => ∀ (ck22 cn22 : Nat) (t : gP) (hT : ag 38 264 291 t0 t) (f266 : al t 264 ∧ sT 264 = 14), ((ck22 ≤ 63 ∧ cn22 ≤ 27404) ∧ (ck22 : Int) + (8 - x3_264) * 7 ≤ ((63 : Nat) : Int) ∧ (cn22 : Int) + (8 - x3_264) * 3407 ≤ ((27404 : Nat) : Int)) → q = (r, u') → xG p l e rL_net s m args below meth c t Q 4 ck22 cn22 22 u265 [(3, .int (iI x3_264)), (0, .ref (t.2.2.1 37)), (1, .ref (t.2.2.1 357)), (2, .ref (t.2.2.1 264))] []) ?_
    intro nf go263 igo263 x3_264 u265 q h ck22 cn22 t hT f266 hck22 hq H locs ls hG hS hl
    subst hq
    replace X := X0.ag hT (by decide)
    unfold s_L_net_22 at h
    refine lv_iload_n X.1.1 X.1.2.1 dL_net_22 rfl (lv_at hl 0 rfl) ?_
    refine lv_aload_n X.1.1 X.1.2.1 dL_net_23 rfl (lv_at hl 3 rfl) ?_
    refine yN_geti X hG 14 6 264 6 (inC := iX10) rfl f266.1 f266.2 ⟨by decide, by decide, by decide, rfl, rfl⟩ (x_m 0 rfl) dL_net_24 ?_
    obtain ⟨g267, h⟩ := xgd_of h
    refine x_icmp_ge (tgt := 122) X g267.1 g267.2 dL_net_27 (by decide) (fun c268 => ?_) (fun c268 => ?_)
    · replace h := xif_t h c268
      refine W.widen (k := 63) (n := 27404) (by omega) (by omega) ?_
      exact Jj8 t hT f266 _ h _ _ _ hG hS (lv_sub hl [1, 2, 3] rfl)
    · replace h := xif_f h c268
      obtain ⟨g269, h⟩ := xgd_of h
      refine lv_aload_n X.1.1 X.1.2.1 dL_net_30 rfl (lv_at hl 3 rfl) ?_
      refine yN_getr X hG 14 0 264 1 (inC := iX10) rfl f266.1 f266.2 ⟨by decide, by decide, by decide, rfl, by decide, by decide⟩ (x_m 1 rfl) dL_net_31 ?_
      refine lv_iload_n X.1.1 X.1.2.1 dL_net_34 rfl (lv_at hl 0 rfl) ?_
      obtain ⟨g270, h⟩ := xgd_of h
      obtain ⟨n271, en271, h⟩ := xlet_of h
      have f273 := (fy_14_0 hG f266)
      have f274 := sT_16k g270.1.1 g270.1.2 en271
      refine mk_Place X hG hS hl.1 n271 f274 g270.2.2 (fun j9 hj => by have := g270.2.1 j9 hj; omega) ⟨by show ck22 + 0 + 2 ≤ 115; omega, by show cn22 + 0 + 407 ≤ 56828; omega⟩ (kk := fun t' H locs hag f272 hG hS => ?_)
      replace hag : ag 39 271 287 t t' := hag.wd (by omega)
      obtain ⟨u275, eu275, h⟩ := xlet_of h
      replace hG : G t' u275 H := by rw [eu275]; exact hG
      rw [← hag.at (k := 37) (by decide), ← hag.at (k := 357) (by decide), ← hag.at (k := 264) (by decide)] at hl
      rw [← hag.at (k := 265) (by decide)]
      have f276 := hag.fk (by decide) f266
      have f277 := hag.fk (by decide) f273
      replace X := X.ag hag (by decide)
      replace hT : ag 38 264 291 t0 t' := hT.tr hag (by decide)
      clear hag
      obtain ⟨t, rfl⟩ : ∃ z, z = t' := ⟨_, rfl⟩
      have f278 : al t n271 ∧ sT n271 = 16 := ⟨f272, f274.2⟩
      obtain ⟨g279, h⟩ := xgd_of h
      refine y_aast X hG hS f277.1 f277.2.1 f278.1 f278.2 (Or.inl ⟨rfl, rfl⟩) f277.2.2 g279 (by decide) dL_net_42 (fun H locs hG hS => ?_)
      obtain ⟨u280, eu280, h⟩ := xlet_of h
      replace hG : G t u280 H := by rw [eu280]; exact hG
      refine lv_aload_n X.1.1 X.1.2.1 dL_net_43 rfl (lv_at hl 3 rfl) ?_
      refine yN_getr X hG 14 0 264 1 (inC := iX10) rfl f276.1 f276.2 ⟨by decide, by decide, by decide, rfl, by decide, by decide⟩ (x_m 1 rfl) dL_net_44 ?_
      refine lv_iload_n X.1.1 X.1.2.1 dL_net_47 rfl (lv_at hl 0 rfl) ?_
      obtain ⟨g281, h⟩ := xgd_of h
      obtain ⟨g282, h⟩ := xgd_of h
      have f284 := y_qP hG (fy_14_0 hG f276).1 (fy_14_0 hG f276).2.1 (fy_14_0 hG f276).2.2 g281 g282
      obtain ⟨n283, en283, h⟩ := xlet_of h
      refine y_aaldq X hG (fy_14_0 hG f276).1 (fy_14_0 hG f276).2.1 (Or.inl rfl) (fy_14_0 hG f276).2.2 g281 (by decide) g282 dL_net_48 ?_
      rw [← en283]
      rw [← en283] at f284
      refine lv_aload_n X.1.1 X.1.2.1 dL_net_49 rfl (lv_at hl 2 rfl) ?_
      refine x_sipush X dL_net_50 (by decide) ?_
      obtain ⟨v285, u286, hf, h⟩ := xbd_of h
      refine x_callSi0 X hG hS (c_L_draw l t _ _ _ _ hf (hT.fk (by decide) q357).1) (va_cwS 2 X.1.2.2.2.2 gL_net_L_draw rfl rfl rfl hds_L_draw ⟨Nat.le_of_ble_eq_true rfl, Nat.le_of_ble_eq_true rfl⟩) (by rfl) hl.1 (Nat.le_of_ble_eq_true rfl) dL_net_53 ⟨by show ck22 + 2 ≤ 115; omega, by show cn22 + 407 ≤ 56828; omega⟩ rfl (fun H locs hG hS => ?_)
      refine yN_puti X hG hS 16 0 n283 0 _ tyX12 tyX12_ok nmX12 (inC := iX12) rfl f284.1 f284.2 ⟨by decide, by decide, by decide, rfl, rfl⟩ rfl (by decide +kernel) (x_m 2 rfl) dL_net_56 (fun H locs hG hS => ?_)
      obtain ⟨u287, eu287, h⟩ := xlet_of h
      replace hG : G t u287 H := by rw [eu287]; exact hG
      refine lv_aload_n X.1.1 X.1.2.1 dL_net_59 rfl (lv_at hl 3 rfl) ?_
      refine yN_getr X hG 14 0 264 1 (inC := iX10) rfl f276.1 f276.2 ⟨by decide, by decide, by decide, rfl, by decide, by decide⟩ (x_m 1 rfl) dL_net_60 ?_
      refine lv_iload_n X.1.1 X.1.2.1 dL_net_63 rfl (lv_at hl 0 rfl) ?_
      obtain ⟨g288, h⟩ := xgd_of h
      obtain ⟨g289, h⟩ := xgd_of h
      have f291 := y_qP hG (fy_14_0 hG f276).1 (fy_14_0 hG f276).2.1 (fy_14_0 hG f276).2.2 g288 g289
      obtain ⟨n290, en290, h⟩ := xlet_of h
      refine y_aaldq X hG (fy_14_0 hG f276).1 (fy_14_0 hG f276).2.1 (Or.inl rfl) (fy_14_0 hG f276).2.2 g288 (by decide) g289 dL_net_64 ?_
      rw [← en290]
      rw [← en290] at f291
      refine lv_aload_n X.1.1 X.1.2.1 dL_net_65 rfl (lv_at hl 2 rfl) ?_
      refine x_sipush X dL_net_66 (by decide) ?_
      obtain ⟨v292, u293, hf, h⟩ := xbd_of h
      refine x_callSi0 X hG hS (c_L_draw l t _ _ _ _ hf (hT.fk (by decide) q357).1) (va_cwS 2 X.1.2.2.2.2 gL_net_L_draw rfl rfl rfl hds_L_draw ⟨Nat.le_of_ble_eq_true rfl, Nat.le_of_ble_eq_true rfl⟩) (by rfl) hl.1 (Nat.le_of_ble_eq_true rfl) dL_net_69 ⟨by show ck22 + 2 ≤ 115; omega, by show cn22 + 407 ≤ 56828; omega⟩ rfl (fun H locs hG hS => ?_)
      refine yN_puti X hG hS 16 1 n290 1 _ tyX12 tyX12_ok nmX12 (inC := iX12) rfl f291.1 f291.2 ⟨by decide, by decide, by decide, rfl, rfl⟩ rfl (by decide +kernel) (x_m 3 rfl) dL_net_72 (fun H locs hG hS => ?_)
      obtain ⟨u294, eu294, h⟩ := xlet_of h
      replace hG : G t u294 H := by rw [eu294]; exact hG
      refine lv_aload_n X.1.1 X.1.2.1 dL_net_75 rfl (lv_at hl 1 rfl) ?_
      refine x_lds X (x_m 9 rfl) dL_net_76 ?_
      obtain ⟨v295, u296, hf, h⟩ := xbd_of h
      obtain ⟨g297, h⟩ := xgd_of h
      rw [g297] at hf
      refine x_ksm hS (va_runV (As := [.ref (t.2.2.1 2009)]) X.1 (c_J4_append_15ec4 l t _ _ _ _ hf) (cwV 1 X.1.2.2.2.2 gL_net_J4_append_15ec4 rfl rfl rfl hd_J4_append_15ec4 ⟨Nat.le_of_ble_eq_true rfl, Nat.le_of_ble_eq_true rfl⟩) ⟨x_blind, x_sbrecv X hG, x_pre X hG hS⟩ rfl rfl hl.1 rfl (lv_room (Nat.le_of_ble_eq_true rfl)) dL_net_78 ⟨by show ck22 + 2 + 1 ≤ 115; omega, by show cn22 + 407 + 600 ≤ 56828; omega⟩) (fun b H locs hG hS => ?_)
      rw [show (37 : Int).toNat = 37 from rfl]
      have hag := mv_ag (t := t) (b := b)
      replace hS : va_S (gA (mv t b)) s.heap H locs := hS
      generalize mv t b = t' at hG hS hag
      rw [← hag.at (k := 37) (by decide), ← hag.at (k := 357) (by decide), ← hag.at (k := 264) (by decide)] at hl
      rw [← hag.at (k := 37) (by decide)]
      have f298 := hag.fk (by decide) f276
      replace X := X.ag hag (by decide)
      replace hT : ag 38 264 291 t0 t' := hT.tr hag (by decide)
      clear hag
      obtain ⟨t, rfl⟩ : ∃ z, z = t' := ⟨_, rfl⟩
      refine lv_aload_n X.1.1 X.1.2.1 dL_net_81 rfl (lv_at hl 3 rfl) ?_
      refine yN_getr X hG 14 0 264 1 (inC := iX10) rfl f298.1 f298.2 ⟨by decide, by decide, by decide, rfl, by decide, by decide⟩ (x_m 1 rfl) dL_net_82 ?_
      refine lv_iload_n X.1.1 X.1.2.1 dL_net_85 rfl (lv_at hl 0 rfl) ?_
      obtain ⟨g299, h⟩ := xgd_of h
      obtain ⟨g300, h⟩ := xgd_of h
      have f302 := y_qP hG (fy_14_0 hG f298).1 (fy_14_0 hG f298).2.1 (fy_14_0 hG f298).2.2 g299 g300
      obtain ⟨n301, en301, h⟩ := xlet_of h
      refine y_aaldq X hG (fy_14_0 hG f298).1 (fy_14_0 hG f298).2.1 (Or.inl rfl) (fy_14_0 hG f298).2.2 g299 (by decide) g300 dL_net_86 ?_
      rw [← en301]
      rw [← en301] at f302
      refine yN_geti X hG 16 0 n301 0 (inC := iX12) rfl f302.1 f302.2 ⟨by decide, by decide, by decide, rfl, rfl⟩ (x_m 2 rfl) dL_net_87 ?_
      obtain ⟨v303, u304, hf, h⟩ := xbd_of h
      obtain ⟨g305, h⟩ := xgd_of h
      rw [g305] at hf
      refine x_ksm hS (va_runV (As := [.int (iI (u296 n301 0))]) X.1 (c_J4_append_bf812 l t _ _ _ _ hf) (cwV 1 X.1.2.2.2.2 gL_net_J4_append_bf812 rfl rfl rfl hd_J4_append_bf812 ⟨Nat.le_of_ble_eq_true rfl, Nat.le_of_ble_eq_true rfl⟩) ⟨x_blind, x_sbrecv X hG, x_pre X hG hS⟩ rfl rfl hl.1 rfl (lv_room (Nat.le_of_ble_eq_true rfl)) dL_net_90 ⟨by show ck22 + 3 + 1 ≤ 115; omega, by show cn22 + 1007 + 600 ≤ 56828; omega⟩) (fun b H locs hG hS => ?_)
      rw [show (37 : Int).toNat = 37 from rfl]
      have hag := mv_ag (t := t) (b := b)
      replace hS : va_S (gA (mv t b)) s.heap H locs := hS
      generalize mv t b = t' at hG hS hag
      rw [← hag.at (k := 37) (by decide), ← hag.at (k := 357) (by decide), ← hag.at (k := 264) (by decide)] at hl
      rw [← hag.at (k := 37) (by decide)]
      have f306 := hag.fk (by decide) f298
      replace X := X.ag hag (by decide)
      replace hT : ag 38 264 291 t0 t' := hT.tr hag (by decide)
      clear hag
      obtain ⟨t, rfl⟩ : ∃ z, z = t' := ⟨_, rfl⟩
      refine x_bipush X dL_net_93 (by decide) ?_
      obtain ⟨v307, u308, hf, h⟩ := xbd_of h
      obtain ⟨g309, h⟩ := xgd_of h
      rw [g309] at hf
      refine x_ksm hS (va_runV (As := [.int (iI 32)]) X.1 (c_J4_append_cf468 l t _ _ _ _ hf) (cwV 1 X.1.2.2.2.2 gL_net_J4_append_cf468 rfl rfl rfl hd_J4_append_cf468 ⟨Nat.le_of_ble_eq_true rfl, Nat.le_of_ble_eq_true rfl⟩) ⟨x_blind, x_sbrecv X hG, x_pre X hG hS⟩ rfl rfl hl.1 rfl (lv_room (Nat.le_of_ble_eq_true rfl)) dL_net_95 ⟨by show ck22 + 4 + 1 ≤ 115; omega, by show cn22 + 1607 + 600 ≤ 56828; omega⟩) (fun b H locs hG hS => ?_)
      rw [show (37 : Int).toNat = 37 from rfl]
      have hag := mv_ag (t := t) (b := b)
      replace hS : va_S (gA (mv t b)) s.heap H locs := hS
      generalize mv t b = t' at hG hS hag
      rw [← hag.at (k := 37) (by decide), ← hag.at (k := 357) (by decide), ← hag.at (k := 264) (by decide)] at hl
      rw [← hag.at (k := 37) (by decide)]
      have f310 := hag.fk (by decide) f306
      replace X := X.ag hag (by decide)
      replace hT : ag 38 264 291 t0 t' := hT.tr hag (by decide)
      clear hag
      obtain ⟨t, rfl⟩ : ∃ z, z = t' := ⟨_, rfl⟩
      refine lv_aload_n X.1.1 X.1.2.1 dL_net_98 rfl (lv_at hl 3 rfl) ?_
      refine yN_getr X hG 14 0 264 1 (inC := iX10) rfl f310.1 f310.2 ⟨by decide, by decide, by decide, rfl, by decide, by decide⟩ (x_m 1 rfl) dL_net_99 ?_
      refine lv_iload_n X.1.1 X.1.2.1 dL_net_102 rfl (lv_at hl 0 rfl) ?_
      obtain ⟨g311, h⟩ := xgd_of h
      obtain ⟨g312, h⟩ := xgd_of h
      have f314 := y_qP hG (fy_14_0 hG f310).1 (fy_14_0 hG f310).2.1 (fy_14_0 hG f310).2.2 g311 g312
      obtain ⟨n313, en313, h⟩ := xlet_of h
      refine y_aaldq X hG (fy_14_0 hG f310).1 (fy_14_0 hG f310).2.1 (Or.inl rfl) (fy_14_0 hG f310).2.2 g311 (by decide) g312 dL_net_103 ?_
      rw [← en313]
      rw [← en313] at f314
      refine yN_geti X hG 16 1 n313 1 (inC := iX12) rfl f314.1 f314.2 ⟨by decide, by decide, by decide, rfl, rfl⟩ (x_m 3 rfl) dL_net_104 ?_
      obtain ⟨v315, u316, hf, h⟩ := xbd_of h
      obtain ⟨g317, h⟩ := xgd_of h
      rw [g317] at hf
      refine x_ksm hS (va_runV (As := [.int (iI (u308 n313 1))]) X.1 (c_J4_append_bf812 l t _ _ _ _ hf) (cwV 1 X.1.2.2.2.2 gL_net_J4_append_bf812 rfl rfl rfl hd_J4_append_bf812 ⟨Nat.le_of_ble_eq_true rfl, Nat.le_of_ble_eq_true rfl⟩) ⟨x_blind, x_sbrecv X hG, x_pre X hG hS⟩ rfl rfl hl.1 rfl (lv_room (Nat.le_of_ble_eq_true rfl)) dL_net_107 ⟨by show ck22 + 5 + 1 ≤ 115; omega, by show cn22 + 2207 + 600 ≤ 56828; omega⟩) (fun b H locs hG hS => ?_)
      rw [show (37 : Int).toNat = 37 from rfl]
      have hag := mv_ag (t := t) (b := b)
      replace hS : va_S (gA (mv t b)) s.heap H locs := hS
      generalize mv t b = t' at hG hS hag
      rw [← hag.at (k := 37) (by decide), ← hag.at (k := 357) (by decide), ← hag.at (k := 264) (by decide)] at hl
      rw [← hag.at (k := 37) (by decide)]
      have f318 := hag.fk (by decide) f310
      replace X := X.ag hag (by decide)
      replace hT : ag 38 264 291 t0 t' := hT.tr hag (by decide)
      clear hag
      obtain ⟨t, rfl⟩ : ∃ z, z = t' := ⟨_, rfl⟩
      refine x_bipush X dL_net_110 (by decide) ?_
      obtain ⟨v319, u320, hf, h⟩ := xbd_of h
      obtain ⟨g321, h⟩ := xgd_of h
      rw [g321] at hf
      refine x_ksm hS (va_runV (As := [.int (iI 59)]) X.1 (c_J4_append_cf468 l t _ _ _ _ hf) (cwV 1 X.1.2.2.2.2 gL_net_J4_append_cf468 rfl rfl rfl hd_J4_append_cf468 ⟨Nat.le_of_ble_eq_true rfl, Nat.le_of_ble_eq_true rfl⟩) ⟨x_blind, x_sbrecv X hG, x_pre X hG hS⟩ rfl rfl hl.1 rfl (lv_room (Nat.le_of_ble_eq_true rfl)) dL_net_112 ⟨by show ck22 + 6 + 1 ≤ 115; omega, by show cn22 + 2807 + 600 ≤ 56828; omega⟩) (fun b H locs hG hS => ?_)
      rw [show (37 : Int).toNat = 37 from rfl]
      have hag := mv_ag (t := t) (b := b)
      replace hS : va_S (gA (mv t b)) s.heap H locs := hS
      generalize mv t b = t' at hG hS hag
      rw [← hag.at (k := 37) (by decide), ← hag.at (k := 357) (by decide), ← hag.at (k := 264) (by decide)] at hl
      rw [← hag.at (k := 37) (by decide)]
      have f322 := hag.fk (by decide) f318
      replace X := X.ag hag (by decide)
      replace hT : ag 38 264 291 t0 t' := hT.tr hag (by decide)
      clear hag
      obtain ⟨t, rfl⟩ : ∃ z, z = t' := ⟨_, rfl⟩
      refine lv_pop X.1.1 X.1.2.1 dL_net_115 rfl ?_
      refine lv_iinc (v := (iI (x3_264 + 1))) (lv' := [(3, .int (iI (x3_264 + 1))), (0, .ref (t.2.2.1 37)), (1, .ref (t.2.2.1 357)), (2, .ref (t.2.2.1 264))]) X.1.1 X.1.2.1 dL_net_116 hl (k := 0) rfl (iI_add _ _) (by decide) rfl (fun ls hl => ?_)
      refine lv_goto (tgt := 22) X.1.1 X.1.2.1 dL_net_119 (by decide) ?_
      exact igo263 _ _ _ h (ck22 + 7) (cn22 + 3407) t hT f322 (by omega) rfl _ _ _ hG hS (lv_sub hl [0, 1, 2, 3] rfl)
  exact Lgo263 9 _ _ _ h 7 148 t hT f4 (by omega) rfl _ _ _ hG hS (lv_sub hl [0, 2, 3, 1] rfl)
theorem hds_L_net : yL_net.cls ≠ "java/lang/invoke/MethodHandle" ∧ yL_net.cls ≠ "java/lang/invoke/VarHandle" ∧ (parseMethodDescriptor yL_net.desc).map (fun d => d.parameters.length) = some 2 := by decide +kernel
