abbrev rL_acts : Room := { frames := 9, cells := 92, slots := 2937, locals := 224 }
set_option maxRecDepth 100000 in
set_option maxHeartbeats 8000000 in
theorem c_L_acts (l : Launch) (hfl : l.stackTraces = false) (t0 : gP) (u : uS) (r : Int) (u' : uS) (h : f_L_acts u = some (r, u')) (aq264 : al t0 264) (aq357 : al t0 357) : xMia 39 292 354 l yL_acts wsL_acts rL_acts t0 [.ref (t0.2.2.1 0), .ref (t0.2.2.1 264), .ref (t0.2.2.1 357)] u r u' 92 2937 := by
  refine x_ofWia (cc := cL_acts) (maxL := 8) (ret := .boolean) (own := RL) (by decide) rfl rfl (Nat.le_of_ble_eq_true rfl) ?_
  intro p e s m args below meth c Q X0 hret H locs ls hG hS hl
  replace hl : lv_has ls 8 [(0, .ref (t0.2.2.1 0)), (1, .ref (t0.2.2.1 264)), (2, .ref (t0.2.2.1 357))] := hl
  have q0 : 0 < NN ∧ sT 0 = 13 := by decide
  have iX10 : ∀ w ∈ wsX100, w ∈ wsL_acts := by decide +kernel
  have iX12 : ∀ w ∈ wsX120, w ∈ wsL_acts := by decide +kernel
  have q264 : al t0 264 ∧ sT 264 = 14 := ⟨aq264, by decide +kernel⟩
  have q357 : al t0 357 ∧ sT 357 = 100 ∧ sN 357 = 1 := ⟨aq357, by decide +kernel, by decide +kernel⟩
  obtain ⟨t, ht, hT⟩ : ∃ t, t0 = t ∧ ag 39 292 354 t0 t := ⟨t0, rfl, ag.rf⟩
  have X := X0.ag hT (by decide)
  rw [ht] at hG hS hl
  clear ht
  unfold f_L_acts at h
  refine lv_aload_n X.1.1 X.1.2.1 dL_acts_0 rfl (lv_at hl 2 rfl) ?_
  refine lv_aload_n X.1.1 X.1.2.1 dL_acts_1 rfl (lv_at hl 1 rfl) ?_
  refine yN_geti X hG 14 6 264 6 (inC := iX10) rfl (hT.fk (by decide) q264).1 (hT.fk (by decide) q264).2 ⟨by decide, by decide, by decide, rfl, rfl⟩ (x_m 0 rfl) dL_acts_2 ?_
  obtain ⟨v1, u2, hf, h⟩ := xbd_of h
  refine x_callSi0 X hG hS (c_L_draw l t _ _ _ _ hf (hT.fk (by decide) q357).1) (va_cwS 2 X.1.2.2.2.2 gL_acts_L_draw rfl rfl rfl hds_L_draw ⟨Nat.le_of_ble_eq_true rfl, Nat.le_of_ble_eq_true rfl⟩) (by rfl) hl.1 (Nat.le_of_ble_eq_true rfl) dL_acts_5 ⟨by decide, by decide⟩ rfl (fun H locs hG hS => ?_)
  refine lv_istore_n (lv' := [(3, .int (iI v1)), (0, .ref (t.2.2.1 0)), (1, .ref (t.2.2.1 264)), (2, .ref (t.2.2.1 357))]) X.1.1 X.1.2.1 dL_acts_8 rfl hl (by decide) rfl (fun ls hl => ?_)
  refine lv_aload_n X.1.1 X.1.2.1 dL_acts_9 rfl (lv_at hl 2 rfl) ?_
  refine yN_getr X hG 14 0 264 1 (inC := iX10) rfl (hT.fk (by decide) q264).1 (hT.fk (by decide) q264).2 ⟨by decide, by decide, by decide, rfl, by decide, by decide⟩ (x_m 1 rfl) dL_acts_10 ?_
  refine lv_iload_n X.1.1 X.1.2.1 dL_acts_13 rfl (lv_at hl 0 rfl) ?_
  obtain ⟨g3, h⟩ := xgd_of h
  obtain ⟨g4, h⟩ := xgd_of h
  have f6 := y_qP hG (fy_14_0 hG (hT.fk (by decide) q264)).1 (fy_14_0 hG (hT.fk (by decide) q264)).2.1 (fy_14_0 hG (hT.fk (by decide) q264)).2.2 g3 g4
  obtain ⟨n5, en5, h⟩ := xlet_of h
  refine y_aaldq X hG (fy_14_0 hG (hT.fk (by decide) q264)).1 (fy_14_0 hG (hT.fk (by decide) q264)).2.1 (Or.inl rfl) (fy_14_0 hG (hT.fk (by decide) q264)).2.2 g3 (by decide) g4 dL_acts_14 ?_
  rw [← en5]
  rw [← en5] at f6
  have f7 := hT.bk (by have h9 := sT_16 _ (al_lt f6.1) f6.2; omega) f6
  refine lv_astore (lv' := [(4, .ref (t.2.2.1 n5)), (3, .int (iI v1)), (0, .ref (t.2.2.1 0)), (1, .ref (t.2.2.1 264)), (2, .ref (t.2.2.1 357))]) X.1.1 X.1.2.1 dL_acts_15 hl (by decide) rfl (fun ls hl => ?_)
  refine lv_aload_n X.1.1 X.1.2.1 dL_acts_17 rfl (lv_at hl 4 rfl) ?_
  refine x_bipush X dL_acts_18 (by decide) ?_
  obtain ⟨v8, u9, hf, h⟩ := xbd_of h
  refine x_callSi0 X hG hS (c_L_draw l t _ _ _ _ hf (hT.fk (by decide) q357).1) (va_cwS 2 X.1.2.2.2.2 gL_acts_L_draw rfl rfl rfl hds_L_draw ⟨Nat.le_of_ble_eq_true rfl, Nat.le_of_ble_eq_true rfl⟩) (by rfl) hl.1 (Nat.le_of_ble_eq_true rfl) dL_acts_20 ⟨by decide, by decide⟩ rfl (fun H locs hG hS => ?_)
  obtain ⟨g10, h⟩ := xgd_of h
  rcases Decidable.em (v8 < 0 ∨ 6 < v8) with c11 | c11
  · replace h := xif_t h c11
    refine x_tblO (tgt := 280) X g10 dL_acts_23 c11 (by decide) ?_
    refine x_iconst X dL_acts_280 ?_
    refine lv_aload_n X.1.1 X.1.2.1 dL_acts_281 rfl (lv_at hl 4 rfl) ?_
    refine x_iconst X dL_acts_282 ?_
    obtain ⟨v12, u13, hf, h⟩ := xbd_of h
    refine x_callSi0 X hG hS (c_L_draw l t _ _ _ _ hf (hT.fk (by decide) q357).1) (va_cwS 2 X.1.2.2.2.2 gL_acts_L_draw rfl rfl rfl hds_L_draw ⟨Nat.le_of_ble_eq_true rfl, Nat.le_of_ble_eq_true rfl⟩) (by rfl) hl.1 (Nat.le_of_ble_eq_true rfl) dL_acts_283 ⟨by decide, by decide⟩ rfl (fun H locs hG hS => ?_)
    refine x_iadd X dL_acts_286 ?_
    refine x_name (fun x5_14 ex5_14 => ?_)
    replace h := xlet_at ex5_14 h
    refine lv_istore (lv' := [(5, .int (iI x5_14)), (4, .ref (t.2.2.1 n5)), (3, .int (iI v1)), (0, .ref (t.2.2.1 0)), (1, .ref (t.2.2.1 264)), (2, .ref (t.2.2.1 357))]) X.1.1 X.1.2.1 dL_acts_287 hl (by decide) rfl (fun ls hl => ?_)
    refine lv_aload_n X.1.1 X.1.2.1 dL_acts_289 rfl (lv_at hl 4 rfl) ?_
    refine yN_geti X hG 14 7 264 7 (inC := iX10) rfl (hT.fk (by decide) q264).1 (hT.fk (by decide) q264).2 ⟨by decide, by decide, by decide, rfl, rfl⟩ (x_m 24 rfl) dL_acts_290 ?_
    refine x_name (fun x6_15 ex6_15 => ?_)
    replace h := xlet_at ex6_15 h
    refine lv_istore (lv' := [(6, .int (iI x6_15)), (5, .int (iI x5_14)), (4, .ref (t.2.2.1 n5)), (3, .int (iI v1)), (0, .ref (t.2.2.1 0)), (1, .ref (t.2.2.1 264)), (2, .ref (t.2.2.1 357))]) X.1.1 X.1.2.1 dL_acts_293 hl (by decide) rfl (fun ls hl => ?_)
    refine x_iconst X dL_acts_295 ?_
    refine lv_istore (lv' := [(7, .int (iI 0)), (6, .int (iI x6_15)), (5, .int (iI x5_14)), (4, .ref (t.2.2.1 n5)), (3, .int (iI v1)), (0, .ref (t.2.2.1 0)), (1, .ref (t.2.2.1 264)), (2, .ref (t.2.2.1 357))]) X.1.1 X.1.2.1 dL_acts_296 hl (by decide) rfl (fun ls hl => ?_)
    obtain ⟨j16, ej16, h⟩ := xlet_of h
    have Jj16 : ∀ (t : gP) (hT : ag 39 292 354 t0 t) (u17 : uS), j16 u17 = some (r, u') → xG p l e rL_acts s m args below meth c t Q 8 90 2925 315 u17 [(0, .ref (t.2.2.1 0)), (1, .ref (t.2.2.1 264)), (5, .int (iI x5_14)), (6, .int (iI x6_15))] [] := by
        intro t hT u17 h H locs ls hG hS hl
        replace X := X0.ag hT (by decide)
        replace h := (congrFun ej16 u17).symm.trans h
        refine lv_aload_n X.1.1 X.1.2.1 dL_acts_315 rfl (lv_at hl 0 rfl) ?_
        refine lv_iload X.1.1 X.1.2.1 dL_acts_316 (lv_at hl 2 rfl) ?_
        obtain ⟨v18, u19, hf, h⟩ := xb0_of h
        refine x_callVTi X hG hS (c_X9_pass l hfl t _ _ _ _ _ hf) (cwV 1 X.1.2.2.2.2 gL_acts_X9_pass rfl rfl rfl hd_X9_pass ⟨Nat.le_of_ble_eq_true rfl, Nat.le_of_ble_eq_true rfl⟩) q0.1 q0.2 rfl (by decide) (by rfl) hl.1 (Nat.le_of_ble_eq_true rfl) dL_acts_318 ⟨by decide, by decide⟩ rfl (fun hg H locs ce q9 hG hS h7 h8 h9 => absurd rfl hg) (fun hg H locs hG hS => ?_)
        refine lv_aload_n X.1.1 X.1.2.1 dL_acts_321 rfl (lv_at hl 1 rfl) ?_
        refine yN_geti X hG 14 7 264 7 (inC := iX10) rfl (hT.fk (by decide) q264).1 (hT.fk (by decide) q264).2 ⟨by decide, by decide, by decide, rfl, rfl⟩ (x_m 24 rfl) dL_acts_322 ?_
        refine lv_iload X.1.1 X.1.2.1 dL_acts_325 (lv_at hl 3 rfl) ?_
        refine x_isub X dL_acts_327 ?_
        obtain ⟨g20, h⟩ := xgd_of h
        refine x_icmp_ne (tgt := 335) X g20.1 g20.2 dL_acts_328 (by decide) (fun c21 => ?_) (fun c21 => ?_)
        · replace h := xif_f h c21
          refine x_iconst X dL_acts_335 ?_
          cases h
          exact hret _ _ _ _ _ _ _ hT (by decide) (by decide) dL_acts_336 (by decide) hG hS
        · replace h := xif_t h c21
          refine x_iconst X dL_acts_331 ?_
          refine lv_goto (tgt := 336) X.1.1 X.1.2.1 dL_acts_332 (by decide) ?_
          cases h
          exact hret _ _ _ _ _ _ _ hT (by decide) (by decide) dL_acts_336 (by decide) hG hS
    have Lgo22 : ∀ (nf : Nat) (x7_23 : Int) (u24 : uS) q, xl2 (s_L_acts_298 x5_14 j16) nf x7_23 u24 = some q → ∀ (ck298 cn298 : Nat) (t : gP) (hT : ag 39 292 354 t0 t), (ck298 + nf * 18 ≤ 90 ∧ cn298 + nf * 585 ≤ 2925) → q = (r, u') → xG p l e rL_acts s m args below meth c t Q 8 ck298 cn298 298 u24 [(7, .int (iI x7_23)), (0, .ref (t.2.2.1 0)), (1, .ref (t.2.2.1 264)), (5, .int (iI x5_14)), (6, .int (iI x6_15))] [] := by
      refine xl2_N (F := s_L_acts_298 x5_14 j16) (fun nf x7_23 u24 q => ∀ (ck298 cn298 : Nat) (t : gP) (hT : ag 39 292 354 t0 t), (ck298 + nf * 18 ≤ 90 ∧ cn298 + nf * 585 ≤ 2925) → q = (r, u') → xG p l e rL_acts s m args below meth c t Q 8 ck298 cn298 298 u24 [(7, .int (iI x7_23)), (0, .ref (t.2.2.1 0)), (1, .ref (t.2.2.1 264)), (5, .int (iI x5_14)), (6, .int (iI x6_15))] []) ?_
      intro nf go22 igo22 x7_23 u24 q h ck298 cn298 t hT hck298 hq H locs ls hG hS hl
      subst hq
      replace X := X0.ag hT (by decide)
      unfold s_L_acts_298 at h
      refine lv_iload X.1.1 X.1.2.1 dL_acts_298 (lv_at hl 0 rfl) ?_
      refine lv_iload X.1.1 X.1.2.1 dL_acts_300 (lv_at hl 3 rfl) ?_
      obtain ⟨g25, h⟩ := xgd_of h
      refine x_icmp_ge (tgt := 315) X g25.1 g25.2 dL_acts_302 (by decide) (fun c26 => ?_) (fun c26 => ?_)
      · replace h := xif_t h c26
        refine W.widen (k := 90) (n := 2925) (by omega) (by omega) ?_
        exact Jj16 t hT _ h _ _ _ hG hS (lv_sub hl [1, 2, 3, 4] rfl)
      · replace h := xif_f h c26
        refine lv_aload_n X.1.1 X.1.2.1 dL_acts_305 rfl (lv_at hl 2 rfl) ?_
        obtain ⟨v27, u28, hf, h⟩ := xbd_of h
        refine y_callVva X hG hS (c_X10_pass l t  _ _ _ hf (hT.fk (by decide) q264).1) (cwV 0 X.1.2.2.2.2 gL_acts_X10_pass rfl rfl rfl hd_X10_pass ⟨Nat.le_of_ble_eq_true rfl, Nat.le_of_ble_eq_true rfl⟩) (hT.fk (by decide) q264).1 (hT.fk (by decide) q264).2 rfl (by decide) (by rfl) hl.1 (Nat.le_of_ble_eq_true rfl) dL_acts_306 ⟨by show ck298 + 0 + 18 ≤ 92; omega, by show cn298 + 0 + 585 ≤ 2937; omega⟩ rfl (fun t' H locs hag hG hS => ?_)
        rw [← hag.at (k := 0) (by decide), ← hag.at (k := 264) (by decide)] at hl
        replace X := X.ag hag (by decide)
        replace hT : ag 39 292 354 t0 t' := hT.tr hag (by decide)
        clear hag
        obtain ⟨t, rfl⟩ : ∃ z, z = t' := ⟨_, rfl⟩
        refine lv_iinc (v := (iI (x7_23 + 1))) (lv' := [(7, .int (iI (x7_23 + 1))), (0, .ref (t.2.2.1 0)), (1, .ref (t.2.2.1 264)), (5, .int (iI x5_14)), (6, .int (iI x6_15))]) X.1.1 X.1.2.1 dL_acts_309 hl (k := 0) rfl (iI_add _ _) (by decide) rfl (fun ls hl => ?_)
        refine lv_goto (tgt := 298) X.1.1 X.1.2.1 dL_acts_312 (by decide) ?_
        exact igo22 _ _ _ h (ck298 + 18) (cn298 + 585) t hT (by omega) rfl _ _ _ hG hS (lv_sub hl [0, 1, 2, 3, 4] rfl)
    exact Lgo22 5 _ _ _ h 0 0 t hT ⟨by omega, by omega⟩ rfl _ _ _ hG hS (lv_sub hl [0, 5, 6, 2, 1] rfl)
  · replace h := xif_f h c11
    rcases Decidable.em (v8 = 0) with c30 | c30
    · replace h := xif_t h c30
      refine x_tblI (v := 0) (tgt := 64) X c30 (by decide) ⟨by decide, by decide⟩ dL_acts_23 rfl (by decide) ?_
      refine lv_aload_n X.1.1 X.1.2.1 dL_acts_64 rfl (lv_at hl 4 rfl) ?_
      refine x_iconst X dL_acts_65 ?_
      obtain ⟨v31, u32, hf, h⟩ := xbd_of h
      refine x_callSi0 X hG hS (c_L_draw l t _ _ _ _ hf (hT.fk (by decide) q357).1) (va_cwS 2 X.1.2.2.2.2 gL_acts_L_draw rfl rfl rfl hds_L_draw ⟨Nat.le_of_ble_eq_true rfl, Nat.le_of_ble_eq_true rfl⟩) (by rfl) hl.1 (Nat.le_of_ble_eq_true rfl) dL_acts_66 ⟨by decide, by decide⟩ rfl (fun H locs hG hS => ?_)
      obtain ⟨g33, h⟩ := xgd_of h
      obtain ⟨j34, ej34, h⟩ := xlet_of h
      have Jj34 : ∀ (t : gP) (hT : ag 39 292 354 t0 t) (s35 : Int) (u36 : uS), j34 s35 u36 = some (r, u') → xG p l e rL_acts s m args below meth c t Q 8 0 0 88 u36 [(0, .ref (t.2.2.1 0)), (3, .int (iI v1)), (4, .ref (t.2.2.1 n5))] [.int (iI s35)] := by
          intro t hT s35 u36 h H locs ls hG hS hl
          replace X := X0.ag hT (by decide)
          replace h := (congrFun (congrFun ej34 s35) u36).symm.trans h
          refine lv_istore (lv' := [(5, .int (iI s35)), (0, .ref (t.2.2.1 0)), (3, .int (iI v1)), (4, .ref (t.2.2.1 n5))]) X.1.1 X.1.2.1 dL_acts_88 hl (by decide) rfl (fun ls hl => ?_)
          refine lv_aload X.1.1 X.1.2.1 dL_acts_90 (lv_at hl 3 rfl) ?_
          refine yN_geti X hG 16 2 n5 2 (inC := iX12) rfl (hT.fk (by have h9 := sT_16 _ (al_lt f7.1) f7.2; omega) f7).1 (hT.fk (by have h9 := sT_16 _ (al_lt f7.1) f7.2; omega) f7).2 ⟨by decide, by decide, by decide, rfl, rfl⟩ (x_m 20 rfl) dL_acts_92 ?_
          refine x_name (fun x6_37 ex6_37 => ?_)
          replace h := xlet_at ex6_37 h
          refine lv_istore (lv' := [(6, .int (iI x6_37)), (5, .int (iI s35)), (0, .ref (t.2.2.1 0)), (3, .int (iI v1)), (4, .ref (t.2.2.1 n5))]) X.1.1 X.1.2.1 dL_acts_95 hl (by decide) rfl (fun ls hl => ?_)
          refine lv_aload X.1.1 X.1.2.1 dL_acts_97 (lv_at hl 4 rfl) ?_
          refine lv_iload X.1.1 X.1.2.1 dL_acts_99 (lv_at hl 1 rfl) ?_
          refine yN_puti X hG hS 16 2 n5 2 _ tyX12 tyX12_ok nmX12 (inC := iX12) rfl (hT.fk (by have h9 := sT_16 _ (al_lt f7.1) f7.2; omega) f7).1 (hT.fk (by have h9 := sT_16 _ (al_lt f7.1) f7.2; omega) f7).2 ⟨by decide, by decide, by decide, rfl, rfl⟩ rfl (by decide +kernel) (x_m 20 rfl) dL_acts_101 (fun H locs hG hS => ?_)
          obtain ⟨u38, eu38, h⟩ := xlet_of h
          replace hG : G t u38 H := by rw [eu38]; exact hG
          refine lv_aload_n X.1.1 X.1.2.1 dL_acts_104 rfl (lv_at hl 2 rfl) ?_
          refine lv_iload_n X.1.1 X.1.2.1 dL_acts_105 rfl (lv_at hl 3 rfl) ?_
          refine lv_iload X.1.1 X.1.2.1 dL_acts_106 (lv_at hl 1 rfl) ?_
          obtain ⟨v39, u40, hf, h⟩ := xb0_of h
          refine x_callVTi X hG hS (c_X9_setLevel l hfl t _ _ _ _ _ _ hf) (cwV 2 X.1.2.2.2.2 gL_acts_X9_setLevel rfl rfl rfl hd_X9_setLevel ⟨Nat.le_of_ble_eq_true rfl, Nat.le_of_ble_eq_true rfl⟩) q0.1 q0.2 rfl (by decide) (by rfl) hl.1 (Nat.le_of_ble_eq_true rfl) dL_acts_108 ⟨by decide, by decide⟩ rfl (fun hg H locs ce q9 hG hS h7 h8 h9 => absurd rfl hg) (fun hg H locs hG hS => ?_)
          refine lv_iload X.1.1 X.1.2.1 dL_acts_111 (lv_at hl 0 rfl) ?_
          obtain ⟨g41, h⟩ := xgd_of h
          refine x_icmp_ne (tgt := 120) X g41.1 g41.2 dL_acts_113 (by decide) (fun c42 => ?_) (fun c42 => ?_)
          · replace h := xif_f h c42
            refine x_iconst X dL_acts_120 ?_
            cases h
            exact hret _ _ _ _ _ _ _ hT (by decide) (by decide) dL_acts_121 (by decide) hG hS
          · replace h := xif_t h c42
            refine x_iconst X dL_acts_116 ?_
            refine lv_goto (tgt := 121) X.1.1 X.1.2.1 dL_acts_117 (by decide) ?_
            cases h
            exact hret _ _ _ _ _ _ _ hT (by decide) (by decide) dL_acts_121 (by decide) hG hS
      refine x_if_ne (tgt := 81) X g33 dL_acts_69 (by decide) (fun c43 => ?_) (fun c43 => ?_)
      · replace h := xif_f h c43
        refine lv_aload_n X.1.1 X.1.2.1 dL_acts_81 rfl (lv_at hl 4 rfl) ?_
        refine x_sipush X dL_acts_82 (by decide) ?_
        obtain ⟨v44, u45, hf, h⟩ := xbd_of h
        refine x_callSi0 X hG hS (c_L_draw l t _ _ _ _ hf (hT.fk (by decide) q357).1) (va_cwS 2 X.1.2.2.2.2 gL_acts_L_draw rfl rfl rfl hds_L_draw ⟨Nat.le_of_ble_eq_true rfl, Nat.le_of_ble_eq_true rfl⟩) (by rfl) hl.1 (Nat.le_of_ble_eq_true rfl) dL_acts_85 ⟨by decide, by decide⟩ rfl (fun H locs hG hS => ?_)
        exact Jj34 t hT _ _ h _ _ _ hG hS (lv_sub hl [2, 1, 0] rfl)
      · replace h := xif_t h c43
        refine lv_aload_n X.1.1 X.1.2.1 dL_acts_72 rfl (lv_at hl 4 rfl) ?_
        refine x_bipush X dL_acts_73 (by decide) ?_
        obtain ⟨v46, u47, hf, h⟩ := xbd_of h
        refine x_callSi0 X hG hS (c_L_draw l t _ _ _ _ hf (hT.fk (by decide) q357).1) (va_cwS 2 X.1.2.2.2.2 gL_acts_L_draw rfl rfl rfl hds_L_draw ⟨Nat.le_of_ble_eq_true rfl, Nat.le_of_ble_eq_true rfl⟩) (by rfl) hl.1 (Nat.le_of_ble_eq_true rfl) dL_acts_75 ⟨by decide, by decide⟩ rfl (fun H locs hG hS => ?_)
        refine lv_goto (tgt := 88) X.1.1 X.1.2.1 dL_acts_78 (by decide) ?_
        exact Jj34 t hT _ _ h _ _ _ hG hS (lv_sub hl [2, 1, 0] rfl)
    replace h := xif_f h c30
    rcases Decidable.em (v8 = 1) with c48 | c48
    · replace h := xif_t h c48
      refine x_tblI (v := 1) (tgt := 64) X c48 (by decide) ⟨by decide, by decide⟩ dL_acts_23 rfl (by decide) ?_
      refine lv_aload_n X.1.1 X.1.2.1 dL_acts_64 rfl (lv_at hl 4 rfl) ?_
      refine x_iconst X dL_acts_65 ?_
      obtain ⟨v49, u50, hf, h⟩ := xbd_of h
      refine x_callSi0 X hG hS (c_L_draw l t _ _ _ _ hf (hT.fk (by decide) q357).1) (va_cwS 2 X.1.2.2.2.2 gL_acts_L_draw rfl rfl rfl hds_L_draw ⟨Nat.le_of_ble_eq_true rfl, Nat.le_of_ble_eq_true rfl⟩) (by rfl) hl.1 (Nat.le_of_ble_eq_true rfl) dL_acts_66 ⟨by decide, by decide⟩ rfl (fun H locs hG hS => ?_)
      obtain ⟨g51, h⟩ := xgd_of h
      obtain ⟨j52, ej52, h⟩ := xlet_of h
      have Jj52 : ∀ (t : gP) (hT : ag 39 292 354 t0 t) (s53 : Int) (u54 : uS), j52 s53 u54 = some (r, u') → xG p l e rL_acts s m args below meth c t Q 8 0 0 88 u54 [(0, .ref (t.2.2.1 0)), (3, .int (iI v1)), (4, .ref (t.2.2.1 n5))] [.int (iI s53)] := by
          intro t hT s53 u54 h H locs ls hG hS hl
          replace X := X0.ag hT (by decide)
          replace h := (congrFun (congrFun ej52 s53) u54).symm.trans h
          refine lv_istore (lv' := [(5, .int (iI s53)), (0, .ref (t.2.2.1 0)), (3, .int (iI v1)), (4, .ref (t.2.2.1 n5))]) X.1.1 X.1.2.1 dL_acts_88 hl (by decide) rfl (fun ls hl => ?_)
          refine lv_aload X.1.1 X.1.2.1 dL_acts_90 (lv_at hl 3 rfl) ?_
          refine yN_geti X hG 16 2 n5 2 (inC := iX12) rfl (hT.fk (by have h9 := sT_16 _ (al_lt f7.1) f7.2; omega) f7).1 (hT.fk (by have h9 := sT_16 _ (al_lt f7.1) f7.2; omega) f7).2 ⟨by decide, by decide, by decide, rfl, rfl⟩ (x_m 20 rfl) dL_acts_92 ?_
          refine x_name (fun x6_55 ex6_55 => ?_)
          replace h := xlet_at ex6_55 h
          refine lv_istore (lv' := [(6, .int (iI x6_55)), (5, .int (iI s53)), (0, .ref (t.2.2.1 0)), (3, .int (iI v1)), (4, .ref (t.2.2.1 n5))]) X.1.1 X.1.2.1 dL_acts_95 hl (by decide) rfl (fun ls hl => ?_)
          refine lv_aload X.1.1 X.1.2.1 dL_acts_97 (lv_at hl 4 rfl) ?_
          refine lv_iload X.1.1 X.1.2.1 dL_acts_99 (lv_at hl 1 rfl) ?_
          refine yN_puti X hG hS 16 2 n5 2 _ tyX12 tyX12_ok nmX12 (inC := iX12) rfl (hT.fk (by have h9 := sT_16 _ (al_lt f7.1) f7.2; omega) f7).1 (hT.fk (by have h9 := sT_16 _ (al_lt f7.1) f7.2; omega) f7).2 ⟨by decide, by decide, by decide, rfl, rfl⟩ rfl (by decide +kernel) (x_m 20 rfl) dL_acts_101 (fun H locs hG hS => ?_)
          obtain ⟨u56, eu56, h⟩ := xlet_of h
          replace hG : G t u56 H := by rw [eu56]; exact hG
          refine lv_aload_n X.1.1 X.1.2.1 dL_acts_104 rfl (lv_at hl 2 rfl) ?_
          refine lv_iload_n X.1.1 X.1.2.1 dL_acts_105 rfl (lv_at hl 3 rfl) ?_
          refine lv_iload X.1.1 X.1.2.1 dL_acts_106 (lv_at hl 1 rfl) ?_
          obtain ⟨v57, u58, hf, h⟩ := xb0_of h
          refine x_callVTi X hG hS (c_X9_setLevel l hfl t _ _ _ _ _ _ hf) (cwV 2 X.1.2.2.2.2 gL_acts_X9_setLevel rfl rfl rfl hd_X9_setLevel ⟨Nat.le_of_ble_eq_true rfl, Nat.le_of_ble_eq_true rfl⟩) q0.1 q0.2 rfl (by decide) (by rfl) hl.1 (Nat.le_of_ble_eq_true rfl) dL_acts_108 ⟨by decide, by decide⟩ rfl (fun hg H locs ce q9 hG hS h7 h8 h9 => absurd rfl hg) (fun hg H locs hG hS => ?_)
          refine lv_iload X.1.1 X.1.2.1 dL_acts_111 (lv_at hl 0 rfl) ?_
          obtain ⟨g59, h⟩ := xgd_of h
          refine x_icmp_ne (tgt := 120) X g59.1 g59.2 dL_acts_113 (by decide) (fun c60 => ?_) (fun c60 => ?_)
          · replace h := xif_f h c60
            refine x_iconst X dL_acts_120 ?_
            cases h
            exact hret _ _ _ _ _ _ _ hT (by decide) (by decide) dL_acts_121 (by decide) hG hS
          · replace h := xif_t h c60
            refine x_iconst X dL_acts_116 ?_
            refine lv_goto (tgt := 121) X.1.1 X.1.2.1 dL_acts_117 (by decide) ?_
            cases h
            exact hret _ _ _ _ _ _ _ hT (by decide) (by decide) dL_acts_121 (by decide) hG hS
      refine x_if_ne (tgt := 81) X g51 dL_acts_69 (by decide) (fun c61 => ?_) (fun c61 => ?_)
      · replace h := xif_f h c61
        refine lv_aload_n X.1.1 X.1.2.1 dL_acts_81 rfl (lv_at hl 4 rfl) ?_
        refine x_sipush X dL_acts_82 (by decide) ?_
        obtain ⟨v62, u63, hf, h⟩ := xbd_of h
        refine x_callSi0 X hG hS (c_L_draw l t _ _ _ _ hf (hT.fk (by decide) q357).1) (va_cwS 2 X.1.2.2.2.2 gL_acts_L_draw rfl rfl rfl hds_L_draw ⟨Nat.le_of_ble_eq_true rfl, Nat.le_of_ble_eq_true rfl⟩) (by rfl) hl.1 (Nat.le_of_ble_eq_true rfl) dL_acts_85 ⟨by decide, by decide⟩ rfl (fun H locs hG hS => ?_)
        exact Jj52 t hT _ _ h _ _ _ hG hS (lv_sub hl [2, 1, 0] rfl)
      · replace h := xif_t h c61
        refine lv_aload_n X.1.1 X.1.2.1 dL_acts_72 rfl (lv_at hl 4 rfl) ?_
        refine x_bipush X dL_acts_73 (by decide) ?_
        obtain ⟨v64, u65, hf, h⟩ := xbd_of h
        refine x_callSi0 X hG hS (c_L_draw l t _ _ _ _ hf (hT.fk (by decide) q357).1) (va_cwS 2 X.1.2.2.2.2 gL_acts_L_draw rfl rfl rfl hds_L_draw ⟨Nat.le_of_ble_eq_true rfl, Nat.le_of_ble_eq_true rfl⟩) (by rfl) hl.1 (Nat.le_of_ble_eq_true rfl) dL_acts_75 ⟨by decide, by decide⟩ rfl (fun H locs hG hS => ?_)
        refine lv_goto (tgt := 88) X.1.1 X.1.2.1 dL_acts_78 (by decide) ?_
        exact Jj52 t hT _ _ h _ _ _ hG hS (lv_sub hl [2, 1, 0] rfl)
    replace h := xif_f h c48
    rcases Decidable.em (v8 = 2) with c66 | c66
    · replace h := xif_t h c66
      refine x_tblI (v := 2) (tgt := 64) X c66 (by decide) ⟨by decide, by decide⟩ dL_acts_23 rfl (by decide) ?_
      refine lv_aload_n X.1.1 X.1.2.1 dL_acts_64 rfl (lv_at hl 4 rfl) ?_
      refine x_iconst X dL_acts_65 ?_
      obtain ⟨v67, u68, hf, h⟩ := xbd_of h
      refine x_callSi0 X hG hS (c_L_draw l t _ _ _ _ hf (hT.fk (by decide) q357).1) (va_cwS 2 X.1.2.2.2.2 gL_acts_L_draw rfl rfl rfl hds_L_draw ⟨Nat.le_of_ble_eq_true rfl, Nat.le_of_ble_eq_true rfl⟩) (by rfl) hl.1 (Nat.le_of_ble_eq_true rfl) dL_acts_66 ⟨by decide, by decide⟩ rfl (fun H locs hG hS => ?_)
      obtain ⟨g69, h⟩ := xgd_of h
      obtain ⟨j70, ej70, h⟩ := xlet_of h
      have Jj70 : ∀ (t : gP) (hT : ag 39 292 354 t0 t) (s71 : Int) (u72 : uS), j70 s71 u72 = some (r, u') → xG p l e rL_acts s m args below meth c t Q 8 0 0 88 u72 [(0, .ref (t.2.2.1 0)), (3, .int (iI v1)), (4, .ref (t.2.2.1 n5))] [.int (iI s71)] := by
          intro t hT s71 u72 h H locs ls hG hS hl
          replace X := X0.ag hT (by decide)
          replace h := (congrFun (congrFun ej70 s71) u72).symm.trans h
          refine lv_istore (lv' := [(5, .int (iI s71)), (0, .ref (t.2.2.1 0)), (3, .int (iI v1)), (4, .ref (t.2.2.1 n5))]) X.1.1 X.1.2.1 dL_acts_88 hl (by decide) rfl (fun ls hl => ?_)
          refine lv_aload X.1.1 X.1.2.1 dL_acts_90 (lv_at hl 3 rfl) ?_
          refine yN_geti X hG 16 2 n5 2 (inC := iX12) rfl (hT.fk (by have h9 := sT_16 _ (al_lt f7.1) f7.2; omega) f7).1 (hT.fk (by have h9 := sT_16 _ (al_lt f7.1) f7.2; omega) f7).2 ⟨by decide, by decide, by decide, rfl, rfl⟩ (x_m 20 rfl) dL_acts_92 ?_
          refine x_name (fun x6_73 ex6_73 => ?_)
          replace h := xlet_at ex6_73 h
          refine lv_istore (lv' := [(6, .int (iI x6_73)), (5, .int (iI s71)), (0, .ref (t.2.2.1 0)), (3, .int (iI v1)), (4, .ref (t.2.2.1 n5))]) X.1.1 X.1.2.1 dL_acts_95 hl (by decide) rfl (fun ls hl => ?_)
          refine lv_aload X.1.1 X.1.2.1 dL_acts_97 (lv_at hl 4 rfl) ?_
          refine lv_iload X.1.1 X.1.2.1 dL_acts_99 (lv_at hl 1 rfl) ?_
          refine yN_puti X hG hS 16 2 n5 2 _ tyX12 tyX12_ok nmX12 (inC := iX12) rfl (hT.fk (by have h9 := sT_16 _ (al_lt f7.1) f7.2; omega) f7).1 (hT.fk (by have h9 := sT_16 _ (al_lt f7.1) f7.2; omega) f7).2 ⟨by decide, by decide, by decide, rfl, rfl⟩ rfl (by decide +kernel) (x_m 20 rfl) dL_acts_101 (fun H locs hG hS => ?_)
          obtain ⟨u74, eu74, h⟩ := xlet_of h
          replace hG : G t u74 H := by rw [eu74]; exact hG
          refine lv_aload_n X.1.1 X.1.2.1 dL_acts_104 rfl (lv_at hl 2 rfl) ?_
          refine lv_iload_n X.1.1 X.1.2.1 dL_acts_105 rfl (lv_at hl 3 rfl) ?_
          refine lv_iload X.1.1 X.1.2.1 dL_acts_106 (lv_at hl 1 rfl) ?_
          obtain ⟨v75, u76, hf, h⟩ := xb0_of h
          refine x_callVTi X hG hS (c_X9_setLevel l hfl t _ _ _ _ _ _ hf) (cwV 2 X.1.2.2.2.2 gL_acts_X9_setLevel rfl rfl rfl hd_X9_setLevel ⟨Nat.le_of_ble_eq_true rfl, Nat.le_of_ble_eq_true rfl⟩) q0.1 q0.2 rfl (by decide) (by rfl) hl.1 (Nat.le_of_ble_eq_true rfl) dL_acts_108 ⟨by decide, by decide⟩ rfl (fun hg H locs ce q9 hG hS h7 h8 h9 => absurd rfl hg) (fun hg H locs hG hS => ?_)
          refine lv_iload X.1.1 X.1.2.1 dL_acts_111 (lv_at hl 0 rfl) ?_
          obtain ⟨g77, h⟩ := xgd_of h
          refine x_icmp_ne (tgt := 120) X g77.1 g77.2 dL_acts_113 (by decide) (fun c78 => ?_) (fun c78 => ?_)
          · replace h := xif_f h c78
            refine x_iconst X dL_acts_120 ?_
            cases h
            exact hret _ _ _ _ _ _ _ hT (by decide) (by decide) dL_acts_121 (by decide) hG hS
          · replace h := xif_t h c78
            refine x_iconst X dL_acts_116 ?_
            refine lv_goto (tgt := 121) X.1.1 X.1.2.1 dL_acts_117 (by decide) ?_
            cases h
            exact hret _ _ _ _ _ _ _ hT (by decide) (by decide) dL_acts_121 (by decide) hG hS
      refine x_if_ne (tgt := 81) X g69 dL_acts_69 (by decide) (fun c79 => ?_) (fun c79 => ?_)
      · replace h := xif_f h c79
        refine lv_aload_n X.1.1 X.1.2.1 dL_acts_81 rfl (lv_at hl 4 rfl) ?_
        refine x_sipush X dL_acts_82 (by decide) ?_
        obtain ⟨v80, u81, hf, h⟩ := xbd_of h
        refine x_callSi0 X hG hS (c_L_draw l t _ _ _ _ hf (hT.fk (by decide) q357).1) (va_cwS 2 X.1.2.2.2.2 gL_acts_L_draw rfl rfl rfl hds_L_draw ⟨Nat.le_of_ble_eq_true rfl, Nat.le_of_ble_eq_true rfl⟩) (by rfl) hl.1 (Nat.le_of_ble_eq_true rfl) dL_acts_85 ⟨by decide, by decide⟩ rfl (fun H locs hG hS => ?_)
        exact Jj70 t hT _ _ h _ _ _ hG hS (lv_sub hl [2, 1, 0] rfl)
      · replace h := xif_t h c79
        refine lv_aload_n X.1.1 X.1.2.1 dL_acts_72 rfl (lv_at hl 4 rfl) ?_
        refine x_bipush X dL_acts_73 (by decide) ?_
        obtain ⟨v82, u83, hf, h⟩ := xbd_of h
        refine x_callSi0 X hG hS (c_L_draw l t _ _ _ _ hf (hT.fk (by decide) q357).1) (va_cwS 2 X.1.2.2.2.2 gL_acts_L_draw rfl rfl rfl hds_L_draw ⟨Nat.le_of_ble_eq_true rfl, Nat.le_of_ble_eq_true rfl⟩) (by rfl) hl.1 (Nat.le_of_ble_eq_true rfl) dL_acts_75 ⟨by decide, by decide⟩ rfl (fun H locs hG hS => ?_)
        refine lv_goto (tgt := 88) X.1.1 X.1.2.1 dL_acts_78 (by decide) ?_
        exact Jj70 t hT _ _ h _ _ _ hG hS (lv_sub hl [2, 1, 0] rfl)
    replace h := xif_f h c66
    rcases Decidable.em (v8 = 3) with c84 | c84
    · replace h := xif_t h c84
      refine x_tblI (v := 3) (tgt := 64) X c84 (by decide) ⟨by decide, by decide⟩ dL_acts_23 rfl (by decide) ?_
      refine lv_aload_n X.1.1 X.1.2.1 dL_acts_64 rfl (lv_at hl 4 rfl) ?_
      refine x_iconst X dL_acts_65 ?_
      obtain ⟨v85, u86, hf, h⟩ := xbd_of h
      refine x_callSi0 X hG hS (c_L_draw l t _ _ _ _ hf (hT.fk (by decide) q357).1) (va_cwS 2 X.1.2.2.2.2 gL_acts_L_draw rfl rfl rfl hds_L_draw ⟨Nat.le_of_ble_eq_true rfl, Nat.le_of_ble_eq_true rfl⟩) (by rfl) hl.1 (Nat.le_of_ble_eq_true rfl) dL_acts_66 ⟨by decide, by decide⟩ rfl (fun H locs hG hS => ?_)
      obtain ⟨g87, h⟩ := xgd_of h
      obtain ⟨j88, ej88, h⟩ := xlet_of h
      have Jj88 : ∀ (t : gP) (hT : ag 39 292 354 t0 t) (s89 : Int) (u90 : uS), j88 s89 u90 = some (r, u') → xG p l e rL_acts s m args below meth c t Q 8 0 0 88 u90 [(0, .ref (t.2.2.1 0)), (3, .int (iI v1)), (4, .ref (t.2.2.1 n5))] [.int (iI s89)] := by
          intro t hT s89 u90 h H locs ls hG hS hl
          replace X := X0.ag hT (by decide)
          replace h := (congrFun (congrFun ej88 s89) u90).symm.trans h
          refine lv_istore (lv' := [(5, .int (iI s89)), (0, .ref (t.2.2.1 0)), (3, .int (iI v1)), (4, .ref (t.2.2.1 n5))]) X.1.1 X.1.2.1 dL_acts_88 hl (by decide) rfl (fun ls hl => ?_)
          refine lv_aload X.1.1 X.1.2.1 dL_acts_90 (lv_at hl 3 rfl) ?_
          refine yN_geti X hG 16 2 n5 2 (inC := iX12) rfl (hT.fk (by have h9 := sT_16 _ (al_lt f7.1) f7.2; omega) f7).1 (hT.fk (by have h9 := sT_16 _ (al_lt f7.1) f7.2; omega) f7).2 ⟨by decide, by decide, by decide, rfl, rfl⟩ (x_m 20 rfl) dL_acts_92 ?_
          refine x_name (fun x6_91 ex6_91 => ?_)
          replace h := xlet_at ex6_91 h
          refine lv_istore (lv' := [(6, .int (iI x6_91)), (5, .int (iI s89)), (0, .ref (t.2.2.1 0)), (3, .int (iI v1)), (4, .ref (t.2.2.1 n5))]) X.1.1 X.1.2.1 dL_acts_95 hl (by decide) rfl (fun ls hl => ?_)
          refine lv_aload X.1.1 X.1.2.1 dL_acts_97 (lv_at hl 4 rfl) ?_
          refine lv_iload X.1.1 X.1.2.1 dL_acts_99 (lv_at hl 1 rfl) ?_
          refine yN_puti X hG hS 16 2 n5 2 _ tyX12 tyX12_ok nmX12 (inC := iX12) rfl (hT.fk (by have h9 := sT_16 _ (al_lt f7.1) f7.2; omega) f7).1 (hT.fk (by have h9 := sT_16 _ (al_lt f7.1) f7.2; omega) f7).2 ⟨by decide, by decide, by decide, rfl, rfl⟩ rfl (by decide +kernel) (x_m 20 rfl) dL_acts_101 (fun H locs hG hS => ?_)
          obtain ⟨u92, eu92, h⟩ := xlet_of h
          replace hG : G t u92 H := by rw [eu92]; exact hG
          refine lv_aload_n X.1.1 X.1.2.1 dL_acts_104 rfl (lv_at hl 2 rfl) ?_
          refine lv_iload_n X.1.1 X.1.2.1 dL_acts_105 rfl (lv_at hl 3 rfl) ?_
          refine lv_iload X.1.1 X.1.2.1 dL_acts_106 (lv_at hl 1 rfl) ?_
          obtain ⟨v93, u94, hf, h⟩ := xb0_of h
          refine x_callVTi X hG hS (c_X9_setLevel l hfl t _ _ _ _ _ _ hf) (cwV 2 X.1.2.2.2.2 gL_acts_X9_setLevel rfl rfl rfl hd_X9_setLevel ⟨Nat.le_of_ble_eq_true rfl, Nat.le_of_ble_eq_true rfl⟩) q0.1 q0.2 rfl (by decide) (by rfl) hl.1 (Nat.le_of_ble_eq_true rfl) dL_acts_108 ⟨by decide, by decide⟩ rfl (fun hg H locs ce q9 hG hS h7 h8 h9 => absurd rfl hg) (fun hg H locs hG hS => ?_)
          refine lv_iload X.1.1 X.1.2.1 dL_acts_111 (lv_at hl 0 rfl) ?_
          obtain ⟨g95, h⟩ := xgd_of h
          refine x_icmp_ne (tgt := 120) X g95.1 g95.2 dL_acts_113 (by decide) (fun c96 => ?_) (fun c96 => ?_)
          · replace h := xif_f h c96
            refine x_iconst X dL_acts_120 ?_
            cases h
            exact hret _ _ _ _ _ _ _ hT (by decide) (by decide) dL_acts_121 (by decide) hG hS
          · replace h := xif_t h c96
            refine x_iconst X dL_acts_116 ?_
            refine lv_goto (tgt := 121) X.1.1 X.1.2.1 dL_acts_117 (by decide) ?_
            cases h
            exact hret _ _ _ _ _ _ _ hT (by decide) (by decide) dL_acts_121 (by decide) hG hS
      refine x_if_ne (tgt := 81) X g87 dL_acts_69 (by decide) (fun c97 => ?_) (fun c97 => ?_)
      · replace h := xif_f h c97
        refine lv_aload_n X.1.1 X.1.2.1 dL_acts_81 rfl (lv_at hl 4 rfl) ?_
        refine x_sipush X dL_acts_82 (by decide) ?_
        obtain ⟨v98, u99, hf, h⟩ := xbd_of h
        refine x_callSi0 X hG hS (c_L_draw l t _ _ _ _ hf (hT.fk (by decide) q357).1) (va_cwS 2 X.1.2.2.2.2 gL_acts_L_draw rfl rfl rfl hds_L_draw ⟨Nat.le_of_ble_eq_true rfl, Nat.le_of_ble_eq_true rfl⟩) (by rfl) hl.1 (Nat.le_of_ble_eq_true rfl) dL_acts_85 ⟨by decide, by decide⟩ rfl (fun H locs hG hS => ?_)
        exact Jj88 t hT _ _ h _ _ _ hG hS (lv_sub hl [2, 1, 0] rfl)
      · replace h := xif_t h c97
        refine lv_aload_n X.1.1 X.1.2.1 dL_acts_72 rfl (lv_at hl 4 rfl) ?_
        refine x_bipush X dL_acts_73 (by decide) ?_
        obtain ⟨v100, u101, hf, h⟩ := xbd_of h
        refine x_callSi0 X hG hS (c_L_draw l t _ _ _ _ hf (hT.fk (by decide) q357).1) (va_cwS 2 X.1.2.2.2.2 gL_acts_L_draw rfl rfl rfl hds_L_draw ⟨Nat.le_of_ble_eq_true rfl, Nat.le_of_ble_eq_true rfl⟩) (by rfl) hl.1 (Nat.le_of_ble_eq_true rfl) dL_acts_75 ⟨by decide, by decide⟩ rfl (fun H locs hG hS => ?_)
        refine lv_goto (tgt := 88) X.1.1 X.1.2.1 dL_acts_78 (by decide) ?_
        exact Jj88 t hT _ _ h _ _ _ hG hS (lv_sub hl [2, 1, 0] rfl)
    replace h := xif_f h c84
    rcases Decidable.em (v8 = 4) with c102 | c102
    · replace h := xif_t h c102
      refine x_tblI (v := 4) (tgt := 122) X c102 (by decide) ⟨by decide, by decide⟩ dL_acts_23 rfl (by decide) ?_
      refine lv_aload X.1.1 X.1.2.1 dL_acts_122 (lv_at hl 0 rfl) ?_
      refine yN_geti X hG 16 5 n5 5 (inC := iX12) rfl (hT.fk (by have h9 := sT_16 _ (al_lt f7.1) f7.2; omega) f7).1 (hT.fk (by have h9 := sT_16 _ (al_lt f7.1) f7.2; omega) f7).2 ⟨by decide, by decide, by decide, rfl, rfl⟩ (x_m 21 rfl) dL_acts_124 ?_
      refine x_name (fun x5_103 ex5_103 => ?_)
      replace h := xlet_at ex5_103 h
      refine lv_istore (lv' := [(5, .int (iI x5_103)), (4, .ref (t.2.2.1 n5)), (3, .int (iI v1)), (0, .ref (t.2.2.1 0)), (1, .ref (t.2.2.1 264)), (2, .ref (t.2.2.1 357))]) X.1.1 X.1.2.1 dL_acts_127 hl (by decide) rfl (fun ls hl => ?_)
      refine lv_iload X.1.1 X.1.2.1 dL_acts_129 (lv_at hl 0 rfl) ?_
      obtain ⟨g104, h⟩ := xgd_of h
      obtain ⟨j105, ej105, h⟩ := xlet_of h
      have Jj105 : ∀ (t : gP) (hT : ag 39 292 354 t0 t) (s106 : Int) (u107 : uS), j105 s106 u107 = some (r, u') → xG p l e rL_acts s m args below meth c t Q 8 1 20 144 u107 [(0, .ref (t.2.2.1 0)), (3, .int (iI v1))] [.int (iI s106)] := by
          intro t hT s106 u107 h H locs ls hG hS hl
          replace X := X0.ag hT (by decide)
          replace h := (congrFun (congrFun ej105 s106) u107).symm.trans h
          refine lv_istore (lv' := [(6, .int (iI s106)), (0, .ref (t.2.2.1 0)), (3, .int (iI v1))]) X.1.1 X.1.2.1 dL_acts_144 hl (by decide) rfl (fun ls hl => ?_)
          refine lv_aload_n X.1.1 X.1.2.1 dL_acts_146 rfl (lv_at hl 1 rfl) ?_
          refine lv_iload_n X.1.1 X.1.2.1 dL_acts_147 rfl (lv_at hl 2 rfl) ?_
          obtain ⟨v108, u109, hf, h⟩ := xbd_of h
          refine x_callWi X hG hS (c_L_mutes l hfl t _ _ _ _ hf) (vx_cwSW 2 X.1.2.2.2.2 gL_acts_L_mutes rfl rfl rfl hds_L_mutes ⟨Nat.le_of_ble_eq_true rfl, Nat.le_of_ble_eq_true rfl⟩) (by rfl) hl.1 (Nat.le_of_ble_eq_true rfl) dL_acts_148 ⟨by decide, by decide⟩ rfl (fun H locs hG hS => ?_)
          refine lv_iload X.1.1 X.1.2.1 dL_acts_151 (lv_at hl 0 rfl) ?_
          obtain ⟨g110, h⟩ := xgd_of h
          refine x_icmp_ne (tgt := 160) X g110.1 g110.2 dL_acts_153 (by decide) (fun c111 => ?_) (fun c111 => ?_)
          · replace h := xif_f h c111
            refine x_iconst X dL_acts_160 ?_
            cases h
            exact hret _ _ _ _ _ _ _ hT (by decide) (by decide) dL_acts_161 (by decide) hG hS
          · replace h := xif_t h c111
            refine x_iconst X dL_acts_156 ?_
            refine lv_goto (tgt := 161) X.1.1 X.1.2.1 dL_acts_157 (by decide) ?_
            cases h
            exact hret _ _ _ _ _ _ _ hT (by decide) (by decide) dL_acts_161 (by decide) hG hS
      refine x_if_eq (tgt := 139) X g104 dL_acts_131 (by decide) (fun c112 => ?_) (fun c112 => ?_)
      · replace h := xif_t h c112
        refine lv_aload_n X.1.1 X.1.2.1 dL_acts_139 rfl (lv_at hl 4 rfl) ?_
        refine lv_iload_n X.1.1 X.1.2.1 dL_acts_140 rfl (lv_at hl 2 rfl) ?_
        obtain ⟨v113, u114, hf, h⟩ := xbd_of h
        refine y_callVia X hG hS (c_X10_mute l t _ _ _ _ hf (hT.fk (by decide) q264).1) (cwV 1 X.1.2.2.2.2 gL_acts_X10_mute rfl rfl rfl hd_X10_mute ⟨Nat.le_of_ble_eq_true rfl, Nat.le_of_ble_eq_true rfl⟩) (hT.fk (by decide) q264).1 (hT.fk (by decide) q264).2 rfl (by decide) (by rfl) hl.1 (Nat.le_of_ble_eq_true rfl) dL_acts_141 ⟨by decide, by decide⟩ rfl (fun t' H locs hag hG hS => ?_)
        rw [← hag.at (k := n5) (by have h9 := sT_16 _ (al_lt (hT.fk (by have h9 := sT_16 _ (al_lt f7.1) f7.2; omega) f7).1) (hT.fk (by have h9 := sT_16 _ (al_lt f7.1) f7.2; omega) f7).2; omega), ← hag.at (k := 0) (by decide), ← hag.at (k := 264) (by decide), ← hag.at (k := 357) (by decide)] at hl
        replace X := X.ag hag (by decide)
        replace hT : ag 39 292 354 t0 t' := hT.tr hag (by decide)
        clear hag
        obtain ⟨t, rfl⟩ : ∃ z, z = t' := ⟨_, rfl⟩
        exact Jj105 t hT _ _ h _ _ _ hG hS (lv_sub hl [3, 2] rfl)
      · replace h := xif_f h c112
        refine x_bipush X dL_acts_134 (by decide) ?_
        refine lv_goto (tgt := 144) X.1.1 X.1.2.1 dL_acts_136 (by decide) ?_
        refine W.widen (k := 1) (n := 20) (by decide) (by decide) ?_
        exact Jj105 t hT _ _ h _ _ _ hG hS (lv_sub hl [3, 2] rfl)
    replace h := xif_f h c102
    rcases Decidable.em (v8 = 5) with c116 | c116
    · replace h := xif_t h c116
      refine x_tblI (v := 5) (tgt := 162) X c116 (by decide) ⟨by decide, by decide⟩ dL_acts_23 rfl (by decide) ?_
      refine lv_aload X.1.1 X.1.2.1 dL_acts_162 (lv_at hl 0 rfl) ?_
      refine yN_geti X hG 16 5 n5 5 (inC := iX12) rfl (hT.fk (by have h9 := sT_16 _ (al_lt f7.1) f7.2; omega) f7).1 (hT.fk (by have h9 := sT_16 _ (al_lt f7.1) f7.2; omega) f7).2 ⟨by decide, by decide, by decide, rfl, rfl⟩ (x_m 21 rfl) dL_acts_164 ?_
      obtain ⟨g117, h⟩ := xgd_of h
      obtain ⟨j118, ej118, h⟩ := xlet_of h
      have Jj118 : ∀ (t : gP) (hT : ag 39 292 354 t0 t) (s119 : Int) (u120 : uS), j118 s119 u120 = some (r, u') → xG p l e rL_acts s m args below meth c t Q 8 0 0 181 u120 [(0, .ref (t.2.2.1 0)), (3, .int (iI v1)), (4, .ref (t.2.2.1 n5))] [.int (iI s119)] := by
          intro t hT s119 u120 h H locs ls hG hS hl
          replace X := X0.ag hT (by decide)
          replace h := (congrFun (congrFun ej118 s119) u120).symm.trans h
          refine lv_istore (lv' := [(5, .int (iI s119)), (0, .ref (t.2.2.1 0)), (3, .int (iI v1)), (4, .ref (t.2.2.1 n5))]) X.1.1 X.1.2.1 dL_acts_181 hl (by decide) rfl (fun ls hl => ?_)
          refine lv_aload X.1.1 X.1.2.1 dL_acts_183 (lv_at hl 3 rfl) ?_
          refine x_iconst X dL_acts_185 ?_
          refine yN_putz X hG hS 16 5 n5 5 _ tyX12 tyX12_ok nmX12 (inC := iX12) rfl (hT.fk (by have h9 := sT_16 _ (al_lt f7.1) f7.2; omega) f7).1 (hT.fk (by have h9 := sT_16 _ (al_lt f7.1) f7.2; omega) f7).2 ⟨by decide, by decide, by decide, rfl, rfl⟩ rfl (by decide +kernel) (by decide) (x_m 21 rfl) dL_acts_186 (fun H locs hG hS => ?_)
          obtain ⟨u121, eu121, h⟩ := xlet_of h
          replace hG : G t u121 H := by rw [eu121]; exact hG
          refine lv_aload_n X.1.1 X.1.2.1 dL_acts_189 rfl (lv_at hl 1 rfl) ?_
          refine lv_iload_n X.1.1 X.1.2.1 dL_acts_190 rfl (lv_at hl 2 rfl) ?_
          obtain ⟨v122, u123, hf, h⟩ := xbd_of h
          refine x_callWi X hG hS (c_L_unmutes l hfl t _ _ _ _ hf) (vx_cwSW 2 X.1.2.2.2.2 gL_acts_L_unmutes rfl rfl rfl hds_L_unmutes ⟨Nat.le_of_ble_eq_true rfl, Nat.le_of_ble_eq_true rfl⟩) (by rfl) hl.1 (Nat.le_of_ble_eq_true rfl) dL_acts_191 ⟨by decide, by decide⟩ rfl (fun H locs hG hS => ?_)
          refine lv_iload X.1.1 X.1.2.1 dL_acts_194 (lv_at hl 0 rfl) ?_
          obtain ⟨g124, h⟩ := xgd_of h
          refine x_icmp_ne (tgt := 203) X g124.1 g124.2 dL_acts_196 (by decide) (fun c125 => ?_) (fun c125 => ?_)
          · replace h := xif_f h c125
            refine x_iconst X dL_acts_203 ?_
            cases h
            exact hret _ _ _ _ _ _ _ hT (by decide) (by decide) dL_acts_204 (by decide) hG hS
          · replace h := xif_t h c125
            refine x_iconst X dL_acts_199 ?_
            refine lv_goto (tgt := 204) X.1.1 X.1.2.1 dL_acts_200 (by decide) ?_
            cases h
            exact hret _ _ _ _ _ _ _ hT (by decide) (by decide) dL_acts_204 (by decide) hG hS
      refine x_if_eq (tgt := 179) X g117 dL_acts_167 (by decide) (fun c126 => ?_) (fun c126 => ?_)
      · replace h := xif_t h c126
        refine x_bipush X dL_acts_179 (by decide) ?_
        exact Jj118 t hT _ _ h _ _ _ hG hS (lv_sub hl [2, 1, 0] rfl)
      · replace h := xif_f h c126
        refine lv_aload_n X.1.1 X.1.2.1 dL_acts_170 rfl (lv_at hl 3 rfl) ?_
        refine lv_aload X.1.1 X.1.2.1 dL_acts_171 (lv_at hl 0 rfl) ?_
        obtain ⟨v127, u128, hf, h⟩ := xbd_of h
        refine y_callVi0 X hG hS (c_X10_ratio l t _ _ _ _ hf (hT.fk (by decide) q264).1 (hT.fk (by have h9 := sT_16 _ (al_lt f7.1) f7.2; omega) f7)) (cwV 1 X.1.2.2.2.2 gL_acts_X10_ratio rfl rfl rfl hd_X10_ratio ⟨Nat.le_of_ble_eq_true rfl, Nat.le_of_ble_eq_true rfl⟩) (hT.fk (by decide) q264).1 (hT.fk (by decide) q264).2 rfl (by decide) (by rfl) hl.1 (Nat.le_of_ble_eq_true rfl) dL_acts_173 ⟨by decide, by decide⟩ rfl (fun H locs hG hS => ?_)
        refine lv_goto (tgt := 181) X.1.1 X.1.2.1 dL_acts_176 (by decide) ?_
        exact Jj118 t hT _ _ h _ _ _ hG hS (lv_sub hl [2, 1, 0] rfl)
    replace h := xif_f h c116
    rcases Decidable.em (v8 = 6) with c129 | c129
    · replace h := xif_t h c129
      refine x_tblI (v := 6) (tgt := 205) X c129 (by decide) ⟨by decide, by decide⟩ dL_acts_23 rfl (by decide) ?_
      refine lv_aload_n X.1.1 X.1.2.1 dL_acts_205 rfl (lv_at hl 4 rfl) ?_
      refine x_bipush X dL_acts_206 (by decide) ?_
      obtain ⟨v130, u131, hf, h⟩ := xbd_of h
      refine x_callSi0 X hG hS (c_L_draw l t _ _ _ _ hf (hT.fk (by decide) q357).1) (va_cwS 2 X.1.2.2.2.2 gL_acts_L_draw rfl rfl rfl hds_L_draw ⟨Nat.le_of_ble_eq_true rfl, Nat.le_of_ble_eq_true rfl⟩) (by rfl) hl.1 (Nat.le_of_ble_eq_true rfl) dL_acts_208 ⟨by decide, by decide⟩ rfl (fun H locs hG hS => ?_)
      refine lv_istore (lv' := [(5, .int (iI v130)), (4, .ref (t.2.2.1 n5)), (3, .int (iI v1)), (0, .ref (t.2.2.1 0)), (1, .ref (t.2.2.1 264)), (2, .ref (t.2.2.1 357))]) X.1.1 X.1.2.1 dL_acts_211 hl (by decide) rfl (fun ls hl => ?_)
      refine lv_iload X.1.1 X.1.2.1 dL_acts_213 (lv_at hl 0 rfl) ?_
      refine lv_aload_n X.1.1 X.1.2.1 dL_acts_215 rfl (lv_at hl 4 rfl) ?_
      refine yN_geti X hG 14 8 264 8 (inC := iX10) rfl (hT.fk (by decide) q264).1 (hT.fk (by decide) q264).2 ⟨by decide, by decide, by decide, rfl, rfl⟩ (x_m 22 rfl) dL_acts_216 ?_
      obtain ⟨g132, h⟩ := xgd_of h
      refine x_icmp_lt (tgt := 224) X g132.1 g132.2 dL_acts_219 (by decide) (fun c133 => ?_) (fun c133 => ?_)
      · replace h := xif_t h c133
        refine lv_aload_n X.1.1 X.1.2.1 dL_acts_224 rfl (lv_at hl 4 rfl) ?_
        refine yN_getr X hG 14 2 264 3 (inC := iX10) rfl (hT.fk (by decide) q264).1 (hT.fk (by decide) q264).2 ⟨by decide, by decide, by decide, rfl, by decide, by decide⟩ (x_m 23 rfl) dL_acts_225 ?_
        refine lv_iload X.1.1 X.1.2.1 dL_acts_228 (lv_at hl 0 rfl) ?_
        obtain ⟨g134, h⟩ := xgd_of h
        refine y_zald X hG (fy_14_2 hG (hT.fk (by decide) q264)).1 (fy_14_2 hG (hT.fk (by decide) q264)).2.1 (n := 20) (fy_14_2 hG (hT.fk (by decide) q264)).2.2 g134 (by decide) dL_acts_230 ?_
        obtain ⟨g135, h⟩ := xgd_of h
        obtain ⟨j136, ej136, h⟩ := xlet_of h
        have Jj136 : ∀ (t : gP) (hT : ag 39 292 354 t0 t) (s137 : Int) (u138 : uS), j136 s137 u138 = some (r, u') → xG p l e rL_acts s m args below meth c t Q 8 0 0 245 u138 [(0, .ref (t.2.2.1 0)), (1, .ref (t.2.2.1 264)), (5, .int (iI v130))] [.int (iI s137)] := by
            intro t hT s137 u138 h H locs ls hG hS hl
            replace X := X0.ag hT (by decide)
            replace h := (congrFun (congrFun ej136 s137) u138).symm.trans h
            refine lv_istore (lv' := [(6, .int (iI s137)), (0, .ref (t.2.2.1 0)), (1, .ref (t.2.2.1 264)), (5, .int (iI v130))]) X.1.1 X.1.2.1 dL_acts_245 hl (by decide) rfl (fun ls hl => ?_)
            refine lv_aload_n X.1.1 X.1.2.1 dL_acts_247 rfl (lv_at hl 2 rfl) ?_
            refine yN_getr X hG 14 2 264 3 (inC := iX10) rfl (hT.fk (by decide) q264).1 (hT.fk (by decide) q264).2 ⟨by decide, by decide, by decide, rfl, by decide, by decide⟩ (x_m 23 rfl) dL_acts_248 ?_
            refine lv_iload X.1.1 X.1.2.1 dL_acts_251 (lv_at hl 3 rfl) ?_
            obtain ⟨g139, h⟩ := xgd_of h
            refine y_zald X hG (fy_14_2 hG (hT.fk (by decide) q264)).1 (fy_14_2 hG (hT.fk (by decide) q264)).2.1 (n := 20) (fy_14_2 hG (hT.fk (by decide) q264)).2.2 g139 (by decide) dL_acts_253 ?_
            obtain ⟨g140, h⟩ := xgd_of h
            obtain ⟨j141, ej141, h⟩ := xlet_of h
            have Jj141 : ∀ (t : gP) (hT : ag 39 292 354 t0 t) (u142 : uS), j141 u142 = some (r, u') → xG p l e rL_acts s m args below meth c t Q 8 0 0 263 u142 [(0, .ref (t.2.2.1 0)), (5, .int (iI v130)), (6, .int (iI s137))] [] := by
                intro t hT u142 h H locs ls hG hS hl
                replace X := X0.ag hT (by decide)
                replace h := (congrFun ej141 u142).symm.trans h
                refine lv_aload_n X.1.1 X.1.2.1 dL_acts_263 rfl (lv_at hl 0 rfl) ?_
                refine lv_iload X.1.1 X.1.2.1 dL_acts_264 (lv_at hl 1 rfl) ?_
                obtain ⟨v143, u144, hf, h⟩ := xbd_of h
                refine x_callWi X hG hS (c_L_retracts l hfl t _ _ _ _ hf) (vx_cwSW 2 X.1.2.2.2.2 gL_acts_L_retracts rfl rfl rfl hds_L_retracts ⟨Nat.le_of_ble_eq_true rfl, Nat.le_of_ble_eq_true rfl⟩) (by rfl) hl.1 (Nat.le_of_ble_eq_true rfl) dL_acts_266 ⟨by decide, by decide⟩ rfl (fun H locs hG hS => ?_)
                refine lv_iload X.1.1 X.1.2.1 dL_acts_269 (lv_at hl 2 rfl) ?_
                obtain ⟨g145, h⟩ := xgd_of h
                refine x_icmp_ne (tgt := 278) X g145.1 g145.2 dL_acts_271 (by decide) (fun c146 => ?_) (fun c146 => ?_)
                · replace h := xif_f h c146
                  refine x_iconst X dL_acts_278 ?_
                  cases h
                  exact hret _ _ _ _ _ _ _ hT (by decide) (by decide) dL_acts_279 (by decide) hG hS
                · replace h := xif_t h c146
                  refine x_iconst X dL_acts_274 ?_
                  refine lv_goto (tgt := 279) X.1.1 X.1.2.1 dL_acts_275 (by decide) ?_
                  cases h
                  exact hret _ _ _ _ _ _ _ hT (by decide) (by decide) dL_acts_279 (by decide) hG hS
            refine x_if_ne (tgt := 263) X g140 dL_acts_254 (by decide) (fun c147 => ?_) (fun c147 => ?_)
            · replace h := xif_f h c147
              exact Jj141 t hT _ h _ _ _ hG hS (lv_sub hl [1, 3, 0] rfl)
            · replace h := xif_t h c147
              refine lv_aload_n X.1.1 X.1.2.1 dL_acts_257 rfl (lv_at hl 2 rfl) ?_
              refine lv_iload X.1.1 X.1.2.1 dL_acts_258 (lv_at hl 3 rfl) ?_
              obtain ⟨v148, u149, hf, h⟩ := xbd_of h
              refine y_callVv0 X hG hS (c_X10_retract l t _ _ _ _ hf (hT.fk (by decide) q264).1) (cwV 1 X.1.2.2.2.2 gL_acts_X10_retract rfl rfl rfl hd_X10_retract ⟨Nat.le_of_ble_eq_true rfl, Nat.le_of_ble_eq_true rfl⟩) (hT.fk (by decide) q264).1 (hT.fk (by decide) q264).2 rfl (by decide) (by rfl) hl.1 (Nat.le_of_ble_eq_true rfl) dL_acts_260 ⟨by decide, by decide⟩ rfl (fun H locs hG hS => ?_)
              exact Jj141 t hT _ h _ _ _ hG hS (lv_sub hl [1, 3, 0] rfl)
        refine x_if_eq (tgt := 239) X g135 dL_acts_231 (by decide) (fun c150 => ?_) (fun c150 => ?_)
        · replace h := xif_t h c150
          refine lv_aload_n X.1.1 X.1.2.1 dL_acts_239 rfl (lv_at hl 4 rfl) ?_
          refine lv_iload X.1.1 X.1.2.1 dL_acts_240 (lv_at hl 0 rfl) ?_
          obtain ⟨v151, u152, hf, h⟩ := xbd_of h
          refine y_callVi0 X hG hS (c_X10_size l t _ _ _ _ hf (hT.fk (by decide) q264).1) (cwV 1 X.1.2.2.2.2 gL_acts_X10_size rfl rfl rfl hd_X10_size ⟨Nat.le_of_ble_eq_true rfl, Nat.le_of_ble_eq_true rfl⟩) (hT.fk (by decide) q264).1 (hT.fk (by decide) q264).2 rfl (by decide) (by rfl) hl.1 (Nat.le_of_ble_eq_true rfl) dL_acts_242 ⟨by decide, by decide⟩ rfl (fun H locs hG hS => ?_)
          exact Jj136 t hT _ _ h _ _ _ hG hS (lv_sub hl [3, 4, 0] rfl)
        · replace h := xif_f h c150
          refine x_bipush X dL_acts_234 (by decide) ?_
          refine lv_goto (tgt := 245) X.1.1 X.1.2.1 dL_acts_236 (by decide) ?_
          exact Jj136 t hT _ _ h _ _ _ hG hS (lv_sub hl [3, 4, 0] rfl)
      · replace h := xif_f h c133
        refine x_iconst X dL_acts_222 ?_
        cases h
        exact hret _ _ _ _ _ _ _ hT (by decide) (by decide) dL_acts_223 (by decide) hG hS
    replace h := xif_f h c129
    cases h
theorem hds_L_acts : yL_acts.cls ≠ "java/lang/invoke/MethodHandle" ∧ yL_acts.cls ≠ "java/lang/invoke/VarHandle" ∧ (parseMethodDescriptor yL_acts.desc).map (fun d => d.parameters.length) = some 3 := by decide +kernel
