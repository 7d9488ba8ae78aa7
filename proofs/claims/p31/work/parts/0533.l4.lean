abbrev rL_agrees : Room := { frames := 8, cells := 1683, slots := 9654, locals := 163 }
set_option maxRecDepth 100000 in
set_option maxHeartbeats 8000000 in
theorem c_L_agrees (l : Launch) (hfl : l.stackTraces = false) (t0 : gP) (u : uS) (r : Int) (u' : uS) (h : f_L_agrees u = some (r, u')) (aq264 : al t0 264) : xMia 39 354 357 l yL_agrees wsL_agrees rL_agrees t0 [.ref (t0.2.2.1 0), .ref (t0.2.2.1 264)] u r u' 1683 9654 := by
  refine x_ofWia (cc := cL_agrees) (maxL := 7) (ret := .boolean) (own := RL) (by decide) rfl rfl (Nat.le_of_ble_eq_true rfl) ?_
  intro p e s m args below meth c Q X0 hret H locs ls hG hS hl
  replace hl : lv_has ls 7 [(0, .ref (t0.2.2.1 0)), (1, .ref (t0.2.2.1 264))] := hl
  have q0 : 0 < NN ∧ sT 0 = 13 := by decide
  have iX10 : ∀ w ∈ wsX100, w ∈ wsL_agrees := by decide +kernel
  have iX11 : ∀ w ∈ wsX110, w ∈ wsL_agrees := by decide +kernel
  have iX12 : ∀ w ∈ wsX120, w ∈ wsL_agrees := by decide +kernel
  have w1 : Cond.arrayClass .int ∈ wsL_agrees := x_w 1 rfl
  have q264 : al t0 264 ∧ sT 264 = 14 := ⟨aq264, by decide +kernel⟩
  obtain ⟨t, ht, hT⟩ : ∃ t, t0 = t ∧ ag 39 354 357 t0 t := ⟨t0, rfl, ag.rf⟩
  have X := X0.ag hT (by decide)
  rw [ht] at hG hS hl
  clear ht
  unfold f_L_agrees at h
  refine lv_aload_n X.1.1 X.1.2.1 dL_agrees_0 rfl (lv_at hl 0 rfl) ?_
  obtain ⟨v1, u2, hf, h⟩ := xbd_of h
  refine x_callVi0 X hG hS (c_X9_tick l t  _ _ _ hf) (cwV 0 X.1.2.2.2.2 gL_agrees_X9_tick rfl rfl rfl hd_X9_tick ⟨Nat.le_of_ble_eq_true rfl, Nat.le_of_ble_eq_true rfl⟩) q0.1 q0.2 rfl (by decide) (by rfl) hl.1 (Nat.le_of_ble_eq_true rfl) dL_agrees_1 ⟨by decide, by decide⟩ rfl (fun H locs hG hS => ?_)
  refine lv_aload_n X.1.1 X.1.2.1 dL_agrees_4 rfl (lv_at hl 1 rfl) ?_
  refine yN_geti X hG 14 9 264 9 (inC := iX10) rfl (hT.fk (by decide) q264).1 (hT.fk (by decide) q264).2 ⟨by decide, by decide, by decide, rfl, rfl⟩ (x_m 25 rfl) dL_agrees_5 ?_
  obtain ⟨g3, h⟩ := xgd_of h
  refine x_icmp_ne (tgt := 35) X g3.1 g3.2 dL_agrees_8 (by decide) (fun c4 => ?_) (fun c4 => ?_)
  · replace h := xif_f h c4
    refine x_iconst X dL_agrees_35 ?_
    cases h
    exact hret _ _ _ _ _ _ _ hT (by decide) (by decide) dL_agrees_36 (by decide) hG hS
  · replace h := xif_t h c4
    refine lv_aload_n X.1.1 X.1.2.1 dL_agrees_11 rfl (lv_at hl 0 rfl) ?_
    refine x_iconst X dL_agrees_12 ?_
    obtain ⟨v5, u6, hf, h⟩ := xb0_of h
    refine x_callVTi X hG hS (c_X9_size l hfl t _ _ _ _ _ hf) (cwV 1 X.1.2.2.2.2 gL_agrees_X9_size rfl rfl rfl hd_X9_size ⟨Nat.le_of_ble_eq_true rfl, Nat.le_of_ble_eq_true rfl⟩) q0.1 q0.2 rfl (by decide) (by rfl) hl.1 (Nat.le_of_ble_eq_true rfl) dL_agrees_13 ⟨by decide, by decide⟩ rfl (fun hg H locs ce q9 hG hS h7 h8 h9 => absurd rfl hg) (fun hg H locs hG hS => ?_)
    refine lv_aload_n X.1.1 X.1.2.1 dL_agrees_16 rfl (lv_at hl 1 rfl) ?_
    refine yN_geti X hG 14 7 264 7 (inC := iX10) rfl (hT.fk (by decide) q264).1 (hT.fk (by decide) q264).2 ⟨by decide, by decide, by decide, rfl, rfl⟩ (x_m 24 rfl) dL_agrees_17 ?_
    obtain ⟨g7, h⟩ := xgd_of h
    refine x_icmp_ne (tgt := 35) X g7.1 g7.2 dL_agrees_20 (by decide) (fun c8 => ?_) (fun c8 => ?_)
    · replace h := xif_f h c8
      refine x_iconst X dL_agrees_35 ?_
      cases h
      exact hret _ _ _ _ _ _ _ hT (by decide) (by decide) dL_agrees_36 (by decide) hG hS
    · replace h := xif_t h c8
      refine lv_aload_n X.1.1 X.1.2.1 dL_agrees_23 rfl (lv_at hl 0 rfl) ?_
      refine x_iconst X dL_agrees_24 ?_
      obtain ⟨v9, u10, hf, h⟩ := xb0_of h
      refine x_callVTi X hG hS (c_X9_size l hfl t _ _ _ _ _ hf) (cwV 1 X.1.2.2.2.2 gL_agrees_X9_size rfl rfl rfl hd_X9_size ⟨Nat.le_of_ble_eq_true rfl, Nat.le_of_ble_eq_true rfl⟩) q0.1 q0.2 rfl (by decide) (by rfl) hl.1 (Nat.le_of_ble_eq_true rfl) dL_agrees_25 ⟨by decide, by decide⟩ rfl (fun hg H locs ce q9 hG hS h7 h8 h9 => absurd rfl hg) (fun hg H locs hG hS => ?_)
      refine lv_aload_n X.1.1 X.1.2.1 dL_agrees_28 rfl (lv_at hl 1 rfl) ?_
      refine yN_geti X hG 14 8 264 8 (inC := iX10) rfl (hT.fk (by decide) q264).1 (hT.fk (by decide) q264).2 ⟨by decide, by decide, by decide, rfl, rfl⟩ (x_m 22 rfl) dL_agrees_29 ?_
      obtain ⟨g11, h⟩ := xgd_of h
      refine x_icmp_eq (tgt := 37) X g11.1 g11.2 dL_agrees_32 (by decide) (fun c12 => ?_) (fun c12 => ?_)
      · replace h := xif_t h c12
        refine x_iconst X dL_agrees_37 ?_
        refine lv_istore_n (lv' := [(2, .int (iI 0)), (0, .ref (t.2.2.1 0)), (1, .ref (t.2.2.1 264))]) X.1.1 X.1.2.1 dL_agrees_38 rfl hl (by decide) rfl (fun ls hl => ?_)
        refine x_iconst X dL_agrees_39 ?_
        refine lv_istore_n (lv' := [(3, .int (iI 0)), (2, .int (iI 0)), (0, .ref (t.2.2.1 0)), (1, .ref (t.2.2.1 264))]) X.1.1 X.1.2.1 dL_agrees_40 rfl hl (by decide) rfl (fun ls hl => ?_)
        obtain ⟨j13, ej13, h⟩ := xlet_of h
        have Jj13 : ∀ (t : gP) (hT : ag 39 354 357 t0 t) (x2_14 : Int) (u15 : uS), j13 x2_14 u15 = some (r, u') → xG p l e rL_agrees s m args below meth c t Q 7 173 1056 206 u15 [(0, .ref (t.2.2.1 0)), (1, .ref (t.2.2.1 264)), (2, .int (iI x2_14))] [] := by
            intro t hT x2_14 u15 h H locs ls hG hS hl
            replace X := X0.ag hT (by decide)
            replace h := (congrFun (congrFun ej13 x2_14) u15).symm.trans h
            refine lv_aload_n X.1.1 X.1.2.1 dL_agrees_206 rfl (lv_at hl 0 rfl) ?_
            obtain ⟨v16, u17, hf, h⟩ := xbd_of h
            refine x_callVi0 X hG hS (c_X9_triggered l t  _ _ _ hf) (cwV 0 X.1.2.2.2.2 gL_agrees_X9_triggered rfl rfl rfl hd_X9_triggered ⟨Nat.le_of_ble_eq_true rfl, Nat.le_of_ble_eq_true rfl⟩) q0.1 q0.2 rfl (by decide) (by rfl) hl.1 (Nat.le_of_ble_eq_true rfl) dL_agrees_207 ⟨by decide, by decide⟩ rfl (fun H locs hG hS => ?_)
            refine lv_iload_n X.1.1 X.1.2.1 dL_agrees_210 rfl (lv_at hl 2 rfl) ?_
            obtain ⟨g18, h⟩ := xgd_of h
            refine x_icmp_eq (tgt := 216) X g18.1 g18.2 dL_agrees_211 (by decide) (fun c19 => ?_) (fun c19 => ?_)
            · replace h := xif_t h c19
              refine x_iconst X dL_agrees_216 ?_
              refine lv_istore_n (lv' := [(3, .int (iI 0)), (0, .ref (t.2.2.1 0)), (1, .ref (t.2.2.1 264)), (2, .int (iI x2_14))]) X.1.1 X.1.2.1 dL_agrees_217 rfl hl (by decide) rfl (fun ls hl => ?_)
              obtain ⟨j20, ej20, h⟩ := xlet_of h
              have Jj20 : ∀ (t : gP) (hT : ag 39 354 357 t0 t) (u21 : uS), j20 u21 = some (r, u') → xG p l e rL_agrees s m args below meth c t Q 7 905 5448 341 u21 [(0, .ref (t.2.2.1 0)), (1, .ref (t.2.2.1 264))] [] := by
                  intro t hT u21 h H locs ls hG hS hl
                  replace X := X0.ag hT (by decide)
                  replace h := (congrFun ej20 u21).symm.trans h
                  refine x_iconst X dL_agrees_341 ?_
                  refine lv_istore_n (lv' := [(3, .int (iI 0)), (0, .ref (t.2.2.1 0)), (1, .ref (t.2.2.1 264))]) X.1.1 X.1.2.1 dL_agrees_342 rfl hl (by decide) rfl (fun ls hl => ?_)
                  refine x_iconst X dL_agrees_343 ?_
                  refine lv_istore (lv' := [(4, .int (iI 0)), (3, .int (iI 0)), (0, .ref (t.2.2.1 0)), (1, .ref (t.2.2.1 264))]) X.1.1 X.1.2.1 dL_agrees_344 hl (by decide) rfl (fun ls hl => ?_)
                  obtain ⟨j22, ej22, h⟩ := xlet_of h
                  have Jj22 : ∀ (t : gP) (hT : ag 39 354 357 t0 t) (x3_23 : Int) (u24 : uS), j22 x3_23 u24 = some (r, u') → xG p l e rL_agrees s m args below meth c t Q 7 1682 9648 547 u24 [(0, .ref (t.2.2.1 0)), (3, .int (iI x3_23))] [] := by
                      intro t hT x3_23 u24 h H locs ls hG hS hl
                      replace X := X0.ag hT (by decide)
                      replace h := (congrFun (congrFun ej22 x3_23) u24).symm.trans h
                      refine lv_aload_n X.1.1 X.1.2.1 dL_agrees_547 rfl (lv_at hl 0 rfl) ?_
                      refine x_iconst X dL_agrees_548 ?_
                      obtain ⟨v25, u26, hf, h⟩ := xb0_of h
                      refine x_callVTi X hG hS (c_X9_size l hfl t _ _ _ _ _ hf) (cwV 1 X.1.2.2.2.2 gL_agrees_X9_size rfl rfl rfl hd_X9_size ⟨Nat.le_of_ble_eq_true rfl, Nat.le_of_ble_eq_true rfl⟩) q0.1 q0.2 rfl (by decide) (by rfl) hl.1 (Nat.le_of_ble_eq_true rfl) dL_agrees_549 ⟨by decide, by decide⟩ rfl (fun hg H locs ce q9 hG hS h7 h8 h9 => absurd rfl hg) (fun hg H locs hG hS => ?_)
                      refine lv_iload_n X.1.1 X.1.2.1 dL_agrees_552 rfl (lv_at hl 1 rfl) ?_
                      obtain ⟨g27, h⟩ := xgd_of h
                      refine x_icmp_ne (tgt := 560) X g27.1 g27.2 dL_agrees_553 (by decide) (fun c28 => ?_) (fun c28 => ?_)
                      · replace h := xif_f h c28
                        refine x_iconst X dL_agrees_560 ?_
                        cases h
                        exact hret _ _ _ _ _ _ _ hT (by decide) (by decide) dL_agrees_561 (by decide) hG hS
                      · replace h := xif_t h c28
                        refine x_iconst X dL_agrees_556 ?_
                        refine lv_goto (tgt := 561) X.1.1 X.1.2.1 dL_agrees_557 (by decide) ?_
                        cases h
                        exact hret _ _ _ _ _ _ _ hT (by decide) (by decide) dL_agrees_561 (by decide) hG hS
                  have Lgo29 : ∀ (nf : Nat) (x3_30 : Int) (x4_31 : Int) (u32 : uS) q, xl3 (s_L_agrees_346 j22) nf x3_30 x4_31 u32 = some q → ∀ (ck346 cn346 : Nat) (t : gP) (hT : ag 39 354 357 t0 t), (ck346 + nf * 37 ≤ 1682 ∧ cn346 + nf * 200 ≤ 9648) → q = (r, u') → xG p l e rL_agrees s m args below meth c t Q 7 ck346 cn346 346 u32 [(3, .int (iI x3_30)), (4, .int (iI x4_31)), (0, .ref (t.2.2.1 0)), (1, .ref (t.2.2.1 264))] [] := by
                    refine xl3_N (F := s_L_agrees_346 j22) (fun nf x3_30 x4_31 u32 q => ∀ (ck346 cn346 : Nat) (t : gP) (hT : ag 39 354 357 t0 t), (ck346 + nf * 37 ≤ 1682 ∧ cn346 + nf * 200 ≤ 9648) → q = (r, u') → xG p l e rL_agrees s m args below meth c t Q 7 ck346 cn346 346 u32 [(3, .int (iI x3_30)), (4, .int (iI x4_31)), (0, .ref (t.2.2.1 0)), (1, .ref (t.2.2.1 264))] []) ?_
                    intro nf go29 igo29 x3_30 x4_31 u32 q h ck346 cn346 t hT hck346 hq H locs ls hG hS hl
                    subst hq
                    replace X := X0.ag hT (by decide)
                    unfold s_L_agrees_346 at h
                    refine lv_iload X.1.1 X.1.2.1 dL_agrees_346 (lv_at hl 1 rfl) ?_
                    refine lv_aload_n X.1.1 X.1.2.1 dL_agrees_348 rfl (lv_at hl 3 rfl) ?_
                    refine yN_geti X hG 14 8 264 8 (inC := iX10) rfl (hT.fk (by decide) q264).1 (hT.fk (by decide) q264).2 ⟨by decide, by decide, by decide, rfl, rfl⟩ (x_m 22 rfl) dL_agrees_349 ?_
                    obtain ⟨g33, h⟩ := xgd_of h
                    refine x_icmp_ge (tgt := 547) X g33.1 g33.2 dL_agrees_352 (by decide) (fun c34 => ?_) (fun c34 => ?_)
                    · replace h := xif_t h c34
                      refine W.widen (k := 1682) (n := 9648) (by omega) (by omega) ?_
                      exact Jj22 t hT _ _ h _ _ _ hG hS (lv_sub hl [2, 0] rfl)
                    · replace h := xif_f h c34
                      refine lv_aload_n X.1.1 X.1.2.1 dL_agrees_355 rfl (lv_at hl 2 rfl) ?_
                      refine lv_iload X.1.1 X.1.2.1 dL_agrees_356 (lv_at hl 1 rfl) ?_
                      refine x_iconst X dL_agrees_358 ?_
                      obtain ⟨v35, u36, hf, h⟩ := xb0_of h
                      refine x_callVTi X hG hS (c_X9_event l hfl t _ _ _ _ _ _ hf) (cwV 2 X.1.2.2.2.2 gL_agrees_X9_event rfl rfl rfl hd_X9_event ⟨Nat.le_of_ble_eq_true rfl, Nat.le_of_ble_eq_true rfl⟩) q0.1 q0.2 rfl (by decide) (by rfl) hl.1 (Nat.le_of_ble_eq_true rfl) dL_agrees_359 ⟨by show ck346 + 0 + 2 ≤ 1683; omega, by show cn346 + 0 + 12 ≤ 9654; omega⟩ rfl (fun hg H locs ce q9 hG hS h7 h8 h9 => absurd rfl hg) (fun hg H locs hG hS => ?_)
                      refine lv_aload_n X.1.1 X.1.2.1 dL_agrees_362 rfl (lv_at hl 3 rfl) ?_
                      refine yN_getr X hG 14 2 264 3 (inC := iX10) rfl (hT.fk (by decide) q264).1 (hT.fk (by decide) q264).2 ⟨by decide, by decide, by decide, rfl, by decide, by decide⟩ (x_m 23 rfl) dL_agrees_363 ?_
                      refine lv_iload X.1.1 X.1.2.1 dL_agrees_366 (lv_at hl 1 rfl) ?_
                      obtain ⟨g37, h⟩ := xgd_of h
                      refine y_zald X hG (fy_14_2 hG (hT.fk (by decide) q264)).1 (fy_14_2 hG (hT.fk (by decide) q264)).2.1 (n := 20) (fy_14_2 hG (hT.fk (by decide) q264)).2.2 g37 (by decide) dL_agrees_368 ?_
                      obtain ⟨g38, h⟩ := xgd_of h
                      obtain ⟨j39, ej39, h⟩ := xlet_of h
                      have Jj39 : ∀ (t : gP) (hT : ag 39 354 357 t0 t) (s40 : Int) (u41 : uS), j39 s40 u41 = some (r, u') → xG p l e rL_agrees s m args below meth c t Q 7 (ck346 + 2) (cn346 + 12) 377 u41 [(0, .ref (t.2.2.1 0)), (1, .ref (t.2.2.1 264)), (3, .int (iI x3_30)), (4, .int (iI x4_31))] [.int (iI s40), .int (iI v35)] := by
                          intro t hT s40 u41 h H locs ls hG hS hl
                          replace X := X0.ag hT (by decide)
                          replace h := (congrFun (congrFun ej39 s40) u41).symm.trans h
                          obtain ⟨g42, h⟩ := xgd_of h
                          refine x_icmp_ne (tgt := 413) X g42.1 g42.2 dL_agrees_377 (by decide) (fun c43 => ?_) (fun c43 => ?_)
                          · replace h := xif_f h c43
                            refine x_iconst X dL_agrees_413 ?_
                            cases h
                            exact hret _ _ _ _ _ _ _ hT (by omega) (by omega) dL_agrees_414 (by decide) hG hS
                          · replace h := xif_t h c43
                            refine lv_aload_n X.1.1 X.1.2.1 dL_agrees_380 rfl (lv_at hl 0 rfl) ?_
                            refine lv_iload X.1.1 X.1.2.1 dL_agrees_381 (lv_at hl 3 rfl) ?_
                            refine x_iconst X dL_agrees_383 ?_
                            obtain ⟨v44, u45, hf, h⟩ := xb0_of h
                            refine x_callVTi X hG hS (c_X9_event l hfl t _ _ _ _ _ _ hf) (cwV 2 X.1.2.2.2.2 gL_agrees_X9_event rfl rfl rfl hd_X9_event ⟨Nat.le_of_ble_eq_true rfl, Nat.le_of_ble_eq_true rfl⟩) q0.1 q0.2 rfl (by decide) (by rfl) hl.1 (Nat.le_of_ble_eq_true rfl) dL_agrees_384 ⟨by show ck346 + 2 + 2 ≤ 1683; omega, by show cn346 + 12 + 12 ≤ 9654; omega⟩ rfl (fun hg H locs ce q9 hG hS h7 h8 h9 => absurd rfl hg) (fun hg H locs hG hS => ?_)
                            refine lv_aload_n X.1.1 X.1.2.1 dL_agrees_387 rfl (lv_at hl 1 rfl) ?_
                            refine lv_iload X.1.1 X.1.2.1 dL_agrees_388 (lv_at hl 3 rfl) ?_
                            obtain ⟨v46, u47, hf, h⟩ := xbd_of h
                            refine y_callVi0 X hG hS (c_X10_size l t _ _ _ _ hf (hT.fk (by decide) q264).1) (cwV 1 X.1.2.2.2.2 gL_agrees_X10_size rfl rfl rfl hd_X10_size ⟨Nat.le_of_ble_eq_true rfl, Nat.le_of_ble_eq_true rfl⟩) (hT.fk (by decide) q264).1 (hT.fk (by decide) q264).2 rfl (by decide) (by rfl) hl.1 (Nat.le_of_ble_eq_true rfl) dL_agrees_390 ⟨by show ck346 + 4 ≤ 1683; omega, by show cn346 + 24 ≤ 9654; omega⟩ rfl (fun H locs hG hS => ?_)
                            obtain ⟨g48, h⟩ := xgd_of h
                            refine x_icmp_ne (tgt := 413) X g48.1 g48.2 dL_agrees_393 (by decide) (fun c49 => ?_) (fun c49 => ?_)
                            · replace h := xif_f h c49
                              refine x_iconst X dL_agrees_413 ?_
                              cases h
                              exact hret _ _ _ _ _ _ _ hT (by omega) (by omega) dL_agrees_414 (by decide) hG hS
                            · replace h := xif_t h c49
                              refine lv_aload_n X.1.1 X.1.2.1 dL_agrees_396 rfl (lv_at hl 0 rfl) ?_
                              refine lv_iload X.1.1 X.1.2.1 dL_agrees_397 (lv_at hl 3 rfl) ?_
                              refine x_iconst X dL_agrees_399 ?_
                              obtain ⟨v50, u51, hf, h⟩ := xb0_of h
                              refine x_callVTi X hG hS (c_X9_event l hfl t _ _ _ _ _ _ hf) (cwV 2 X.1.2.2.2.2 gL_agrees_X9_event rfl rfl rfl hd_X9_event ⟨Nat.le_of_ble_eq_true rfl, Nat.le_of_ble_eq_true rfl⟩) q0.1 q0.2 rfl (by decide) (by rfl) hl.1 (Nat.le_of_ble_eq_true rfl) dL_agrees_400 ⟨by show ck346 + 4 + 2 ≤ 1683; omega, by show cn346 + 24 + 12 ≤ 9654; omega⟩ rfl (fun hg H locs ce q9 hG hS h7 h8 h9 => absurd rfl hg) (fun hg H locs hG hS => ?_)
                              refine lv_aload_n X.1.1 X.1.2.1 dL_agrees_403 rfl (lv_at hl 1 rfl) ?_
                              refine yN_getr X hG 14 3 264 4 (inC := iX10) rfl (hT.fk (by decide) q264).1 (hT.fk (by decide) q264).2 ⟨by decide, by decide, by decide, rfl, by decide, by decide⟩ (x_m 33 rfl) dL_agrees_404 ?_
                              refine lv_iload X.1.1 X.1.2.1 dL_agrees_407 (lv_at hl 3 rfl) ?_
                              obtain ⟨g52, h⟩ := xgd_of h
                              refine y_iald X hG (fy_14_3 hG (hT.fk (by decide) q264)).1 (fy_14_3 hG (hT.fk (by decide) q264)).2.1 (n := 20) (fy_14_3 hG (hT.fk (by decide) q264)).2.2 g52 (by decide) dL_agrees_409 ?_
                              obtain ⟨g53, h⟩ := xgd_of h
                              refine x_icmp_eq (tgt := 415) X g53.1 g53.2 dL_agrees_410 (by decide) (fun c54 => ?_) (fun c54 => ?_)
                              · replace h := xif_t h c54
                                refine lv_aload_n X.1.1 X.1.2.1 dL_agrees_415 rfl (lv_at hl 1 rfl) ?_
                                refine yN_getr X hG 14 2 264 3 (inC := iX10) rfl (hT.fk (by decide) q264).1 (hT.fk (by decide) q264).2 ⟨by decide, by decide, by decide, rfl, by decide, by decide⟩ (x_m 23 rfl) dL_agrees_416 ?_
                                refine lv_iload X.1.1 X.1.2.1 dL_agrees_419 (lv_at hl 3 rfl) ?_
                                obtain ⟨g55, h⟩ := xgd_of h
                                refine y_zald X hG (fy_14_2 hG (hT.fk (by decide) q264)).1 (fy_14_2 hG (hT.fk (by decide) q264)).2.1 (n := 20) (fy_14_2 hG (hT.fk (by decide) q264)).2.2 g55 (by decide) dL_agrees_421 ?_
                                obtain ⟨g56, h⟩ := xgd_of h
                                obtain ⟨j57, ej57, h⟩ := xlet_of h
                                have Jj57 : ∀ (t : gP) (hT : ag 39 354 357 t0 t) (s58 : Int) (u59 : uS), j57 s58 u59 = some (r, u') → xG p l e rL_agrees s m args below meth c t Q 7 (ck346 + 24) (cn346 + 72) 435 u59 [(0, .ref (t.2.2.1 0)), (1, .ref (t.2.2.1 264)), (3, .int (iI x3_30)), (4, .int (iI x4_31))] [.int (iI s58)] := by
                                    intro t hT s58 u59 h H locs ls hG hS hl
                                    replace X := X0.ag hT (by decide)
                                    replace h := (congrFun (congrFun ej57 s58) u59).symm.trans h
                                    refine lv_istore (lv' := [(5, .int (iI s58)), (0, .ref (t.2.2.1 0)), (1, .ref (t.2.2.1 264)), (3, .int (iI x3_30)), (4, .int (iI x4_31))]) X.1.1 X.1.2.1 dL_agrees_435 hl (by decide) rfl (fun ls hl => ?_)
                                    refine lv_aload_n X.1.1 X.1.2.1 dL_agrees_437 rfl (lv_at hl 1 rfl) ?_
                                    refine lv_iload X.1.1 X.1.2.1 dL_agrees_438 (lv_at hl 4 rfl) ?_
                                    refine x_iconst X dL_agrees_440 ?_
                                    obtain ⟨v60, u61, hf, h⟩ := xb0_of h
                                    refine x_callVTi X hG hS (c_X9_event l hfl t _ _ _ _ _ _ hf) (cwV 2 X.1.2.2.2.2 gL_agrees_X9_event rfl rfl rfl hd_X9_event ⟨Nat.le_of_ble_eq_true rfl, Nat.le_of_ble_eq_true rfl⟩) q0.1 q0.2 rfl (by decide) (by rfl) hl.1 (Nat.le_of_ble_eq_true rfl) dL_agrees_441 ⟨by show ck346 + 24 + 2 ≤ 1683; omega, by show cn346 + 72 + 12 ≤ 9654; omega⟩ rfl (fun hg H locs ce q9 hG hS h7 h8 h9 => absurd rfl hg) (fun hg H locs hG hS => ?_)
                                    refine lv_iload X.1.1 X.1.2.1 dL_agrees_444 (lv_at hl 0 rfl) ?_
                                    obtain ⟨g62, h⟩ := xgd_of h
                                    refine x_icmp_eq (tgt := 451) X g62.1 g62.2 dL_agrees_446 (by decide) (fun c63 => ?_) (fun c63 => ?_)
                                    · replace h := xif_t h c63
                                      refine lv_aload_n X.1.1 X.1.2.1 dL_agrees_451 rfl (lv_at hl 2 rfl) ?_
                                      refine yN_getr X hG 14 2 264 3 (inC := iX10) rfl (hT.fk (by decide) q264).1 (hT.fk (by decide) q264).2 ⟨by decide, by decide, by decide, rfl, by decide, by decide⟩ (x_m 23 rfl) dL_agrees_452 ?_
                                      refine lv_iload X.1.1 X.1.2.1 dL_agrees_455 (lv_at hl 4 rfl) ?_
                                      obtain ⟨g64, h⟩ := xgd_of h
                                      refine y_zald X hG (fy_14_2 hG (hT.fk (by decide) q264)).1 (fy_14_2 hG (hT.fk (by decide) q264)).2.1 (n := 20) (fy_14_2 hG (hT.fk (by decide) q264)).2.2 g64 (by decide) dL_agrees_457 ?_
                                      obtain ⟨g65, h⟩ := xgd_of h
                                      refine x_if_eq (tgt := 464) X g65 dL_agrees_458 (by decide) (fun c66 => ?_) (fun c66 => ?_)
                                      · replace h := xif_t h c66
                                        refine lv_iinc (v := (iI (x3_30 + 1))) (lv' := [(3, .int (iI (x3_30 + 1))), (5, .int (iI s58)), (0, .ref (t.2.2.1 0)), (1, .ref (t.2.2.1 264)), (4, .int (iI x4_31))]) X.1.1 X.1.2.1 dL_agrees_464 hl (k := 3) rfl (iI_add _ _) (by decide) rfl (fun ls hl => ?_)
                                        refine lv_aload_n X.1.1 X.1.2.1 dL_agrees_467 rfl (lv_at hl 3 rfl) ?_
                                        refine lv_iload X.1.1 X.1.2.1 dL_agrees_468 (lv_at hl 1 rfl) ?_
                                        refine lv_iload X.1.1 X.1.2.1 dL_agrees_470 (lv_at hl 4 rfl) ?_
                                        obtain ⟨v67, u68, hf, h⟩ := xbd_of h
                                        obtain ⟨g69, h⟩ := xgd_of h
                                        rw [g69] at hf
                                        refine y_callVra X hG hS (c_X10_fitAt l t _ _ _ _ _ hf (hT.fk (by decide) q264).1) (cwV 2 X.1.2.2.2.2 gL_agrees_X10_fitAt rfl rfl rfl hd_X10_fitAt ⟨Nat.le_of_ble_eq_true rfl, Nat.le_of_ble_eq_true rfl⟩) (hT.fk (by decide) q264).1 (hT.fk (by decide) q264).2 rfl (by decide) (by rfl) hl.1 (Nat.le_of_ble_eq_true rfl) dL_agrees_472 ⟨by show ck346 + 26 + 1 ≤ 1683; omega, by show cn346 + 84 + 2 ≤ 9654; omega⟩ rfl (fun t' H locs hag f70 hG hS => ?_)
                                        rw [← hag.at (k := 0) (by decide), ← hag.at (k := 264) (by decide)] at hl
                                        replace X := X.ag hag (by decide)
                                        replace hT : ag 39 354 357 t0 t' := hT.tr hag (by decide)
                                        clear hag
                                        obtain ⟨t, rfl⟩ : ∃ z, z = t' := ⟨_, rfl⟩
                                        have f71 : al t 354 ∧ sT 354 = 100 ∧ sN 354 = 2 := ⟨f70, by decide +kernel, by decide +kernel⟩
                                        refine lv_astore (lv' := [(6, .ref (t.2.2.1 354)), (3, .int (iI (x3_30 + 1))), (5, .int (iI s58)), (0, .ref (t.2.2.1 0)), (1, .ref (t.2.2.1 264)), (4, .int (iI x4_31))]) X.1.1 X.1.2.1 dL_agrees_475 hl (by decide) rfl (fun ls hl => ?_)
                                        refine lv_aload_n X.1.1 X.1.2.1 dL_agrees_477 rfl (lv_at hl 3 rfl) ?_
                                        refine lv_iload X.1.1 X.1.2.1 dL_agrees_478 (lv_at hl 5 rfl) ?_
                                        refine x_iconst X dL_agrees_480 ?_
                                        obtain ⟨v72, u73, hf, h⟩ := xb0_of h
                                        refine x_callVTi X hG hS (c_X9_event l hfl t _ _ _ _ _ _ hf) (cwV 2 X.1.2.2.2.2 gL_agrees_X9_event rfl rfl rfl hd_X9_event ⟨Nat.le_of_ble_eq_true rfl, Nat.le_of_ble_eq_true rfl⟩) q0.1 q0.2 rfl (by decide) (by rfl) hl.1 (Nat.le_of_ble_eq_true rfl) dL_agrees_481 ⟨by show ck346 + 27 + 2 ≤ 1683; omega, by show cn346 + 86 + 12 ≤ 9654; omega⟩ rfl (fun hg H locs ce q9 hG hS h7 h8 h9 => absurd rfl hg) (fun hg H locs hG hS => ?_)
                                        refine lv_aload X.1.1 X.1.2.1 dL_agrees_484 (lv_at hl 0 rfl) ?_
                                        refine x_iconst X dL_agrees_486 ?_
                                        refine y_iald X hG f71.1 f71.2.1 (n := 2) f71.2.2 ⟨by decide, by decide⟩ (by decide) dL_agrees_487 ?_
                                        obtain ⟨g74, h⟩ := xgd_of h
                                        refine x_icmp_ne (tgt := 539) X g74.1 g74.2 dL_agrees_488 (by decide) (fun c75 => ?_) (fun c75 => ?_)
                                        · replace h := xif_f h c75
                                          refine x_iconst X dL_agrees_539 ?_
                                          cases h
                                          exact hret _ _ _ _ _ _ _ hT (by omega) (by omega) dL_agrees_540 (by decide) hG hS
                                        · replace h := xif_t h c75
                                          refine lv_aload_n X.1.1 X.1.2.1 dL_agrees_491 rfl (lv_at hl 3 rfl) ?_
                                          refine lv_iload X.1.1 X.1.2.1 dL_agrees_492 (lv_at hl 5 rfl) ?_
                                          refine x_iconst X dL_agrees_494 ?_
                                          obtain ⟨v76, u77, hf, h⟩ := xb0_of h
                                          refine x_callVTi X hG hS (c_X9_event l hfl t _ _ _ _ _ _ hf) (cwV 2 X.1.2.2.2.2 gL_agrees_X9_event rfl rfl rfl hd_X9_event ⟨Nat.le_of_ble_eq_true rfl, Nat.le_of_ble_eq_true rfl⟩) q0.1 q0.2 rfl (by decide) (by rfl) hl.1 (Nat.le_of_ble_eq_true rfl) dL_agrees_495 ⟨by show ck346 + 29 + 2 ≤ 1683; omega, by show cn346 + 98 + 12 ≤ 9654; omega⟩ rfl (fun hg H locs ce q9 hG hS h7 h8 h9 => absurd rfl hg) (fun hg H locs hG hS => ?_)
                                          refine lv_aload X.1.1 X.1.2.1 dL_agrees_498 (lv_at hl 0 rfl) ?_
                                          refine x_iconst X dL_agrees_500 ?_
                                          refine y_iald X hG f71.1 f71.2.1 (n := 2) f71.2.2 ⟨by decide, by decide⟩ (by decide) dL_agrees_501 ?_
                                          obtain ⟨g78, h⟩ := xgd_of h
                                          refine x_icmp_ne (tgt := 539) X g78.1 g78.2 dL_agrees_502 (by decide) (fun c79 => ?_) (fun c79 => ?_)
                                          · replace h := xif_f h c79
                                            refine x_iconst X dL_agrees_539 ?_
                                            cases h
                                            exact hret _ _ _ _ _ _ _ hT (by omega) (by omega) dL_agrees_540 (by decide) hG hS
                                          · replace h := xif_t h c79
                                            refine lv_aload_n X.1.1 X.1.2.1 dL_agrees_505 rfl (lv_at hl 3 rfl) ?_
                                            refine lv_iload X.1.1 X.1.2.1 dL_agrees_506 (lv_at hl 2 rfl) ?_
                                            refine lv_iload X.1.1 X.1.2.1 dL_agrees_508 (lv_at hl 5 rfl) ?_
                                            obtain ⟨v80, u81, hf, h⟩ := xb0_of h
                                            refine x_callVTi X hG hS (c_X9_misfit l hfl t _ _ _ _ _ _ hf) (cwV 2 X.1.2.2.2.2 gL_agrees_X9_misfit rfl rfl rfl hd_X9_misfit ⟨Nat.le_of_ble_eq_true rfl, Nat.le_of_ble_eq_true rfl⟩) q0.1 q0.2 rfl (by decide) (by rfl) hl.1 (Nat.le_of_ble_eq_true rfl) dL_agrees_510 ⟨by show ck346 + 31 + 3 ≤ 1683; omega, by show cn346 + 110 + 18 ≤ 9654; omega⟩ rfl (fun hg H locs ce q9 hG hS h7 h8 h9 => absurd rfl hg) (fun hg H locs hG hS => ?_)
                                            refine lv_aload X.1.1 X.1.2.1 dL_agrees_513 (lv_at hl 0 rfl) ?_
                                            refine x_iconst X dL_agrees_515 ?_
                                            refine y_iald X hG f71.1 f71.2.1 (n := 2) f71.2.2 ⟨by decide, by decide⟩ (by decide) dL_agrees_516 ?_
                                            obtain ⟨g82, h⟩ := xgd_of h
                                            refine x_icmp_ne (tgt := 539) X g82.1 g82.2 dL_agrees_517 (by decide) (fun c83 => ?_) (fun c83 => ?_)
                                            · replace h := xif_f h c83
                                              refine x_iconst X dL_agrees_539 ?_
                                              cases h
                                              exact hret _ _ _ _ _ _ _ hT (by omega) (by omega) dL_agrees_540 (by decide) hG hS
                                            · replace h := xif_t h c83
                                              refine lv_aload_n X.1.1 X.1.2.1 dL_agrees_520 rfl (lv_at hl 3 rfl) ?_
                                              refine lv_iload X.1.1 X.1.2.1 dL_agrees_521 (lv_at hl 5 rfl) ?_
                                              refine x_bipush X dL_agrees_523 (by decide) ?_
                                              obtain ⟨v84, u85, hf, h⟩ := xb0_of h
                                              refine x_callVTi X hG hS (c_X9_event l hfl t _ _ _ _ _ _ hf) (cwV 2 X.1.2.2.2.2 gL_agrees_X9_event rfl rfl rfl hd_X9_event ⟨Nat.le_of_ble_eq_true rfl, Nat.le_of_ble_eq_true rfl⟩) q0.1 q0.2 rfl (by decide) (by rfl) hl.1 (Nat.le_of_ble_eq_true rfl) dL_agrees_525 ⟨by show ck346 + 34 + 2 ≤ 1683; omega, by show cn346 + 128 + 12 ≤ 9654; omega⟩ rfl (fun hg H locs ce q9 hG hS h7 h8 h9 => absurd rfl hg) (fun hg H locs hG hS => ?_)
                                              refine lv_aload_n X.1.1 X.1.2.1 dL_agrees_528 rfl (lv_at hl 4 rfl) ?_
                                              refine lv_iload X.1.1 X.1.2.1 dL_agrees_529 (lv_at hl 5 rfl) ?_
                                              refine lv_iload X.1.1 X.1.2.1 dL_agrees_531 (lv_at hl 2 rfl) ?_
                                              obtain ⟨v86, u87, hf, h⟩ := xbd_of h
                                              refine y_callVia X hG hS (c_X10_magnitude l t _ _ _ _ _ hf (hT.fk (by decide) q264).1) (cwV 2 X.1.2.2.2.2 gL_agrees_X10_magnitude rfl rfl rfl hd_X10_magnitude ⟨Nat.le_of_ble_eq_true rfl, Nat.le_of_ble_eq_true rfl⟩) (hT.fk (by decide) q264).1 (hT.fk (by decide) q264).2 rfl (by decide) (by rfl) hl.1 (Nat.le_of_ble_eq_true rfl) dL_agrees_533 ⟨by show ck346 + 36 + 1 ≤ 1683; omega, by show cn346 + 140 + 60 ≤ 9654; omega⟩ rfl (fun t' H locs hag hG hS => ?_)
                                              rw [← hag.at (k := 354) (by decide), ← hag.at (k := 0) (by decide), ← hag.at (k := 264) (by decide)] at hl
                                              have f89 := hag.fk (by decide) f71
                                              replace X := X.ag hag (by decide)
                                              replace hT : ag 39 354 357 t0 t' := hT.tr hag (by decide)
                                              clear hag
                                              obtain ⟨t, rfl⟩ : ∃ z, z = t' := ⟨_, rfl⟩
                                              obtain ⟨g90, h⟩ := xgd_of h
                                              refine x_icmp_eq (tgt := 541) X g90.1 g90.2 dL_agrees_536 (by decide) (fun c91 => ?_) (fun c91 => ?_)
                                              · replace h := xif_t h c91
                                                refine lv_iinc (v := (iI (x4_31 + 1))) (lv' := [(4, .int (iI (x4_31 + 1))), (6, .ref (t.2.2.1 354)), (3, .int (iI (x3_30 + 1))), (5, .int (iI s58)), (0, .ref (t.2.2.1 0)), (1, .ref (t.2.2.1 264))]) X.1.1 X.1.2.1 dL_agrees_541 hl (k := 5) rfl (iI_add _ _) (by decide) rfl (fun ls hl => ?_)
                                                refine lv_goto (tgt := 346) X.1.1 X.1.2.1 dL_agrees_544 (by decide) ?_
                                                exact igo29 _ _ _ _ h (ck346 + 37) (cn346 + 200) t hT (by omega) rfl _ _ _ hG hS (lv_sub hl [2, 0, 4, 5] rfl)
                                              · replace h := xif_f h c91
                                                refine x_iconst X dL_agrees_539 ?_
                                                cases h
                                                exact hret _ _ _ _ _ _ _ hT (by omega) (by omega) dL_agrees_540 (by decide) hG hS
                                      · replace h := xif_f h c66
                                        refine lv_goto (tgt := 541) X.1.1 X.1.2.1 dL_agrees_461 (by decide) ?_
                                        refine lv_iinc (v := (iI (x4_31 + 1))) (lv' := [(4, .int (iI (x4_31 + 1))), (5, .int (iI s58)), (0, .ref (t.2.2.1 0)), (1, .ref (t.2.2.1 264)), (3, .int (iI x3_30))]) X.1.1 X.1.2.1 dL_agrees_541 hl (k := 4) rfl (iI_add _ _) (by decide) rfl (fun ls hl => ?_)
                                        refine lv_goto (tgt := 346) X.1.1 X.1.2.1 dL_agrees_544 (by decide) ?_
                                        refine W.widen (k := ck346 + 37) (n := cn346 + 200) (by omega) (by omega) ?_
                                        exact igo29 _ _ _ _ h (ck346 + 37) (cn346 + 200) t hT (by omega) rfl _ _ _ hG hS (lv_sub hl [4, 0, 2, 3] rfl)
                                    · replace h := xif_f h c63
                                      refine x_iconst X dL_agrees_449 ?_
                                      cases h
                                      exact hret _ _ _ _ _ _ _ hT (by omega) (by omega) dL_agrees_450 (by decide) hG hS
                                refine x_if_eq (tgt := 429) X g56 dL_agrees_422 (by decide) (fun c92 => ?_) (fun c92 => ?_)
                                · replace h := xif_t h c92
                                  refine lv_aload_n X.1.1 X.1.2.1 dL_agrees_429 rfl (lv_at hl 1 rfl) ?_
                                  refine lv_iload X.1.1 X.1.2.1 dL_agrees_430 (lv_at hl 3 rfl) ?_
                                  obtain ⟨v93, u94, hf, h⟩ := xbd_of h
                                  refine y_callVia X hG hS (c_X10_node l t _ _ _ _ hf (hT.fk (by decide) q264).1) (cwV 1 X.1.2.2.2.2 gL_agrees_X10_node rfl rfl rfl hd_X10_node ⟨Nat.le_of_ble_eq_true rfl, Nat.le_of_ble_eq_true rfl⟩) (hT.fk (by decide) q264).1 (hT.fk (by decide) q264).2 rfl (by decide) (by rfl) hl.1 (Nat.le_of_ble_eq_true rfl) dL_agrees_432 ⟨by show ck346 + 6 + 18 ≤ 1683; omega, by show cn346 + 36 + 36 ≤ 9654; omega⟩ rfl (fun t' H locs hag hG hS => ?_)
                                  rw [← hag.at (k := 0) (by decide), ← hag.at (k := 264) (by decide)] at hl
                                  replace X := X.ag hag (by decide)
                                  replace hT : ag 39 354 357 t0 t' := hT.tr hag (by decide)
                                  clear hag
                                  obtain ⟨t, rfl⟩ : ∃ z, z = t' := ⟨_, rfl⟩
                                  exact Jj57 t hT _ _ h _ _ _ hG hS (lv_sub hl [0, 1, 2, 3] rfl)
                                · replace h := xif_f h c92
                                  refine x_iconst X dL_agrees_425 ?_
                                  refine lv_goto (tgt := 435) X.1.1 X.1.2.1 dL_agrees_426 (by decide) ?_
                                  refine W.widen (k := (ck346 + 24)) (n := (cn346 + 72)) (by omega) (by omega) ?_
                                  exact Jj57 t hT _ _ h _ _ _ hG hS (lv_sub hl [0, 1, 2, 3] rfl)
                              · replace h := xif_f h c54
                                refine x_iconst X dL_agrees_413 ?_
                                cases h
                                exact hret _ _ _ _ _ _ _ hT (by omega) (by omega) dL_agrees_414 (by decide) hG hS
                      refine x_if_eq (tgt := 376) X g38 dL_agrees_369 (by decide) (fun c96 => ?_) (fun c96 => ?_)
                      · replace h := xif_t h c96
                        refine x_iconst X dL_agrees_376 ?_
                        exact Jj39 t hT _ _ h _ _ _ hG hS (lv_sub hl [2, 3, 0, 1] rfl)
                      · replace h := xif_f h c96
                        refine x_iconst X dL_agrees_372 ?_
                        refine lv_goto (tgt := 377) X.1.1 X.1.2.1 dL_agrees_373 (by decide) ?_
                        exact Jj39 t hT _ _ h _ _ _ hG hS (lv_sub hl [2, 3, 0, 1] rfl)
                  exact Lgo29 21 _ _ _ _ h 905 5448 t hT ⟨by omega, by omega⟩ rfl _ _ _ hG hS (lv_sub hl [1, 0, 2, 3] rfl)
              have Lgo97 : ∀ (nf : Nat) (x3_98 : Int) (u99 : uS) q, xl2 (s_L_agrees_218 j20) nf x3_98 u99 = some q → ∀ (ck218 cn218 : Nat) (t : gP) (hT : ag 39 354 357 t0 t), (ck218 + nf * 12 ≤ 905 ∧ cn218 + nf * 72 ≤ 5448) → q = (r, u') → xG p l e rL_agrees s m args below meth c t Q 7 ck218 cn218 218 u99 [(3, .int (iI x3_98)), (0, .ref (t.2.2.1 0)), (1, .ref (t.2.2.1 264))] [] := by
                refine xl2_N (F := s_L_agrees_218 j20) (fun nf x3_98 u99 q => ∀ (ck218 cn218 : Nat) (t : gP) (hT : ag 39 354 357 t0 t), (ck218 + nf * 12 ≤ 905 ∧ cn218 + nf * 72 ≤ 5448) → q = (r, u') → xG p l e rL_agrees s m args below meth c t Q 7 ck218 cn218 218 u99 [(3, .int (iI x3_98)), (0, .ref (t.2.2.1 0)), (1, .ref (t.2.2.1 264))] []) ?_
                intro nf go97 igo97 x3_98 u99 q h ck218 cn218 t hT hck218 hq H locs ls hG hS hl
                subst hq
                replace X := X0.ag hT (by decide)
                unfold s_L_agrees_218 at h
                refine lv_iload_n X.1.1 X.1.2.1 dL_agrees_218 rfl (lv_at hl 0 rfl) ?_
                refine lv_aload_n X.1.1 X.1.2.1 dL_agrees_219 rfl (lv_at hl 2 rfl) ?_
                refine yN_geti X hG 14 7 264 7 (inC := iX10) rfl (hT.fk (by decide) q264).1 (hT.fk (by decide) q264).2 ⟨by decide, by decide, by decide, rfl, rfl⟩ (x_m 24 rfl) dL_agrees_220 ?_
                obtain ⟨g100, h⟩ := xgd_of h
                refine x_icmp_ge (tgt := 341) X g100.1 g100.2 dL_agrees_223 (by decide) (fun c101 => ?_) (fun c101 => ?_)
                · replace h := xif_t h c101
                  refine W.widen (k := 905) (n := 5448) (by omega) (by omega) ?_
                  exact Jj20 t hT _ h _ _ _ hG hS (lv_sub hl [1, 2] rfl)
                · replace h := xif_f h c101
                  refine lv_aload_n X.1.1 X.1.2.1 dL_agrees_226 rfl (lv_at hl 2 rfl) ?_
                  refine yN_getr X hG 14 1 264 2 (inC := iX10) rfl (hT.fk (by decide) q264).1 (hT.fk (by decide) q264).2 ⟨by decide, by decide, by decide, rfl, by decide, by decide⟩ (x_m 27 rfl) dL_agrees_227 ?_
                  refine lv_iload_n X.1.1 X.1.2.1 dL_agrees_230 rfl (lv_at hl 0 rfl) ?_
                  obtain ⟨g102, h⟩ := xgd_of h
                  obtain ⟨g103, h⟩ := xgd_of h
                  have f105 := y_qK hG (fy_14_1 hG (hT.fk (by decide) q264)).1 (fy_14_1 hG (hT.fk (by decide) q264)).2.1 (fy_14_1 hG (hT.fk (by decide) q264)).2.2 g102 g103
                  obtain ⟨n104, en104, h⟩ := xlet_of h
                  refine y_aaldq X hG (fy_14_1 hG (hT.fk (by decide) q264)).1 (fy_14_1 hG (hT.fk (by decide) q264)).2.1 (Or.inr rfl) (fy_14_1 hG (hT.fk (by decide) q264)).2.2 g102 (by decide) g103 dL_agrees_231 ?_
                  rw [← en104]
                  rw [← en104] at f105
                  have f106 := hT.bk (by have h9 := sT_15 _ (al_lt f105.1) f105.2; omega) f105
                  refine lv_astore (lv' := [(4, .ref (t.2.2.1 n104)), (3, .int (iI x3_98)), (0, .ref (t.2.2.1 0)), (1, .ref (t.2.2.1 264))]) X.1.1 X.1.2.1 dL_agrees_232 hl (by decide) rfl (fun ls hl => ?_)
                  refine lv_aload_n X.1.1 X.1.2.1 dL_agrees_234 rfl (lv_at hl 2 rfl) ?_
                  refine lv_iload_n X.1.1 X.1.2.1 dL_agrees_235 rfl (lv_at hl 1 rfl) ?_
                  refine x_iconst X dL_agrees_236 ?_
                  obtain ⟨v107, u108, hf, h⟩ := xb0_of h
                  refine x_callVTi X hG hS (c_X9_pick l hfl t _ _ _ _ _ _ hf) (cwV 2 X.1.2.2.2.2 gL_agrees_X9_pick rfl rfl rfl hd_X9_pick ⟨Nat.le_of_ble_eq_true rfl, Nat.le_of_ble_eq_true rfl⟩) q0.1 q0.2 rfl (by decide) (by rfl) hl.1 (Nat.le_of_ble_eq_true rfl) dL_agrees_237 ⟨by show ck218 + 0 + 2 ≤ 1683; omega, by show cn218 + 0 + 12 ≤ 9654; omega⟩ rfl (fun hg H locs ce q9 hG hS h7 h8 h9 => absurd rfl hg) (fun hg H locs hG hS => ?_)
                  refine lv_aload X.1.1 X.1.2.1 dL_agrees_240 (lv_at hl 0 rfl) ?_
                  refine yN_geti X hG 15 0 n104 0 (inC := iX11) rfl (hT.fk (by have h9 := sT_15 _ (al_lt f106.1) f106.2; omega) f106).1 (hT.fk (by have h9 := sT_15 _ (al_lt f106.1) f106.2; omega) f106).2 ⟨by decide, by decide, by decide, rfl, rfl⟩ (x_m 28 rfl) dL_agrees_242 ?_
                  obtain ⟨g109, h⟩ := xgd_of h
                  refine x_icmp_ne (tgt := 333) X g109.1 g109.2 dL_agrees_245 (by decide) (fun c110 => ?_) (fun c110 => ?_)
                  · replace h := xif_f h c110
                    refine x_iconst X dL_agrees_333 ?_
                    cases h
                    exact hret _ _ _ _ _ _ _ hT (by omega) (by omega) dL_agrees_334 (by decide) hG hS
                  · replace h := xif_t h c110
                    refine lv_aload_n X.1.1 X.1.2.1 dL_agrees_248 rfl (lv_at hl 2 rfl) ?_
                    refine lv_iload_n X.1.1 X.1.2.1 dL_agrees_249 rfl (lv_at hl 1 rfl) ?_
                    refine x_iconst X dL_agrees_250 ?_
                    obtain ⟨v111, u112, hf, h⟩ := xb0_of h
                    refine x_callVTi X hG hS (c_X9_pick l hfl t _ _ _ _ _ _ hf) (cwV 2 X.1.2.2.2.2 gL_agrees_X9_pick rfl rfl rfl hd_X9_pick ⟨Nat.le_of_ble_eq_true rfl, Nat.le_of_ble_eq_true rfl⟩) q0.1 q0.2 rfl (by decide) (by rfl) hl.1 (Nat.le_of_ble_eq_true rfl) dL_agrees_251 ⟨by show ck218 + 2 + 2 ≤ 1683; omega, by show cn218 + 12 + 12 ≤ 9654; omega⟩ rfl (fun hg H locs ce q9 hG hS h7 h8 h9 => absurd rfl hg) (fun hg H locs hG hS => ?_)
                    refine lv_aload X.1.1 X.1.2.1 dL_agrees_254 (lv_at hl 0 rfl) ?_
                    refine yN_geti X hG 15 1 n104 1 (inC := iX11) rfl (hT.fk (by have h9 := sT_15 _ (al_lt f106.1) f106.2; omega) f106).1 (hT.fk (by have h9 := sT_15 _ (al_lt f106.1) f106.2; omega) f106).2 ⟨by decide, by decide, by decide, rfl, rfl⟩ (x_m 29 rfl) dL_agrees_256 ?_
                    obtain ⟨g113, h⟩ := xgd_of h
                    refine x_icmp_ne (tgt := 333) X g113.1 g113.2 dL_agrees_259 (by decide) (fun c114 => ?_) (fun c114 => ?_)
                    · replace h := xif_f h c114
                      refine x_iconst X dL_agrees_333 ?_
                      cases h
                      exact hret _ _ _ _ _ _ _ hT (by omega) (by omega) dL_agrees_334 (by decide) hG hS
                    · replace h := xif_t h c114
                      refine lv_aload_n X.1.1 X.1.2.1 dL_agrees_262 rfl (lv_at hl 2 rfl) ?_
                      refine lv_iload_n X.1.1 X.1.2.1 dL_agrees_263 rfl (lv_at hl 1 rfl) ?_
                      refine x_iconst X dL_agrees_264 ?_
                      obtain ⟨v115, u116, hf, h⟩ := xb0_of h
                      refine x_callVTi X hG hS (c_X9_pick l hfl t _ _ _ _ _ _ hf) (cwV 2 X.1.2.2.2.2 gL_agrees_X9_pick rfl rfl rfl hd_X9_pick ⟨Nat.le_of_ble_eq_true rfl, Nat.le_of_ble_eq_true rfl⟩) q0.1 q0.2 rfl (by decide) (by rfl) hl.1 (Nat.le_of_ble_eq_true rfl) dL_agrees_265 ⟨by show ck218 + 4 + 2 ≤ 1683; omega, by show cn218 + 24 + 12 ≤ 9654; omega⟩ rfl (fun hg H locs ce q9 hG hS h7 h8 h9 => absurd rfl hg) (fun hg H locs hG hS => ?_)
                      refine lv_aload X.1.1 X.1.2.1 dL_agrees_268 (lv_at hl 0 rfl) ?_
                      refine yN_geti X hG 15 2 n104 2 (inC := iX11) rfl (hT.fk (by have h9 := sT_15 _ (al_lt f106.1) f106.2; omega) f106).1 (hT.fk (by have h9 := sT_15 _ (al_lt f106.1) f106.2; omega) f106).2 ⟨by decide, by decide, by decide, rfl, rfl⟩ (x_m 30 rfl) dL_agrees_270 ?_
                      obtain ⟨g117, h⟩ := xgd_of h
                      refine x_icmp_ne (tgt := 333) X g117.1 g117.2 dL_agrees_273 (by decide) (fun c118 => ?_) (fun c118 => ?_)
                      · replace h := xif_f h c118
                        refine x_iconst X dL_agrees_333 ?_
                        cases h
                        exact hret _ _ _ _ _ _ _ hT (by omega) (by omega) dL_agrees_334 (by decide) hG hS
                      · replace h := xif_t h c118
                        refine lv_aload_n X.1.1 X.1.2.1 dL_agrees_276 rfl (lv_at hl 2 rfl) ?_
                        refine lv_iload_n X.1.1 X.1.2.1 dL_agrees_277 rfl (lv_at hl 1 rfl) ?_
                        refine x_iconst X dL_agrees_278 ?_
                        obtain ⟨v119, u120, hf, h⟩ := xb0_of h
                        refine x_callVTi X hG hS (c_X9_pick l hfl t _ _ _ _ _ _ hf) (cwV 2 X.1.2.2.2.2 gL_agrees_X9_pick rfl rfl rfl hd_X9_pick ⟨Nat.le_of_ble_eq_true rfl, Nat.le_of_ble_eq_true rfl⟩) q0.1 q0.2 rfl (by decide) (by rfl) hl.1 (Nat.le_of_ble_eq_true rfl) dL_agrees_279 ⟨by show ck218 + 6 + 2 ≤ 1683; omega, by show cn218 + 36 + 12 ≤ 9654; omega⟩ rfl (fun hg H locs ce q9 hG hS h7 h8 h9 => absurd rfl hg) (fun hg H locs hG hS => ?_)
                        refine lv_aload X.1.1 X.1.2.1 dL_agrees_282 (lv_at hl 0 rfl) ?_
                        refine yN_geti X hG 15 3 n104 3 (inC := iX11) rfl (hT.fk (by have h9 := sT_15 _ (al_lt f106.1) f106.2; omega) f106).1 (hT.fk (by have h9 := sT_15 _ (al_lt f106.1) f106.2; omega) f106).2 ⟨by decide, by decide, by decide, rfl, rfl⟩ (x_m 31 rfl) dL_agrees_284 ?_
                        obtain ⟨g121, h⟩ := xgd_of h
                        refine x_icmp_ne (tgt := 333) X g121.1 g121.2 dL_agrees_287 (by decide) (fun c122 => ?_) (fun c122 => ?_)
                        · replace h := xif_f h c122
                          refine x_iconst X dL_agrees_333 ?_
                          cases h
                          exact hret _ _ _ _ _ _ _ hT (by omega) (by omega) dL_agrees_334 (by decide) hG hS
                        · replace h := xif_t h c122
                          refine lv_aload_n X.1.1 X.1.2.1 dL_agrees_290 rfl (lv_at hl 2 rfl) ?_
                          refine lv_iload_n X.1.1 X.1.2.1 dL_agrees_291 rfl (lv_at hl 1 rfl) ?_
                          refine x_iconst X dL_agrees_292 ?_
                          obtain ⟨v123, u124, hf, h⟩ := xb0_of h
                          refine x_callVTi X hG hS (c_X9_pick l hfl t _ _ _ _ _ _ hf) (cwV 2 X.1.2.2.2.2 gL_agrees_X9_pick rfl rfl rfl hd_X9_pick ⟨Nat.le_of_ble_eq_true rfl, Nat.le_of_ble_eq_true rfl⟩) q0.1 q0.2 rfl (by decide) (by rfl) hl.1 (Nat.le_of_ble_eq_true rfl) dL_agrees_293 ⟨by show ck218 + 8 + 2 ≤ 1683; omega, by show cn218 + 48 + 12 ≤ 9654; omega⟩ rfl (fun hg H locs ce q9 hG hS h7 h8 h9 => absurd rfl hg) (fun hg H locs hG hS => ?_)
                          refine lv_aload X.1.1 X.1.2.1 dL_agrees_296 (lv_at hl 0 rfl) ?_
                          refine yN_geti X hG 15 4 n104 4 (inC := iX11) rfl (hT.fk (by have h9 := sT_15 _ (al_lt f106.1) f106.2; omega) f106).1 (hT.fk (by have h9 := sT_15 _ (al_lt f106.1) f106.2; omega) f106).2 ⟨by decide, by decide, by decide, rfl, rfl⟩ (x_m 32 rfl) dL_agrees_298 ?_
                          obtain ⟨g125, h⟩ := xgd_of h
                          obtain ⟨j126, ej126, h⟩ := xlet_of h
                          have Jj126 : ∀ (t : gP) (hT : ag 39 354 357 t0 t) (s127 : Int) (u128 : uS), j126 s127 u128 = some (r, u') → xG p l e rL_agrees s m args below meth c t Q 7 (ck218 + 10) (cn218 + 60) 309 u128 [(0, .ref (t.2.2.1 0)), (1, .ref (t.2.2.1 264)), (3, .int (iI x3_98)), (4, .ref (t.2.2.1 n104))] [.int (iI s127), .int (iI v123)] := by
                              intro t hT s127 u128 h H locs ls hG hS hl
                              replace X := X0.ag hT (by decide)
                              replace h := (congrFun (congrFun ej126 s127) u128).symm.trans h
                              obtain ⟨g129, h⟩ := xgd_of h
                              refine x_icmp_ne (tgt := 333) X g129.1 g129.2 dL_agrees_309 (by decide) (fun c130 => ?_) (fun c130 => ?_)
                              · replace h := xif_f h c130
                                refine x_iconst X dL_agrees_333 ?_
                                cases h
                                exact hret _ _ _ _ _ _ _ hT (by omega) (by omega) dL_agrees_334 (by decide) hG hS
                              · replace h := xif_t h c130
                                refine lv_aload_n X.1.1 X.1.2.1 dL_agrees_312 rfl (lv_at hl 0 rfl) ?_
                                refine lv_iload_n X.1.1 X.1.2.1 dL_agrees_313 rfl (lv_at hl 2 rfl) ?_
                                refine x_iconst X dL_agrees_314 ?_
                                obtain ⟨v131, u132, hf, h⟩ := xb0_of h
                                refine x_callVTi X hG hS (c_X9_fits l hfl t _ _ _ _ _ _ hf) (cwV 2 X.1.2.2.2.2 gL_agrees_X9_fits rfl rfl rfl hd_X9_fits ⟨Nat.le_of_ble_eq_true rfl, Nat.le_of_ble_eq_true rfl⟩) q0.1 q0.2 rfl (by decide) (by rfl) hl.1 (Nat.le_of_ble_eq_true rfl) dL_agrees_315 ⟨by show ck218 + 10 + 2 ≤ 1683; omega, by show cn218 + 60 + 12 ≤ 9654; omega⟩ rfl (fun hg H locs ce q9 hG hS h7 h8 h9 => absurd rfl hg) (fun hg H locs hG hS => ?_)
                                refine lv_aload_n X.1.1 X.1.2.1 dL_agrees_318 rfl (lv_at hl 1 rfl) ?_
                                refine lv_aload X.1.1 X.1.2.1 dL_agrees_319 (lv_at hl 3 rfl) ?_
                                refine lv_aload_n X.1.1 X.1.2.1 dL_agrees_321 rfl (lv_at hl 1 rfl) ?_
                                refine yN_getr X hG 14 1 264 2 (inC := iX10) rfl (hT.fk (by decide) q264).1 (hT.fk (by decide) q264).2 ⟨by decide, by decide, by decide, rfl, by decide, by decide⟩ (x_m 27 rfl) dL_agrees_322 ?_
                                refine x_iconst X dL_agrees_325 ?_
                                obtain ⟨g133, h⟩ := xgd_of h
                                have f135 := y_qK hG (fy_14_1 hG (hT.fk (by decide) q264)).1 (fy_14_1 hG (hT.fk (by decide) q264)).2.1 (fy_14_1 hG (hT.fk (by decide) q264)).2.2 ⟨by decide, by decide⟩ g133
                                obtain ⟨n134, en134, h⟩ := xlet_of h
                                refine y_aaldq X hG (fy_14_1 hG (hT.fk (by decide) q264)).1 (fy_14_1 hG (hT.fk (by decide) q264)).2.1 (Or.inr rfl) (fy_14_1 hG (hT.fk (by decide) q264)).2.2 ⟨by decide, by decide⟩ (by decide) g133 dL_agrees_326 ?_
                                rw [← en134]
                                rw [← en134] at f135
                                have f136 := hT.bk (by have h9 := sT_15 _ (al_lt f135.1) f135.2; omega) f135
                                obtain ⟨v137, u138, hf, h⟩ := xbd_of h
                                refine y_callVi0 X hG hS (c_X10_fit l t _ _ _ _ _ hf (hT.fk (by decide) q264).1 (hT.fk (by have h9 := sT_15 _ (al_lt f106.1) f106.2; omega) f106) (hT.fk (by have h9 := sT_15 _ (al_lt f136.1) f136.2; omega) f136)) (cwV 2 X.1.2.2.2.2 gL_agrees_X10_fit rfl rfl rfl hd_X10_fit ⟨Nat.le_of_ble_eq_true rfl, Nat.le_of_ble_eq_true rfl⟩) (hT.fk (by decide) q264).1 (hT.fk (by decide) q264).2 rfl (by decide) (by rfl) hl.1 (Nat.le_of_ble_eq_true rfl) dL_agrees_327 ⟨by show ck218 + 12 ≤ 1683; omega, by show cn218 + 72 ≤ 9654; omega⟩ rfl (fun H locs hG hS => ?_)
                                obtain ⟨g139, h⟩ := xgd_of h
                                refine x_icmp_eq (tgt := 335) X g139.1 g139.2 dL_agrees_330 (by decide) (fun c140 => ?_) (fun c140 => ?_)
                                · replace h := xif_t h c140
                                  refine lv_iinc (v := (iI (x3_98 + 1))) (lv' := [(3, .int (iI (x3_98 + 1))), (0, .ref (t.2.2.1 0)), (1, .ref (t.2.2.1 264)), (4, .ref (t.2.2.1 n104))]) X.1.1 X.1.2.1 dL_agrees_335 hl (k := 2) rfl (iI_add _ _) (by decide) rfl (fun ls hl => ?_)
                                  refine lv_goto (tgt := 218) X.1.1 X.1.2.1 dL_agrees_338 (by decide) ?_
                                  exact igo97 _ _ _ h (ck218 + 12) (cn218 + 72) t hT (by omega) rfl _ _ _ hG hS (lv_sub hl [0, 1, 2] rfl)
                                · replace h := xif_f h c140
                                  refine x_iconst X dL_agrees_333 ?_
                                  cases h
                                  exact hret _ _ _ _ _ _ _ hT (by omega) (by omega) dL_agrees_334 (by decide) hG hS
                          refine x_if_eq (tgt := 308) X g125 dL_agrees_301 (by decide) (fun c141 => ?_) (fun c141 => ?_)
                          · replace h := xif_t h c141
                            refine x_iconst X dL_agrees_308 ?_
                            exact Jj126 t hT _ _ h _ _ _ hG hS (lv_sub hl [2, 3, 1, 0] rfl)
                          · replace h := xif_f h c141
                            refine x_iconst X dL_agrees_304 ?_
                            refine lv_goto (tgt := 309) X.1.1 X.1.2.1 dL_agrees_305 (by decide) ?_
                            exact Jj126 t hT _ _ h _ _ _ hG hS (lv_sub hl [2, 3, 1, 0] rfl)
              exact Lgo97 61 _ _ _ h 173 1056 t hT ⟨by omega, by omega⟩ rfl _ _ _ hG hS (lv_sub hl [0, 1, 2] rfl)
            · replace h := xif_f h c19
              refine x_iconst X dL_agrees_214 ?_
              cases h
              exact hret _ _ _ _ _ _ _ hT (by decide) (by decide) dL_agrees_215 (by decide) hG hS
        have Lgo142 : ∀ (nf : Nat) (x2_143 : Int) (x3_144 : Int) (u145 : uS) q, xl3 (s_L_agrees_41 j13) nf x2_143 x3_144 u145 = some q → ∀ (ck41 cn41 : Nat) (t : gP) (hT : ag 39 354 357 t0 t), (ck41 + nf * 19 ≤ 173 ∧ cn41 + nf * 116 ≤ 1056) → q = (r, u') → xG p l e rL_agrees s m args below meth c t Q 7 ck41 cn41 41 u145 [(2, .int (iI x2_143)), (3, .int (iI x3_144)), (0, .ref (t.2.2.1 0)), (1, .ref (t.2.2.1 264))] [] := by
          refine xl3_N (F := s_L_agrees_41 j13) (fun nf x2_143 x3_144 u145 q => ∀ (ck41 cn41 : Nat) (t : gP) (hT : ag 39 354 357 t0 t), (ck41 + nf * 19 ≤ 173 ∧ cn41 + nf * 116 ≤ 1056) → q = (r, u') → xG p l e rL_agrees s m args below meth c t Q 7 ck41 cn41 41 u145 [(2, .int (iI x2_143)), (3, .int (iI x3_144)), (0, .ref (t.2.2.1 0)), (1, .ref (t.2.2.1 264))] []) ?_
          intro nf go142 igo142 x2_143 x3_144 u145 q h ck41 cn41 t hT hck41 hq H locs ls hG hS hl
          subst hq
          replace X := X0.ag hT (by decide)
          unfold s_L_agrees_41 at h
          refine lv_iload_n X.1.1 X.1.2.1 dL_agrees_41 rfl (lv_at hl 1 rfl) ?_
          refine lv_aload_n X.1.1 X.1.2.1 dL_agrees_42 rfl (lv_at hl 3 rfl) ?_
          refine yN_geti X hG 14 6 264 6 (inC := iX10) rfl (hT.fk (by decide) q264).1 (hT.fk (by decide) q264).2 ⟨by decide, by decide, by decide, rfl, rfl⟩ (x_m 0 rfl) dL_agrees_43 ?_
          obtain ⟨g146, h⟩ := xgd_of h
          refine x_icmp_ge (tgt := 206) X g146.1 g146.2 dL_agrees_46 (by decide) (fun c147 => ?_) (fun c147 => ?_)
          · replace h := xif_t h c147
            refine W.widen (k := 173) (n := 1056) (by omega) (by omega) ?_
            exact Jj13 t hT _ _ h _ _ _ hG hS (lv_sub hl [2, 3, 0] rfl)
          · replace h := xif_f h c147
            refine lv_aload_n X.1.1 X.1.2.1 dL_agrees_49 rfl (lv_at hl 3 rfl) ?_
            refine yN_getr X hG 14 0 264 1 (inC := iX10) rfl (hT.fk (by decide) q264).1 (hT.fk (by decide) q264).2 ⟨by decide, by decide, by decide, rfl, by decide, by decide⟩ (x_m 1 rfl) dL_agrees_50 ?_
            refine lv_iload_n X.1.1 X.1.2.1 dL_agrees_53 rfl (lv_at hl 1 rfl) ?_
            obtain ⟨g148, h⟩ := xgd_of h
            obtain ⟨g149, h⟩ := xgd_of h
            have f151 := y_qP hG (fy_14_0 hG (hT.fk (by decide) q264)).1 (fy_14_0 hG (hT.fk (by decide) q264)).2.1 (fy_14_0 hG (hT.fk (by decide) q264)).2.2 g148 g149
            obtain ⟨n150, en150, h⟩ := xlet_of h
            refine y_aaldq X hG (fy_14_0 hG (hT.fk (by decide) q264)).1 (fy_14_0 hG (hT.fk (by decide) q264)).2.1 (Or.inl rfl) (fy_14_0 hG (hT.fk (by decide) q264)).2.2 g148 (by decide) g149 dL_agrees_54 ?_
            rw [← en150]
            rw [← en150] at f151
            have f152 := hT.bk (by have h9 := sT_16 _ (al_lt f151.1) f151.2; omega) f151
            refine lv_astore (lv' := [(4, .ref (t.2.2.1 n150)), (2, .int (iI x2_143)), (3, .int (iI x3_144)), (0, .ref (t.2.2.1 0)), (1, .ref (t.2.2.1 264))]) X.1.1 X.1.2.1 dL_agrees_55 hl (by decide) rfl (fun ls hl => ?_)
            refine lv_aload X.1.1 X.1.2.1 dL_agrees_57 (lv_at hl 0 rfl) ?_
            refine yN_geti X hG 16 4 n150 4 (inC := iX12) rfl (hT.fk (by have h9 := sT_16 _ (al_lt f152.1) f152.2; omega) f152).1 (hT.fk (by have h9 := sT_16 _ (al_lt f152.1) f152.2; omega) f152).2 ⟨by decide, by decide, by decide, rfl, rfl⟩ (x_m 26 rfl) dL_agrees_59 ?_
            obtain ⟨g153, h⟩ := xgd_of h
            obtain ⟨j154, ej154, h⟩ := xlet_of h
            have Jj154 : ∀ (t : gP) (hT : ag 39 354 357 t0 t) (x2_155 : Int) (u156 : uS), j154 x2_155 u156 = some (r, u') → xG p l e rL_agrees s m args below meth c t Q 7 (ck41 + 0) (cn41 + 0) 68 u156 [(0, .ref (t.2.2.1 0)), (1, .ref (t.2.2.1 264)), (2, .int (iI x2_155)), (3, .int (iI x3_144)), (4, .ref (t.2.2.1 n150))] [] := by
                intro t hT x2_155 u156 h H locs ls hG hS hl
                replace X := X0.ag hT (by decide)
                replace h := (congrFun (congrFun ej154 x2_155) u156).symm.trans h
                refine x_bipush X dL_agrees_68 (by decide) ?_
                obtain ⟨g157, h⟩ := xgd_of h
                refine y_newi X hG hS 356 ⟨by decide, by decide⟩ (by decide +kernel) (by decide +kernel) ⟨rfl, by decide⟩ g157 w1 (by show ck41 + 0 + 1 ≤ 1683; omega) (by show cn41 + 0 + 8 ≤ 9654; omega) dL_agrees_70 (fun t' H locs hag f158 hG hS => ?_)
                obtain ⟨u159, eu159, h⟩ := xlet_of h
                replace hG : G t' u159 H := by rw [eu159]; exact hG
                rw [← hag.at (k := 0) (by decide), ← hag.at (k := 264) (by decide), ← hag.at (k := n150) (by have h9 := sT_16 _ (al_lt (hT.fk (by have h9 := sT_16 _ (al_lt f152.1) f152.2; omega) f152).1) (hT.fk (by have h9 := sT_16 _ (al_lt f152.1) f152.2; omega) f152).2; omega)] at hl
                replace X := X.ag hag (by decide)
                replace hT : ag 39 354 357 t0 t' := hT.tr hag (by decide)
                clear hag
                obtain ⟨t, rfl⟩ : ∃ z, z = t' := ⟨_, rfl⟩
                have f160 : al t 356 ∧ sT 356 = 100 ∧ sN 356 = 8 := ⟨f158, by decide +kernel, by decide +kernel⟩
                refine lv_dup X.1.1 X.1.2.1 dL_agrees_72 rfl ?_
                refine x_iconst X dL_agrees_73 ?_
                refine lv_aload X.1.1 X.1.2.1 dL_agrees_74 (lv_at hl 4 rfl) ?_
                refine yN_geti X hG 16 0 n150 0 (inC := iX12) rfl (hT.fk (by have h9 := sT_16 _ (al_lt f152.1) f152.2; omega) f152).1 (hT.fk (by have h9 := sT_16 _ (al_lt f152.1) f152.2; omega) f152).2 ⟨by decide, by decide, by decide, rfl, rfl⟩ (x_m 2 rfl) dL_agrees_76 ?_
                refine y_iast X hG hS f160.1 f160.2.1 (n := 8) f160.2.2 ⟨by decide, by decide⟩ (by decide) dL_agrees_79 (fun H locs hG hS => ?_)
                obtain ⟨u161, eu161, h⟩ := xlet_of h
                replace hG : G t u161 H := by rw [eu161]; exact hG
                refine lv_dup X.1.1 X.1.2.1 dL_agrees_80 rfl ?_
                refine x_iconst X dL_agrees_81 ?_
                refine lv_aload X.1.1 X.1.2.1 dL_agrees_82 (lv_at hl 4 rfl) ?_
                refine yN_geti X hG 16 1 n150 1 (inC := iX12) rfl (hT.fk (by have h9 := sT_16 _ (al_lt f152.1) f152.2; omega) f152).1 (hT.fk (by have h9 := sT_16 _ (al_lt f152.1) f152.2; omega) f152).2 ⟨by decide, by decide, by decide, rfl, rfl⟩ (x_m 3 rfl) dL_agrees_84 ?_
                refine y_iast X hG hS f160.1 f160.2.1 (n := 8) f160.2.2 ⟨by decide, by decide⟩ (by decide) dL_agrees_87 (fun H locs hG hS => ?_)
                obtain ⟨u162, eu162, h⟩ := xlet_of h
                replace hG : G t u162 H := by rw [eu162]; exact hG
                refine lv_dup X.1.1 X.1.2.1 dL_agrees_88 rfl ?_
                refine x_iconst X dL_agrees_89 ?_
                refine lv_aload X.1.1 X.1.2.1 dL_agrees_90 (lv_at hl 4 rfl) ?_
                refine yN_geti X hG 16 2 n150 2 (inC := iX12) rfl (hT.fk (by have h9 := sT_16 _ (al_lt f152.1) f152.2; omega) f152).1 (hT.fk (by have h9 := sT_16 _ (al_lt f152.1) f152.2; omega) f152).2 ⟨by decide, by decide, by decide, rfl, rfl⟩ (x_m 20 rfl) dL_agrees_92 ?_
                refine y_iast X hG hS f160.1 f160.2.1 (n := 8) f160.2.2 ⟨by decide, by decide⟩ (by decide) dL_agrees_95 (fun H locs hG hS => ?_)
                obtain ⟨u163, eu163, h⟩ := xlet_of h
                replace hG : G t u163 H := by rw [eu163]; exact hG
                refine lv_dup X.1.1 X.1.2.1 dL_agrees_96 rfl ?_
                refine x_iconst X dL_agrees_97 ?_
                refine lv_aload_n X.1.1 X.1.2.1 dL_agrees_98 rfl (lv_at hl 1 rfl) ?_
                refine lv_aload X.1.1 X.1.2.1 dL_agrees_99 (lv_at hl 4 rfl) ?_
                refine lv_aload_n X.1.1 X.1.2.1 dL_agrees_101 rfl (lv_at hl 1 rfl) ?_
                refine yN_geti X hG 14 17 264 17 (inC := iX10) rfl (hT.fk (by decide) q264).1 (hT.fk (by decide) q264).2 ⟨by decide, by decide, by decide, rfl, rfl⟩ (x_m 10 rfl) dL_agrees_102 ?_
                obtain ⟨v164, u165, hf, h⟩ := xbd_of h
                refine y_callVi0 X hG hS (c_X10_sum l t _ _ _ _ _ hf (hT.fk (by decide) q264).1 (hT.fk (by have h9 := sT_16 _ (al_lt f152.1) f152.2; omega) f152)) (cwV 2 X.1.2.2.2.2 gL_agrees_X10_sum rfl rfl rfl hd_X10_sum ⟨Nat.le_of_ble_eq_true rfl, Nat.le_of_ble_eq_true rfl⟩) (hT.fk (by decide) q264).1 (hT.fk (by decide) q264).2 rfl (by decide) (by rfl) hl.1 (Nat.le_of_ble_eq_true rfl) dL_agrees_105 ⟨by show ck41 + 1 ≤ 1683; omega, by show cn41 + 8 ≤ 9654; omega⟩ rfl (fun H locs hG hS => ?_)
                refine y_iast X hG hS f160.1 f160.2.1 (n := 8) f160.2.2 ⟨by decide, by decide⟩ (by decide) dL_agrees_108 (fun H locs hG hS => ?_)
                obtain ⟨u166, eu166, h⟩ := xlet_of h
                replace hG : G t u166 H := by rw [eu166]; exact hG
                refine lv_dup X.1.1 X.1.2.1 dL_agrees_109 rfl ?_
                refine x_iconst X dL_agrees_110 ?_
                refine lv_aload_n X.1.1 X.1.2.1 dL_agrees_111 rfl (lv_at hl 1 rfl) ?_
                refine lv_aload X.1.1 X.1.2.1 dL_agrees_112 (lv_at hl 4 rfl) ?_
                refine lv_aload_n X.1.1 X.1.2.1 dL_agrees_114 rfl (lv_at hl 1 rfl) ?_
                refine yN_geti X hG 14 18 264 18 (inC := iX10) rfl (hT.fk (by decide) q264).1 (hT.fk (by decide) q264).2 ⟨by decide, by decide, by decide, rfl, rfl⟩ (x_m 11 rfl) dL_agrees_115 ?_
                obtain ⟨v167, u168, hf, h⟩ := xbd_of h
                refine y_callVi0 X hG hS (c_X10_sum l t _ _ _ _ _ hf (hT.fk (by decide) q264).1 (hT.fk (by have h9 := sT_16 _ (al_lt f152.1) f152.2; omega) f152)) (cwV 2 X.1.2.2.2.2 gL_agrees_X10_sum rfl rfl rfl hd_X10_sum ⟨Nat.le_of_ble_eq_true rfl, Nat.le_of_ble_eq_true rfl⟩) (hT.fk (by decide) q264).1 (hT.fk (by decide) q264).2 rfl (by decide) (by rfl) hl.1 (Nat.le_of_ble_eq_true rfl) dL_agrees_118 ⟨by show ck41 + 1 ≤ 1683; omega, by show cn41 + 8 ≤ 9654; omega⟩ rfl (fun H locs hG hS => ?_)
                refine y_iast X hG hS f160.1 f160.2.1 (n := 8) f160.2.2 ⟨by decide, by decide⟩ (by decide) dL_agrees_121 (fun H locs hG hS => ?_)
                obtain ⟨u169, eu169, h⟩ := xlet_of h
                replace hG : G t u169 H := by rw [eu169]; exact hG
                refine lv_dup X.1.1 X.1.2.1 dL_agrees_122 rfl ?_
                refine x_iconst X dL_agrees_123 ?_
                refine lv_aload_n X.1.1 X.1.2.1 dL_agrees_124 rfl (lv_at hl 1 rfl) ?_
                refine lv_aload X.1.1 X.1.2.1 dL_agrees_125 (lv_at hl 4 rfl) ?_
                obtain ⟨v170, u171, hf, h⟩ := xbd_of h
                refine y_callVi0 X hG hS (c_X10_ratio l t _ _ _ _ hf (hT.fk (by decide) q264).1 (hT.fk (by have h9 := sT_16 _ (al_lt f152.1) f152.2; omega) f152)) (cwV 1 X.1.2.2.2.2 gL_agrees_X10_ratio rfl rfl rfl hd_X10_ratio ⟨Nat.le_of_ble_eq_true rfl, Nat.le_of_ble_eq_true rfl⟩) (hT.fk (by decide) q264).1 (hT.fk (by decide) q264).2 rfl (by decide) (by rfl) hl.1 (Nat.le_of_ble_eq_true rfl) dL_agrees_127 ⟨by show ck41 + 1 ≤ 1683; omega, by show cn41 + 8 ≤ 9654; omega⟩ rfl (fun H locs hG hS => ?_)
                refine y_iast X hG hS f160.1 f160.2.1 (n := 8) f160.2.2 ⟨by decide, by decide⟩ (by decide) dL_agrees_130 (fun H locs hG hS => ?_)
                obtain ⟨u172, eu172, h⟩ := xlet_of h
                replace hG : G t u172 H := by rw [eu172]; exact hG
                refine lv_dup X.1.1 X.1.2.1 dL_agrees_131 rfl ?_
                refine x_bipush X dL_agrees_132 (by decide) ?_
                refine lv_aload X.1.1 X.1.2.1 dL_agrees_134 (lv_at hl 4 rfl) ?_
                refine yN_geti X hG 16 4 n150 4 (inC := iX12) rfl (hT.fk (by have h9 := sT_16 _ (al_lt f152.1) f152.2; omega) f152).1 (hT.fk (by have h9 := sT_16 _ (al_lt f152.1) f152.2; omega) f152).2 ⟨by decide, by decide, by decide, rfl, rfl⟩ (x_m 26 rfl) dL_agrees_136 ?_
                obtain ⟨g173, h⟩ := xgd_of h
                obtain ⟨j174, ej174, h⟩ := xlet_of h
                have Jj174 : ∀ (t : gP) (hT : ag 39 354 357 t0 t) (f177 : al t 356 ∧ sT 356 = 100 ∧ sN 356 = 8) (s175 : Int) (u176 : uS), j174 s175 u176 = some (r, u') → xG p l e rL_agrees s m args below meth c t Q 7 (ck41 + 1) (cn41 + 8) 147 u176 [(0, .ref (t.2.2.1 0)), (1, .ref (t.2.2.1 264)), (2, .int (iI x2_155)), (3, .int (iI x3_144)), (4, .ref (t.2.2.1 n150))] [.int (iI s175), .int (iI 6), .ref (t.2.2.1 356), .ref (t.2.2.1 356)] := by
                    intro t hT f177 s175 u176 h H locs ls hG hS hl
                    replace X := X0.ag hT (by decide)
                    replace h := (congrFun (congrFun ej174 s175) u176).symm.trans h
                    refine y_iast X hG hS f177.1 f177.2.1 (n := 8) f177.2.2 ⟨by decide, by decide⟩ (by decide) dL_agrees_147 (fun H locs hG hS => ?_)
                    obtain ⟨u178, eu178, h⟩ := xlet_of h
                    replace hG : G t u178 H := by rw [eu178]; exact hG
                    refine lv_dup X.1.1 X.1.2.1 dL_agrees_148 rfl ?_
                    refine x_bipush X dL_agrees_149 (by decide) ?_
                    refine lv_aload X.1.1 X.1.2.1 dL_agrees_151 (lv_at hl 4 rfl) ?_
                    refine yN_geti X hG 16 5 n150 5 (inC := iX12) rfl (hT.fk (by have h9 := sT_16 _ (al_lt f152.1) f152.2; omega) f152).1 (hT.fk (by have h9 := sT_16 _ (al_lt f152.1) f152.2; omega) f152).2 ⟨by decide, by decide, by decide, rfl, rfl⟩ (x_m 21 rfl) dL_agrees_153 ?_
                    obtain ⟨g179, h⟩ := xgd_of h
                    obtain ⟨j180, ej180, h⟩ := xlet_of h
                    have Jj180 : ∀ (t : gP) (hT : ag 39 354 357 t0 t) (f183 : al t 356 ∧ sT 356 = 100 ∧ sN 356 = 8) (s181 : Int) (u182 : uS), j180 s181 u182 = some (r, u') → xG p l e rL_agrees s m args below meth c t Q 7 (ck41 + 1) (cn41 + 8) 164 u182 [(0, .ref (t.2.2.1 0)), (1, .ref (t.2.2.1 264)), (2, .int (iI x2_155)), (3, .int (iI x3_144))] [.int (iI s181), .int (iI 7), .ref (t.2.2.1 356), .ref (t.2.2.1 356)] := by
                        intro t hT f183 s181 u182 h H locs ls hG hS hl
                        replace X := X0.ag hT (by decide)
                        replace h := (congrFun (congrFun ej180 s181) u182).symm.trans h
                        refine y_iast X hG hS f183.1 f183.2.1 (n := 8) f183.2.2 ⟨by decide, by decide⟩ (by decide) dL_agrees_164 (fun H locs hG hS => ?_)
                        obtain ⟨u184, eu184, h⟩ := xlet_of h
                        replace hG : G t u184 H := by rw [eu184]; exact hG
                        refine lv_astore (lv' := [(5, .ref (t.2.2.1 356)), (0, .ref (t.2.2.1 0)), (1, .ref (t.2.2.1 264)), (2, .int (iI x2_155)), (3, .int (iI x3_144))]) X.1.1 X.1.2.1 dL_agrees_165 hl (by decide) rfl (fun ls hl => ?_)
                        refine x_iconst X dL_agrees_167 ?_
                        refine lv_istore (lv' := [(6, .int (iI 0)), (5, .ref (t.2.2.1 356)), (0, .ref (t.2.2.1 0)), (1, .ref (t.2.2.1 264)), (2, .int (iI x2_155)), (3, .int (iI x3_144))]) X.1.1 X.1.2.1 dL_agrees_168 hl (by decide) rfl (fun ls hl => ?_)
                        have Lgo185 : ∀ (nf : Nat) (x6_186 : Int) (u187 : uS) q, xl2 (s_L_agrees_170 go142 x2_155 x3_144) nf x6_186 u187 = some q → ∀ (ck170 cn170 : Nat) (t : gP) (hT : ag 39 354 357 t0 t) (f188 : al t 356 ∧ sT 356 = 100 ∧ sN 356 = 8), (ck170 + nf * 2 ≤ ck41 + 19 ∧ cn170 + nf * 12 ≤ cn41 + 116) → q = (r, u') → xG p l e rL_agrees s m args below meth c t Q 7 ck170 cn170 170 u187 [(6, .int (iI x6_186)), (0, .ref (t.2.2.1 0)), (1, .ref (t.2.2.1 264)), (2, .int (iI x2_155)), (3, .int (iI x3_144)), (5, .ref (t.2.2.1 356))] [] := by
                          refine xl2_N (F := s_L_agrees_170 go142 x2_155 x3_144) (fun nf x6_186 u187 q => ∀ (ck170 cn170 : Nat) (t : gP) (hT : ag 39 354 357 t0 t) (f188 : al t 356 ∧ sT 356 = 100 ∧ sN 356 = 8), (ck170 + nf * 2 ≤ ck41 + 19 ∧ cn170 + nf * 12 ≤ cn41 + 116) → q = (r, u') → xG p l e rL_agrees s m args below meth c t Q 7 ck170 cn170 170 u187 [(6, .int (iI x6_186)), (0, .ref (t.2.2.1 0)), (1, .ref (t.2.2.1 264)), (2, .int (iI x2_155)), (3, .int (iI x3_144)), (5, .ref (t.2.2.1 356))] []) ?_
                          intro nf go185 igo185 x6_186 u187 q h ck170 cn170 t hT f188 hck170 hq H locs ls hG hS hl
                          subst hq
                          replace X := X0.ag hT (by decide)
                          unfold s_L_agrees_170 at h
                          refine lv_iload X.1.1 X.1.2.1 dL_agrees_170 (lv_at hl 0 rfl) ?_
                          refine x_bipush X dL_agrees_172 (by decide) ?_
                          obtain ⟨g189, h⟩ := xgd_of h
                          refine x_icmp_ge (tgt := 200) X g189 ⟨by decide, by decide⟩ dL_agrees_174 (by decide) (fun c190 => ?_) (fun c190 => ?_)
                          · replace h := xif_t h c190
                            refine lv_iinc (v := (iI (x3_144 + 1))) (lv' := [(3, .int (iI (x3_144 + 1))), (6, .int (iI x6_186)), (0, .ref (t.2.2.1 0)), (1, .ref (t.2.2.1 264)), (2, .int (iI x2_155)), (5, .ref (t.2.2.1 356))]) X.1.1 X.1.2.1 dL_agrees_200 hl (k := 4) rfl (iI_add _ _) (by decide) rfl (fun ls hl => ?_)
                            refine lv_goto (tgt := 41) X.1.1 X.1.2.1 dL_agrees_203 (by decide) ?_
                            refine W.widen (k := ck41 + 19) (n := cn41 + 116) (by omega) (by omega) ?_
                            exact igo142 _ _ _ _ h (ck41 + 19) (cn41 + 116) t hT (by omega) rfl _ _ _ hG hS (lv_sub hl [4, 0, 2, 3] rfl)
                          · replace h := xif_f h c190
                            refine lv_aload_n X.1.1 X.1.2.1 dL_agrees_177 rfl (lv_at hl 1 rfl) ?_
                            refine lv_iload_n X.1.1 X.1.2.1 dL_agrees_178 rfl (lv_at hl 4 rfl) ?_
                            refine lv_iload X.1.1 X.1.2.1 dL_agrees_179 (lv_at hl 0 rfl) ?_
                            obtain ⟨v191, u192, hf, h⟩ := xb0_of h
                            refine x_callVTi X hG hS (c_X9_station l hfl t _ _ _ _ _ _ hf) (cwV 2 X.1.2.2.2.2 gL_agrees_X9_station rfl rfl rfl hd_X9_station ⟨Nat.le_of_ble_eq_true rfl, Nat.le_of_ble_eq_true rfl⟩) q0.1 q0.2 rfl (by decide) (by rfl) hl.1 (Nat.le_of_ble_eq_true rfl) dL_agrees_181 ⟨by show ck170 + 0 + 2 ≤ 1683; omega, by show cn170 + 0 + 12 ≤ 9654; omega⟩ rfl (fun hg H locs ce q9 hG hS h7 h8 h9 => absurd rfl hg) (fun hg H locs hG hS => ?_)
                            refine lv_aload X.1.1 X.1.2.1 dL_agrees_184 (lv_at hl 5 rfl) ?_
                            refine lv_iload X.1.1 X.1.2.1 dL_agrees_186 (lv_at hl 0 rfl) ?_
                            obtain ⟨g193, h⟩ := xgd_of h
                            refine y_iald X hG f188.1 f188.2.1 (n := 8) f188.2.2 g193 (by decide) dL_agrees_188 ?_
                            obtain ⟨g194, h⟩ := xgd_of h
                            refine x_icmp_eq (tgt := 194) X g194.1 g194.2 dL_agrees_189 (by decide) (fun c195 => ?_) (fun c195 => ?_)
                            · replace h := xif_t h c195
                              refine lv_iinc (v := (iI (x6_186 + 1))) (lv' := [(6, .int (iI (x6_186 + 1))), (0, .ref (t.2.2.1 0)), (1, .ref (t.2.2.1 264)), (2, .int (iI x2_155)), (3, .int (iI x3_144)), (5, .ref (t.2.2.1 356))]) X.1.1 X.1.2.1 dL_agrees_194 hl (k := 0) rfl (iI_add _ _) (by decide) rfl (fun ls hl => ?_)
                              refine lv_goto (tgt := 170) X.1.1 X.1.2.1 dL_agrees_197 (by decide) ?_
                              exact igo185 _ _ _ h (ck170 + 2) (cn170 + 12) t hT f188 (by omega) rfl _ _ _ hG hS (lv_sub hl [0, 1, 2, 3, 4, 5] rfl)
                            · replace h := xif_f h c195
                              refine x_iconst X dL_agrees_192 ?_
                              cases h
                              exact hret _ _ _ _ _ _ _ hT (by omega) (by omega) dL_agrees_193 (by decide) hG hS
                        exact Lgo185 9 _ _ _ h (ck41 + 1) (cn41 + 8) t hT f183 ⟨by omega, by omega⟩ rfl _ _ _ hG hS (lv_sub hl [0, 2, 3, 4, 5, 1] rfl)
                    refine x_if_eq (tgt := 163) X g179 dL_agrees_156 (by decide) (fun c196 => ?_) (fun c196 => ?_)
                    · replace h := xif_t h c196
                      refine x_iconst X dL_agrees_163 ?_
                      exact Jj180 t hT f177 _ _ h _ _ _ hG hS (lv_sub hl [0, 1, 2, 3] rfl)
                    · replace h := xif_f h c196
                      refine x_iconst X dL_agrees_159 ?_
                      refine lv_goto (tgt := 164) X.1.1 X.1.2.1 dL_agrees_160 (by decide) ?_
                      exact Jj180 t hT f177 _ _ h _ _ _ hG hS (lv_sub hl [0, 1, 2, 3] rfl)
                refine x_if_eq (tgt := 146) X g173 dL_agrees_139 (by decide) (fun c197 => ?_) (fun c197 => ?_)
                · replace h := xif_t h c197
                  refine x_iconst X dL_agrees_146 ?_
                  exact Jj174 t hT f160 _ _ h _ _ _ hG hS (lv_sub hl [0, 1, 2, 3, 4] rfl)
                · replace h := xif_f h c197
                  refine x_iconst X dL_agrees_142 ?_
                  refine lv_goto (tgt := 147) X.1.1 X.1.2.1 dL_agrees_143 (by decide) ?_
                  exact Jj174 t hT f160 _ _ h _ _ _ hG hS (lv_sub hl [0, 1, 2, 3, 4] rfl)
            refine x_if_eq (tgt := 68) X g153 dL_agrees_62 (by decide) (fun c198 => ?_) (fun c198 => ?_)
            · replace h := xif_t h c198
              exact Jj154 t hT _ _ h _ _ _ hG hS (lv_sub hl [3, 4, 1, 2, 0] rfl)
            · replace h := xif_f h c198
              refine lv_iinc (v := (iI (x2_143 + 1))) (lv' := [(2, .int (iI (x2_143 + 1))), (4, .ref (t.2.2.1 n150)), (3, .int (iI x3_144)), (0, .ref (t.2.2.1 0)), (1, .ref (t.2.2.1 264))]) X.1.1 X.1.2.1 dL_agrees_65 hl (k := 1) rfl (iI_add _ _) (by decide) rfl (fun ls hl => ?_)
              exact Jj154 t hT _ _ h _ _ _ hG hS (lv_sub hl [3, 4, 0, 2, 1] rfl)
        exact Lgo142 9 _ _ _ _ h 2 12 t hT ⟨by omega, by omega⟩ rfl _ _ _ hG hS (lv_sub hl [1, 0, 2, 3] rfl)
      · replace h := xif_f h c12
        refine x_iconst X dL_agrees_35 ?_
        cases h
        exact hret _ _ _ _ _ _ _ hT (by decide) (by decide) dL_agrees_36 (by decide) hG hS
theorem hds_L_agrees : yL_agrees.cls ≠ "java/lang/invoke/MethodHandle" ∧ yL_agrees.cls ≠ "java/lang/invoke/VarHandle" ∧ (parseMethodDescriptor yL_agrees.desc).map (fun d => d.parameters.length) = some 2 := by decide +kernel
