abbrev rL_agrees : Room := { frames := 8, cells := 388, slots := 1984, locals := 163 }
set_option maxRecDepth 100000 in
set_option maxHeartbeats 8000000 in
theorem c_L_agrees (l : Launch) (hfl : l.stackTraces = false) (t0 : gP) (u : uS) (r : Int) (u' : uS) (h : f_L_agrees u = some (r, u')) (aq264 : al t0 264) : xMia 39 354 357 l yL_agrees wsL_agrees rL_agrees t0 [.ref (t0.2.2.1 0), .ref (t0.2.2.1 264)] u r u' 388 1984 := by
  refine x_ofWia (cc := cL_agrees) (maxL := 7) (ret := .boolean) (own := RL) (by decide) rfl rfl (Nat.le_of_ble_eq_true rfl) ?_
  intro p e s m args below meth c Q X0 hret H locs ls hG hS hl
  replace hl : lv_has ls 7 [(0, .ref (t0.2.2.1 0)), (1, .ref (t0.2.2.1 264))] := hl
  have q0 : 0 < NN ∧ sT 0 = 13 := by decide
  have iX10 : ∀ w ∈ wsX100, w ∈ wsL_agrees := by decide +kernel
  have iX11 : ∀ w ∈ wsX110, w ∈ wsL_agrees := by decide +kernel
  have iX12 : ∀ w ∈ wsX120, w ∈ wsL_agrees := by decide +kernel
  have w1 : Cond.arrayClass .int ∈ wsL_agrees := x_w 1 rfl
  have q264 : al t0 264 ∧ sT 264 = 14 := ⟨aq264, by decide +kernel⟩
  obtain ⟨t, ht, hT⟩ : ∃ t, t0 = t ∧ ag 39 354 357 t0 t := ⟨t0, rfl, ag.rf⟩
  have X := X0.ag hT (by decide)
  rw [ht] at hG hS hl
  clear ht
  unfold f_L_agrees at h
  refine lv_aload_n X.1.1 X.1.2.1 dL_agrees_0 rfl (lv_at hl 0 rfl) ?_
  obtain ⟨v1, u2, hf, h⟩ := xbd_of h
  refine x_callVi0 X hG hS (c_X9_tick l t  _ _ _ hf) (cwV 0 X.1.2.2.2.2 gL_agrees_X9_tick rfl rfl rfl hd_X9_tick ⟨Nat.le_of_ble_eq_true rfl, Nat.le_of_ble_eq_true rfl⟩) q0.1 q0.2 rfl (by decide) (by rfl) hl.1 (Nat.le_of_ble_eq_true rfl) dL_agrees_1 ⟨by decide, by decide⟩ rfl (fun H locs hG hS => ?_)
  refine lv_aload_n X.1.1 X.1.2.1 dL_agrees_4 rfl (lv_at hl 1 rfl) ?_
  refine yN_geti X hG 14 9 264 9 (inC := iX10) rfl (hT.fk (by decide) q264).1 (hT.fk (by decide) q264).2 ⟨by decide, by decide, by decide, rfl, rfl⟩ (x_m 25 rfl) dL_agrees_5 ?_
  obtain ⟨g3, h⟩ := xgd_of h
  refine x_icmp_ne (tgt := 35) X g3.1 g3.2 dL_agrees_8 (by decide) (fun c4 => ?_) (fun c4 => ?_)
  · replace h := xif_f h c4
    refine x_iconst X dL_agrees_35 ?_
    cases h
    exact hret _ _ _ _ _ _ _ hT (by decide) (by decide) dL_agrees_36 (by decide) hG hS
  · replace h := xif_t h c4
    refine lv_aload_n X.1.1 X.1.2.1 dL_agrees_11 rfl (lv_at hl 0 rfl) ?_
    refine x_iconst X dL_agrees_12 ?_
    obtain ⟨v5, u6, hf, h⟩ := xb0_of h
    refine x_callVTi X hG hS (c0_X9_size l hfl t _ _ _ _ hf) (cwV 1 X.1.2.2.2.2 gL_agrees_X9_size rfl rfl rfl hd_X9_size ⟨Nat.le_of_ble_eq_true rfl, Nat.le_of_ble_eq_true rfl⟩) q0.1 q0.2 rfl (by decide) (by rfl) hl.1 (Nat.le_of_ble_eq_true rfl) dL_agrees_13 ⟨by decide, by decide⟩ rfl (fun hg H locs ce q9 hG hS h7 h8 h9 => absurd rfl hg) (fun hg H locs hG hS => ?_)
    refine lv_aload_n X.1.1 X.1.2.1 dL_agrees_16 rfl (lv_at hl 1 rfl) ?_
    refine yN_geti X hG 14 7 264 7 (inC := iX10) rfl (hT.fk (by decide) q264).1 (hT.fk (by decide) q264).2 ⟨by decide, by decide, by decide, rfl, rfl⟩ (x_m 24 rfl) dL_agrees_17 ?_
    obtain ⟨g7, h⟩ := xgd_of h
    refine x_icmp_ne (tgt := 35) X g7.1 g7.2 dL_agrees_20 (by decide) (fun c8 => ?_) (fun c8 => ?_)
    · replace h := xif_f h c8
      refine x_iconst X dL_agrees_35 ?_
      cases h
      exact hret _ _ _ _ _ _ _ hT (by decide) (by decide) dL_agrees_36 (by decide) hG hS
    · replace h := xif_t h c8
      refine lv_aload_n X.1.1 X.1.2.1 dL_agrees_23 rfl (lv_at hl 0 rfl) ?_
      refine x_iconst X dL_agrees_24 ?_
      obtain ⟨v9, u10, hf, h⟩ := xb0_of h
      refine x_callVTi X hG hS (c0_X9_size l hfl t _ _ _ _ hf) (cwV 1 X.1.2.2.2.2 gL_agrees_X9_size rfl rfl rfl hd_X9_size ⟨Nat.le_of_ble_eq_true rfl, Nat.le_of_ble_eq_true rfl⟩) q0.1 q0.2 rfl (by decide) (by rfl) hl.1 (Nat.le_of_ble_eq_true rfl) dL_agrees_25 ⟨by decide, by decide⟩ rfl (fun hg H locs ce q9 hG hS h7 h8 h9 => absurd rfl hg) (fun hg H locs hG hS => ?_)
      refine lv_aload_n X.1.1 X.1.2.1 dL_agrees_28 rfl (lv_at hl 1 rfl) ?_
      refine yN_geti X hG 14 8 264 8 (inC := iX10) rfl (hT.fk (by decide) q264).1 (hT.fk (by decide) q264).2 ⟨by decide, by decide, by decide, rfl, rfl⟩ (x_m 22 rfl) dL_agrees_29 ?_
      obtain ⟨g11, h⟩ := xgd_of h
      refine x_icmp_eq (tgt := 37) X g11.1 g11.2 dL_agrees_32 (by decide) (fun c12 => ?_) (fun c12 => ?_)
      · replace h := xif_t h c12
        refine x_iconst X dL_agrees_37 ?_
        refine lv_istore_n (lv' := [(2, .int (iI 0)), (0, .ref (t.2.2.1 0)), (1, .ref (t.2.2.1 264))]) X.1.1 X.1.2.1 dL_agrees_38 rfl hl (by decide) rfl (fun ls hl => ?_)
        refine x_iconst X dL_agrees_39 ?_
        refine lv_istore_n (lv' := [(3, .int (iI 0)), (2, .int (iI 0)), (0, .ref (t.2.2.1 0)), (1, .ref (t.2.2.1 264))]) X.1.1 X.1.2.1 dL_agrees_40 rfl hl (by decide) rfl (fun ls hl => ?_)
        obtain ⟨j13, ej13, h⟩ := xlet_of h
        have Jj13 : ∀ (t : gP) (hT : ag 39 354 357 t0 t) (x2_14 : Int) (u15 : uS), j13 x2_14 u15 = some (r, u') → xG p l e rL_agrees s m args below meth c t Q 7 8 64 206 u15 [(0, .ref (t.2.2.1 0)), (1, .ref (t.2.2.1 264)), (2, .int (iI x2_14))] [] := by
            intro t hT x2_14 u15 h H locs ls hG hS hl
            replace X := X0.ag hT (by decide)
            replace h := (congrFun (congrFun ej13 x2_14) u15).symm.trans h
            refine lv_aload_n X.1.1 X.1.2.1 dL_agrees_206 rfl (lv_at hl 0 rfl) ?_
            obtain ⟨v16, u17, hf, h⟩ := xbd_of h
            refine x_callVi0 X hG hS (c_X9_triggered l t  _ _ _ hf) (cwV 0 X.1.2.2.2.2 gL_agrees_X9_triggered rfl rfl rfl hd_X9_triggered ⟨Nat.le_of_ble_eq_true rfl, Nat.le_of_ble_eq_true rfl⟩) q0.1 q0.2 rfl (by decide) (by rfl) hl.1 (Nat.le_of_ble_eq_true rfl) dL_agrees_207 ⟨by decide, by decide⟩ rfl (fun H locs hG hS => ?_)
            refine lv_iload_n X.1.1 X.1.2.1 dL_agrees_210 rfl (lv_at hl 2 rfl) ?_
            obtain ⟨g18, h⟩ := xgd_of h
            refine x_icmp_eq (tgt := 216) X g18.1 g18.2 dL_agrees_211 (by decide) (fun c19 => ?_) (fun c19 => ?_)
            · replace h := xif_t h c19
              refine x_iconst X dL_agrees_216 ?_
              refine lv_istore_n (lv' := [(3, .int (iI 0)), (0, .ref (t.2.2.1 0)), (1, .ref (t.2.2.1 264)), (2, .int (iI x2_14))]) X.1.1 X.1.2.1 dL_agrees_217 rfl hl (by decide) rfl (fun ls hl => ?_)
              obtain ⟨j20, ej20, h⟩ := xlet_of h
              have Jj20 : ∀ (t : gP) (hT : ag 39 354 357 t0 t) (u21 : uS), j20 u21 = some (r, u') → xG p l e rL_agrees s m args below meth c t Q 7 8 64 341 u21 [(0, .ref (t.2.2.1 0)), (1, .ref (t.2.2.1 264))] [] := by
                  intro t hT u21 h H locs ls hG hS hl
                  replace X := X0.ag hT (by decide)
                  replace h := (congrFun ej20 u21).symm.trans h
                  refine x_iconst X dL_agrees_341 ?_
                  refine lv_istore_n (lv' := [(3, .int (iI 0)), (0, .ref (t.2.2.1 0)), (1, .ref (t.2.2.1 264))]) X.1.1 X.1.2.1 dL_agrees_342 rfl hl (by decide) rfl (fun ls hl => ?_)
                  refine x_iconst X dL_agrees_343 ?_
                  refine lv_istore (lv' := [(4, .int (iI 0)), (3, .int (iI 0)), (0, .ref (t.2.2.1 0)), (1, .ref (t.2.2.1 264))]) X.1.1 X.1.2.1 dL_agrees_344 hl (by decide) rfl (fun ls hl => ?_)
                  obtain ⟨j22, ej22, h⟩ := xlet_of h
                  have Jj22 : ∀ (t : gP) (hT : ag 39 354 357 t0 t) (x3_23 : Int) (u24 : uS), j22 x3_23 u24 = some (r, u') → xG p l e rL_agrees s m args below meth c t Q 7 388 1984 547 u24 [(0, .ref (t.2.2.1 0)), (3, .int (iI x3_23))] [] := by
                      intro t hT x3_23 u24 h H locs ls hG hS hl
                      replace X := X0.ag hT (by decide)
                      replace h := (congrFun (congrFun ej22 x3_23) u24).symm.trans h
                      refine lv_aload_n X.1.1 X.1.2.1 dL_agrees_547 rfl (lv_at hl 0 rfl) ?_
                      refine x_iconst X dL_agrees_548 ?_
                      obtain ⟨v25, u26, hf, h⟩ := xb0_of h
                      refine x_callVTi X hG hS (c0_X9_size l hfl t _ _ _ _ hf) (cwV 1 X.1.2.2.2.2 gL_agrees_X9_size rfl rfl rfl hd_X9_size ⟨Nat.le_of_ble_eq_true rfl, Nat.le_of_ble_eq_true rfl⟩) q0.1 q0.2 rfl (by decide) (by rfl) hl.1 (Nat.le_of_ble_eq_true rfl) dL_agrees_549 ⟨by decide, by decide⟩ rfl (fun hg H locs ce q9 hG hS h7 h8 h9 => absurd rfl hg) (fun hg H locs hG hS => ?_)
                      refine lv_iload_n X.1.1 X.1.2.1 dL_agrees_552 rfl (lv_at hl 1 rfl) ?_
                      obtain ⟨g27, h⟩ := xgd_of h
                      refine x_icmp_ne (tgt := 560) X g27.1 g27.2 dL_agrees_553 (by decide) (fun c28 => ?_) (fun c28 => ?_)
                      · replace h := xif_f h c28
                        refine x_iconst X dL_agrees_560 ?_
                        cases h
                        exact hret _ _ _ _ _ _ _ hT (by decide) (by decide) dL_agrees_561 (by decide) hG hS
                      · replace h := xif_t h c28
                        refine x_iconst X dL_agrees_556 ?_
                        refine lv_goto (tgt := 561) X.1.1 X.1.2.1 dL_agrees_557 (by decide) ?_
                        cases h
                        exact hret _ _ _ _ _ _ _ hT (by decide) (by decide) dL_agrees_561 (by decide) hG hS
                  have Lgo29 : ∀ (nf : Nat) (x3_30 : Int) (x4_31 : Int) (u32 : uS) q, xl3 (s_L_agrees_346 j22) nf x3_30 x4_31 u32 = some q → ∀ (ck346 cn346 : Nat) (t : gP) (hT : ag 39 354 357 t0 t), ((ck346 ≤ 388 ∧ cn346 ≤ 1984) ∧ (ck346 : Int) + (20 - x4_31) * 19 ≤ ((388 : Nat) : Int) ∧ (cn346 : Int) + (20 - x4_31) * 96 ≤ ((1984 : Nat) : Int)) → q = (r, u') → xG p l e rL_agrees s m args below meth c t Q 7 ck346 cn346 346 u32 [(3, .int (iI x3_30)), (4, .int (iI x4_31)), (0, .ref (t.2.2.1 0)), (1, .ref (t.2.2.1 264))] [] := by
                    refine xl3_N (F := s_L_agrees_346 j22) (fun nf x3_30 x4_31 u32 q => ∀ (ck346 cn346 : Nat) (t : gP) (hT : ag 39 354 357 t0 t), ((ck346 ≤ 388 ∧ cn346 ≤ 1984) ∧ (ck346 : Int) + (20 - x4_31) * 19 ≤ ((388 : Nat) : Int) ∧ (cn346 : Int) + (20 - x4_31) * 96 ≤ ((1984 : Nat) : Int)) → q = (r, u') → xG p l e rL_agrees s m args below meth c t Q 7 ck346 cn346 346 u32 [(3, .int (iI x3_30)), (4, .int (iI x4_31)), (0, .ref (t.2.2.1 0)), (1, .ref (t.2.2.1 264))] []) ?_
                    intro nf go29 igo29 x3_30 x4_31 u32 q h ck346 cn346 t hT hck346 hq H locs ls hG hS hl
                    subst hq
                    replace X := X0.ag hT (by decide)
                    unfold s_L_agrees_346 at h
                    refine lv_iload X.1.1 X.1.2.1 dL_agrees_346 (lv_at hl 1 rfl) ?_
                    refine lv_aload_n X.1.1 X.1.2.1 dL_agrees_348 rfl (lv_at hl 3 rfl) ?_
                    refine yN_geti X hG 14 8 264 8 (inC := iX10) rfl (hT.fk (by decide) q264).1 (hT.fk (by decide) q264).2 ⟨by decide, by decide, by decide, rfl, rfl⟩ (x_m 22 rfl) dL_agrees_349 ?_
                    obtain ⟨g33, h⟩ := xgd_of h
                    refine x_icmp_ge (tgt := 547) X g33.1 g33.2 dL_agrees_352 (by decide) (fun c34 => ?_) (fun c34 => ?_)
                    · replace h := xif_t h c34
                      refine W.widen (k := 388) (n := 1984) (by omega) (by omega) ?_
                      exact Jj22 t hT _ _ h _ _ _ hG hS (lv_sub hl [2, 0] rfl)
                    · replace h := xif_f h c34
                      obtain ⟨g35, h⟩ := xgd_of h
                      refine lv_aload_n X.1.1 X.1.2.1 dL_agrees_355 rfl (lv_at hl 2 rfl) ?_
                      refine lv_iload X.1.1 X.1.2.1 dL_agrees_356 (lv_at hl 1 rfl) ?_
                      refine x_iconst X dL_agrees_358 ?_
                      obtain ⟨v36, u37, hf, h⟩ := xb0_of h
                      refine x_callVTi X hG hS (c0_X9_event l hfl t _ _ _ _ _ hf) (cwV 2 X.1.2.2.2.2 gL_agrees_X9_event rfl rfl rfl hd_X9_event ⟨Nat.le_of_ble_eq_true rfl, Nat.le_of_ble_eq_true rfl⟩) q0.1 q0.2 rfl (by decide) (by rfl) hl.1 (Nat.le_of_ble_eq_true rfl) dL_agrees_359 ⟨by show ck346 + 0 + 0 ≤ 388; omega, by show cn346 + 0 + 0 ≤ 1984; omega⟩ rfl (fun hg H locs ce q9 hG hS h7 h8 h9 => absurd rfl hg) (fun hg H locs hG hS => ?_)
                      refine lv_aload_n X.1.1 X.1.2.1 dL_agrees_362 rfl (lv_at hl 3 rfl) ?_
                      refine yN_getr X hG 14 2 264 3 (inC := iX10) rfl (hT.fk (by decide) q264).1 (hT.fk (by decide) q264).2 ⟨by decide, by decide, by decide, rfl, by decide, by decide⟩ (x_m 23 rfl) dL_agrees_363 ?_
                      refine lv_iload X.1.1 X.1.2.1 dL_agrees_366 (lv_at hl 1 rfl) ?_
                      obtain ⟨g38, h⟩ := xgd_of h
                      refine y_zald X hG (fy_14_2 hG (hT.fk (by decide) q264)).1 (fy_14_2 hG (hT.fk (by decide) q264)).2.1 (n := 20) (fy_14_2 hG (hT.fk (by decide) q264)).2.2 g38 (by decide) dL_agrees_368 ?_
                      obtain ⟨g39, h⟩ := xgd_of h
                      obtain ⟨j40, ej40, h⟩ := xlet_of h
                      have Jj40 : ∀ (t : gP) (hT : ag 39 354 357 t0 t) (s41 : Int) (u42 : uS), j40 s41 u42 = some (r, u') → xG p l e rL_agrees s m args below meth c t Q 7 (ck346 + 0) (cn346 + 0) 377 u42 [(0, .ref (t.2.2.1 0)), (1, .ref (t.2.2.1 264)), (3, .int (iI x3_30)), (4, .int (iI x4_31))] [.int (iI s41), .int (iI v36)] := by
                          intro t hT s41 u42 h H locs ls hG hS hl
                          replace X := X0.ag hT (by decide)
                          replace h := (congrFun (congrFun ej40 s41) u42).symm.trans h
                          obtain ⟨g43, h⟩ := xgd_of h
                          refine x_icmp_ne (tgt := 413) X g43.1 g43.2 dL_agrees_377 (by decide) (fun c44 => ?_) (fun c44 => ?_)
                          · replace h := xif_f h c44
                            refine x_iconst X dL_agrees_413 ?_
                            cases h
                            exact hret _ _ _ _ _ _ _ hT (by omega) (by omega) dL_agrees_414 (by decide) hG hS
                          · replace h := xif_t h c44
                            refine lv_aload_n X.1.1 X.1.2.1 dL_agrees_380 rfl (lv_at hl 0 rfl) ?_
                            refine lv_iload X.1.1 X.1.2.1 dL_agrees_381 (lv_at hl 3 rfl) ?_
                            refine x_iconst X dL_agrees_383 ?_
                            obtain ⟨v45, u46, hf, h⟩ := xb0_of h
                            refine x_callVTi X hG hS (c0_X9_event l hfl t _ _ _ _ _ hf) (cwV 2 X.1.2.2.2.2 gL_agrees_X9_event rfl rfl rfl hd_X9_event ⟨Nat.le_of_ble_eq_true rfl, Nat.le_of_ble_eq_true rfl⟩) q0.1 q0.2 rfl (by decide) (by rfl) hl.1 (Nat.le_of_ble_eq_true rfl) dL_agrees_384 ⟨by show ck346 + 0 + 0 ≤ 388; omega, by show cn346 + 0 + 0 ≤ 1984; omega⟩ rfl (fun hg H locs ce q9 hG hS h7 h8 h9 => absurd rfl hg) (fun hg H locs hG hS => ?_)
                            refine lv_aload_n X.1.1 X.1.2.1 dL_agrees_387 rfl (lv_at hl 1 rfl) ?_
                            refine lv_iload X.1.1 X.1.2.1 dL_agrees_388 (lv_at hl 3 rfl) ?_
                            obtain ⟨v47, u48, hf, h⟩ := xbd_of h
                            refine y_callVi0 X hG hS (c_X10_size l t _ _ _ _ hf (hT.fk (by decide) q264).1) (cwV 1 X.1.2.2.2.2 gL_agrees_X10_size rfl rfl rfl hd_X10_size ⟨Nat.le_of_ble_eq_true rfl, Nat.le_of_ble_eq_true rfl⟩) (hT.fk (by decide) q264).1 (hT.fk (by decide) q264).2 rfl (by decide) (by rfl) hl.1 (Nat.le_of_ble_eq_true rfl) dL_agrees_390 ⟨by show ck346 + 0 ≤ 388; omega, by show cn346 + 0 ≤ 1984; omega⟩ rfl (fun H locs hG hS => ?_)
                            obtain ⟨g49, h⟩ := xgd_of h
                            refine x_icmp_ne (tgt := 413) X g49.1 g49.2 dL_agrees_393 (by decide) (fun c50 => ?_) (fun c50 => ?_)
                            · replace h := xif_f h c50
                              refine x_iconst X dL_agrees_413 ?_
                              cases h
                              exact hret _ _ _ _ _ _ _ hT (by omega) (by omega) dL_agrees_414 (by decide) hG hS
                            · replace h := xif_t h c50
                              refine lv_aload_n X.1.1 X.1.2.1 dL_agrees_396 rfl (lv_at hl 0 rfl) ?_
                              refine lv_iload X.1.1 X.1.2.1 dL_agrees_397 (lv_at hl 3 rfl) ?_
                              refine x_iconst X dL_agrees_399 ?_
                              obtain ⟨v51, u52, hf, h⟩ := xb0_of h
                              refine x_callVTi X hG hS (c0_X9_event l hfl t _ _ _ _ _ hf) (cwV 2 X.1.2.2.2.2 gL_agrees_X9_event rfl rfl rfl hd_X9_event ⟨Nat.le_of_ble_eq_true rfl, Nat.le_of_ble_eq_true rfl⟩) q0.1 q0.2 rfl (by decide) (by rfl) hl.1 (Nat.le_of_ble_eq_true rfl) dL_agrees_400 ⟨by show ck346 + 0 + 0 ≤ 388; omega, by show cn346 + 0 + 0 ≤ 1984; omega⟩ rfl (fun hg H locs ce q9 hG hS h7 h8 h9 => absurd rfl hg) (fun hg H locs hG hS => ?_)
                              refine lv_aload_n X.1.1 X.1.2.1 dL_agrees_403 rfl (lv_at hl 1 rfl) ?_
                              refine yN_getr X hG 14 3 264 4 (inC := iX10) rfl (hT.fk (by decide) q264).1 (hT.fk (by decide) q264).2 ⟨by decide, by decide, by decide, rfl, by decide, by decide⟩ (x_m 33 rfl) dL_agrees_404 ?_
                              refine lv_iload X.1.1 X.1.2.1 dL_agrees_407 (lv_at hl 3 rfl) ?_
                              obtain ⟨g53, h⟩ := xgd_of h
                              refine y_iald X hG (fy_14_3 hG (hT.fk (by decide) q264)).1 (fy_14_3 hG (hT.fk (by decide) q264)).2.1 (n := 20) (fy_14_3 hG (hT.fk (by decide) q264)).2.2 g53 (by decide) dL_agrees_409 ?_
                              obtain ⟨g54, h⟩ := xgd_of h
                              refine x_icmp_eq (tgt := 415) X g54.1 g54.2 dL_agrees_410 (by decide) (fun c55 => ?_) (fun c55 => ?_)
                              · replace h := xif_t h c55
                                refine lv_aload_n X.1.1 X.1.2.1 dL_agrees_415 rfl (lv_at hl 1 rfl) ?_
                                refine yN_getr X hG 14 2 264 3 (inC := iX10) rfl (hT.fk (by decide) q264).1 (hT.fk (by decide) q264).2 ⟨by decide, by decide, by decide, rfl, by decide, by decide⟩ (x_m 23 rfl) dL_agrees_416 ?_
                                refine lv_iload X.1.1 X.1.2.1 dL_agrees_419 (lv_at hl 3 rfl) ?_
                                obtain ⟨g56, h⟩ := xgd_of h
                                refine y_zald X hG (fy_14_2 hG (hT.fk (by decide) q264)).1 (fy_14_2 hG (hT.fk (by decide) q264)).2.1 (n := 20) (fy_14_2 hG (hT.fk (by decide) q264)).2.2 g56 (by decide) dL_agrees_421 ?_
                                obtain ⟨g57, h⟩ := xgd_of h
                                obtain ⟨j58, ej58, h⟩ := xlet_of h
                                have Jj58 : ∀ (t : gP) (hT : ag 39 354 357 t0 t) (s59 : Int) (u60 : uS), j58 s59 u60 = some (r, u') → xG p l e rL_agrees s m args below meth c t Q 7 (ck346 + 17) (cn346 + 34) 435 u60 [(0, .ref (t.2.2.1 0)), (1, .ref (t.2.2.1 264)), (3, .int (iI x3_30)), (4, .int (iI x4_31))] [.int (iI s59)] := by
                                    intro t hT s59 u60 h H locs ls hG hS hl
                                    replace X := X0.ag hT (by decide)
                                    replace h := (congrFun (congrFun ej58 s59) u60).symm.trans h
                                    refine lv_istore (lv' := [(5, .int (iI s59)), (0, .ref (t.2.2.1 0)), (1, .ref (t.2.2.1 264)), (3, .int (iI x3_30)), (4, .int (iI x4_31))]) X.1.1 X.1.2.1 dL_agrees_435 hl (by decide) rfl (fun ls hl => ?_)
                                    refine lv_aload_n X.1.1 X.1.2.1 dL_agrees_437 rfl (lv_at hl 1 rfl) ?_
                                    refine lv_iload X.1.1 X.1.2.1 dL_agrees_438 (lv_at hl 4 rfl) ?_
                                    refine x_iconst X dL_agrees_440 ?_
                                    obtain ⟨v61, u62, hf, h⟩ := xb0_of h
                                    refine x_callVTi X hG hS (c0_X9_event l hfl t _ _ _ _ _ hf) (cwV 2 X.1.2.2.2.2 gL_agrees_X9_event rfl rfl rfl hd_X9_event ⟨Nat.le_of_ble_eq_true rfl, Nat.le_of_ble_eq_true rfl⟩) q0.1 q0.2 rfl (by decide) (by rfl) hl.1 (Nat.le_of_ble_eq_true rfl) dL_agrees_441 ⟨by show ck346 + 17 + 0 ≤ 388; omega, by show cn346 + 34 + 0 ≤ 1984; omega⟩ rfl (fun hg H locs ce q9 hG hS h7 h8 h9 => absurd rfl hg) (fun hg H locs hG hS => ?_)
                                    refine lv_iload X.1.1 X.1.2.1 dL_agrees_444 (lv_at hl 0 rfl) ?_
                                    obtain ⟨g63, h⟩ := xgd_of h
                                    refine x_icmp_eq (tgt := 451) X g63.1 g63.2 dL_agrees_446 (by decide) (fun c64 => ?_) (fun c64 => ?_)
                                    · replace h := xif_t h c64
                                      refine lv_aload_n X.1.1 X.1.2.1 dL_agrees_451 rfl (lv_at hl 2 rfl) ?_
                                      refine yN_getr X hG 14 2 264 3 (inC := iX10) rfl (hT.fk (by decide) q264).1 (hT.fk (by decide) q264).2 ⟨by decide, by decide, by decide, rfl, by decide, by decide⟩ (x_m 23 rfl) dL_agrees_452 ?_
                                      refine lv_iload X.1.1 X.1.2.1 dL_agrees_455 (lv_at hl 4 rfl) ?_
                                      obtain ⟨g65, h⟩ := xgd_of h
                                      refine y_zald X hG (fy_14_2 hG (hT.fk (by decide) q264)).1 (fy_14_2 hG (hT.fk (by decide) q264)).2.1 (n := 20) (fy_14_2 hG (hT.fk (by decide) q264)).2.2 g65 (by decide) dL_agrees_457 ?_
                                      obtain ⟨g66, h⟩ := xgd_of h
                                      refine x_if_eq (tgt := 464) X g66 dL_agrees_458 (by decide) (fun c67 => ?_) (fun c67 => ?_)
                                      · replace h := xif_t h c67
                                        refine lv_iinc (v := (iI (x3_30 + 1))) (lv' := [(3, .int (iI (x3_30 + 1))), (5, .int (iI s59)), (0, .ref (t.2.2.1 0)), (1, .ref (t.2.2.1 264)), (4, .int (iI x4_31))]) X.1.1 X.1.2.1 dL_agrees_464 hl (k := 3) rfl (iI_add _ _) (by decide) rfl (fun ls hl => ?_)
                                        refine lv_aload_n X.1.1 X.1.2.1 dL_agrees_467 rfl (lv_at hl 3 rfl) ?_
                                        refine lv_iload X.1.1 X.1.2.1 dL_agrees_468 (lv_at hl 1 rfl) ?_
                                        refine lv_iload X.1.1 X.1.2.1 dL_agrees_470 (lv_at hl 4 rfl) ?_
                                        obtain ⟨v68, u69, hf, h⟩ := xbd_of h
                                        obtain ⟨g70, h⟩ := xgd_of h
                                        rw [g70] at hf
                                        refine y_callVra X hG hS (c_X10_fitAt l t _ _ _ _ _ hf (hT.fk (by decide) q264).1) (cwV 2 X.1.2.2.2.2 gL_agrees_X10_fitAt rfl rfl rfl hd_X10_fitAt ⟨Nat.le_of_ble_eq_true rfl, Nat.le_of_ble_eq_true rfl⟩) (hT.fk (by decide) q264).1 (hT.fk (by decide) q264).2 rfl (by decide) (by rfl) hl.1 (Nat.le_of_ble_eq_true rfl) dL_agrees_472 ⟨by show ck346 + 17 + 1 ≤ 388; omega, by show cn346 + 34 + 2 ≤ 1984; omega⟩ rfl (fun t' H locs hag f71 hG hS => ?_)
                                        rw [← hag.at (k := 0) (by decide), ← hag.at (k := 264) (by decide)] at hl
                                        replace X := X.ag hag (by decide)
                                        replace hT : ag 39 354 357 t0 t' := hT.tr hag (by decide)
                                        clear hag
                                        obtain ⟨t, rfl⟩ : ∃ z, z = t' := ⟨_, rfl⟩
                                        have f72 : al t 354 ∧ sT 354 = 100 ∧ sN 354 = 2 := ⟨f71, by decide +kernel, by decide +kernel⟩
                                        refine lv_astore (lv' := [(6, .ref (t.2.2.1 354)), (3, .int (iI (x3_30 + 1))), (5, .int (iI s59)), (0, .ref (t.2.2.1 0)), (1, .ref (t.2.2.1 264)), (4, .int (iI x4_31))]) X.1.1 X.1.2.1 dL_agrees_475 hl (by decide) rfl (fun ls hl => ?_)
                                        refine lv_aload_n X.1.1 X.1.2.1 dL_agrees_477 rfl (lv_at hl 3 rfl) ?_
                                        refine lv_iload X.1.1 X.1.2.1 dL_agrees_478 (lv_at hl 5 rfl) ?_
                                        refine x_iconst X dL_agrees_480 ?_
                                        obtain ⟨v73, u74, hf, h⟩ := xb0_of h
                                        refine x_callVTi X hG hS (c0_X9_event l hfl t _ _ _ _ _ hf) (cwV 2 X.1.2.2.2.2 gL_agrees_X9_event rfl rfl rfl hd_X9_event ⟨Nat.le_of_ble_eq_true rfl, Nat.le_of_ble_eq_true rfl⟩) q0.1 q0.2 rfl (by decide) (by rfl) hl.1 (Nat.le_of_ble_eq_true rfl) dL_agrees_481 ⟨by show ck346 + 18 + 0 ≤ 388; omega, by show cn346 + 36 + 0 ≤ 1984; omega⟩ rfl (fun hg H locs ce q9 hG hS h7 h8 h9 => absurd rfl hg) (fun hg H locs hG hS => ?_)
                                        refine lv_aload X.1.1 X.1.2.1 dL_agrees_484 (lv_at hl 0 rfl) ?_
                                        refine x_iconst X dL_agrees_486 ?_
                                        refine y_iald X hG f72.1 f72.2.1 (n := 2) f72.2.2 ⟨by decide, by decide⟩ (by decide) dL_agrees_487 ?_
                                        obtain ⟨g75, h⟩ := xgd_of h
                                        refine x_icmp_ne (tgt := 539) X g75.1 g75.2 dL_agrees_488 (by decide) (fun c76 => ?_) (fun c76 => ?_)
                                        · replace h := xif_f h c76
                                          refine x_iconst X dL_agrees_539 ?_
                                          cases h
                                          exact hret _ _ _ _ _ _ _ hT (by omega) (by omega) dL_agrees_540 (by decide) hG hS
                                        · replace h := xif_t h c76
                                          refine lv_aload_n X.1.1 X.1.2.1 dL_agrees_491 rfl (lv_at hl 3 rfl) ?_
                                          refine lv_iload X.1.1 X.1.2.1 dL_agrees_492 (lv_at hl 5 rfl) ?_
                                          refine x_iconst X dL_agrees_494 ?_
                                          obtain ⟨v77, u78, hf, h⟩ := xb0_of h
                                          refine x_callVTi X hG hS (c0_X9_event l hfl t _ _ _ _ _ hf) (cwV 2 X.1.2.2.2.2 gL_agrees_X9_event rfl rfl rfl hd_X9_event ⟨Nat.le_of_ble_eq_true rfl, Nat.le_of_ble_eq_true rfl⟩) q0.1 q0.2 rfl (by decide) (by rfl) hl.1 (Nat.le_of_ble_eq_true rfl) dL_agrees_495 ⟨by show ck346 + 18 + 0 ≤ 388; omega, by show cn346 + 36 + 0 ≤ 1984; omega⟩ rfl (fun hg H locs ce q9 hG hS h7 h8 h9 => absurd rfl hg) (fun hg H locs hG hS => ?_)
                                          refine lv_aload X.1.1 X.1.2.1 dL_agrees_498 (lv_at hl 0 rfl) ?_
                                          refine x_iconst X dL_agrees_500 ?_
                                          refine y_iald X hG f72.1 f72.2.1 (n := 2) f72.2.2 ⟨by decide, by decide⟩ (by decide) dL_agrees_501 ?_
                                          obtain ⟨g79, h⟩ := xgd_of h
                                          refine x_icmp_ne (tgt := 539) X g79.1 g79.2 dL_agrees_502 (by decide) (fun c80 => ?_) (fun c80 => ?_)
                                          · replace h := xif_f h c80
                                            refine x_iconst X dL_agrees_539 ?_
                                            cases h
                                            exact hret _ _ _ _ _ _ _ hT (by omega) (by omega) dL_agrees_540 (by decide) hG hS
                                          · replace h := xif_t h c80
                                            refine lv_aload_n X.1.1 X.1.2.1 dL_agrees_505 rfl (lv_at hl 3 rfl) ?_
                                            refine lv_iload X.1.1 X.1.2.1 dL_agrees_506 (lv_at hl 2 rfl) ?_
                                            refine lv_iload X.1.1 X.1.2.1 dL_agrees_508 (lv_at hl 5 rfl) ?_
                                            obtain ⟨v81, u82, hf, h⟩ := xb0_of h
                                            refine x_callVTi X hG hS (c0_X9_misfit l hfl t _ _ _ _ _ hf) (cwV 2 X.1.2.2.2.2 gL_agrees_X9_misfit rfl rfl rfl hd_X9_misfit ⟨Nat.le_of_ble_eq_true rfl, Nat.le_of_ble_eq_true rfl⟩) q0.1 q0.2 rfl (by decide) (by rfl) hl.1 (Nat.le_of_ble_eq_true rfl) dL_agrees_510 ⟨by show ck346 + 18 + 0 ≤ 388; omega, by show cn346 + 36 + 0 ≤ 1984; omega⟩ rfl (fun hg H locs ce q9 hG hS h7 h8 h9 => absurd rfl hg) (fun hg H locs hG hS => ?_)
                                            refine lv_aload X.1.1 X.1.2.1 dL_agrees_513 (lv_at hl 0 rfl) ?_
                                            refine x_iconst X dL_agrees_515 ?_
                                            refine y_iald X hG f72.1 f72.2.1 (n := 2) f72.2.2 ⟨by decide, by decide⟩ (by decide) dL_agrees_516 ?_
                                            obtain ⟨g83, h⟩ := xgd_of h
                                            refine x_icmp_ne (tgt := 539) X g83.1 g83.2 dL_agrees_517 (by decide) (fun c84 => ?_) (fun c84 => ?_)
                                            · replace h := xif_f h c84
                                              refine x_iconst X dL_agrees_539 ?_
                                              cases h
                                              exact hret _ _ _ _ _ _ _ hT (by omega) (by omega) dL_agrees_540 (by decide) hG hS
                                            · replace h := xif_t h c84
                                              refine lv_aload_n X.1.1 X.1.2.1 dL_agrees_520 rfl (lv_at hl 3 rfl) ?_
                                              refine lv_iload X.1.1 X.1.2.1 dL_agrees_521 (lv_at hl 5 rfl) ?_
                                              refine x_bipush X dL_agrees_523 (by decide) ?_
                                              obtain ⟨v85, u86, hf, h⟩ := xb0_of h
                                              refine x_callVTi X hG hS (c0_X9_event l hfl t _ _ _ _ _ hf) (cwV 2 X.1.2.2.2.2 gL_agrees_X9_event rfl rfl rfl hd_X9_event ⟨Nat.le_of_ble_eq_true rfl, Nat.le_of_ble_eq_true rfl⟩) q0.1 q0.2 rfl (by decide) (by rfl) hl.1 (Nat.le_of_ble_eq_true rfl) dL_agrees_525 ⟨by show ck346 + 18 + 0 ≤ 388; omega, by show cn346 + 36 + 0 ≤ 1984; omega⟩ rfl (fun hg H locs ce q9 hG hS h7 h8 h9 => absurd rfl hg) (fun hg H locs hG hS => ?_)
                                              refine lv_aload_n X.1.1 X.1.2.1 dL_agrees_528 rfl (lv_at hl 4 rfl) ?_
                                              refine lv_iload X.1.1 X.1.2.1 dL_agrees_529 (lv_at hl 5 rfl) ?_
                                              refine lv_iload X.1.1 X.1.2.1 dL_agrees_531 (lv_at hl 2 rfl) ?_
                                              obtain ⟨v87, u88, hf, h⟩ := xbd_of h
                                              refine y_callVia X hG hS (c_X10_magnitude l t _ _ _ _ _ hf (hT.fk (by decide) q264).1) (cwV 2 X.1.2.2.2.2 gL_agrees_X10_magnitude rfl rfl rfl hd_X10_magnitude ⟨Nat.le_of_ble_eq_true rfl, Nat.le_of_ble_eq_true rfl⟩) (hT.fk (by decide) q264).1 (hT.fk (by decide) q264).2 rfl (by decide) (by rfl) hl.1 (Nat.le_of_ble_eq_true rfl) dL_agrees_533 ⟨by show ck346 + 18 + 1 ≤ 388; omega, by show cn346 + 36 + 60 ≤ 1984; omega⟩ rfl (fun t' H locs hag hG hS => ?_)
                                              rw [← hag.at (k := 354) (by decide), ← hag.at (k := 0) (by decide), ← hag.at (k := 264) (by decide)] at hl
                                              have f90 := hag.fk (by decide) f72
                                              replace X := X.ag hag (by decide)
                                              replace hT : ag 39 354 357 t0 t' := hT.tr hag (by decide)
                                              clear hag
                                              obtain ⟨t, rfl⟩ : ∃ z, z = t' := ⟨_, rfl⟩
                                              obtain ⟨g91, h⟩ := xgd_of h
                                              refine x_icmp_eq (tgt := 541) X g91.1 g91.2 dL_agrees_536 (by decide) (fun c92 => ?_) (fun c92 => ?_)
                                              · replace h := xif_t h c92
                                                refine lv_iinc (v := (iI (x4_31 + 1))) (lv' := [(4, .int (iI (x4_31 + 1))), (6, .ref (t.2.2.1 354)), (3, .int (iI (x3_30 + 1))), (5, .int (iI s59)), (0, .ref (t.2.2.1 0)), (1, .ref (t.2.2.1 264))]) X.1.1 X.1.2.1 dL_agrees_541 hl (k := 5) rfl (iI_add _ _) (by decide) rfl (fun ls hl => ?_)
                                                refine lv_goto (tgt := 346) X.1.1 X.1.2.1 dL_agrees_544 (by decide) ?_
                                                exact igo29 _ _ _ _ h (ck346 + 19) (cn346 + 96) t hT (by omega) rfl _ _ _ hG hS (lv_sub hl [2, 0, 4, 5] rfl)
                                              · replace h := xif_f h c92
                                                refine x_iconst X dL_agrees_539 ?_
                                                cases h
                                                exact hret _ _ _ _ _ _ _ hT (by omega) (by omega) dL_agrees_540 (by decide) hG hS
                                      · replace h := xif_f h c67
                                        refine lv_goto (tgt := 541) X.1.1 X.1.2.1 dL_agrees_461 (by decide) ?_
                                        refine lv_iinc (v := (iI (x4_31 + 1))) (lv' := [(4, .int (iI (x4_31 + 1))), (5, .int (iI s59)), (0, .ref (t.2.2.1 0)), (1, .ref (t.2.2.1 264)), (3, .int (iI x3_30))]) X.1.1 X.1.2.1 dL_agrees_541 hl (k := 4) rfl (iI_add _ _) (by decide) rfl (fun ls hl => ?_)
                                        refine lv_goto (tgt := 346) X.1.1 X.1.2.1 dL_agrees_544 (by decide) ?_
                                        refine W.widen (k := ck346 + 19) (n := cn346 + 96) (by omega) (by omega) ?_
                                        exact igo29 _ _ _ _ h (ck346 + 19) (cn346 + 96) t hT (by omega) rfl _ _ _ hG hS (lv_sub hl [4, 0, 2, 3] rfl)
                                    · replace h := xif_f h c64
                                      refine x_iconst X dL_agrees_449 ?_
                                      cases h
                                      exact hret _ _ _ _ _ _ _ hT (by omega) (by omega) dL_agrees_450 (by decide) hG hS
                                refine x_if_eq (tgt := 429) X g57 dL_agrees_422 (by decide) (fun c93 => ?_) (fun c93 => ?_)
                                · replace h := xif_t h c93
                                  refine lv_aload_n X.1.1 X.1.2.1 dL_agrees_429 rfl (lv_at hl 1 rfl) ?_
                                  refine lv_iload X.1.1 X.1.2.1 dL_agrees_430 (lv_at hl 3 rfl) ?_
                                  obtain ⟨v94, u95, hf, h⟩ := xbd_of h
                                  refine y_callVia X hG hS (c_X10_node l t _ _ _ _ hf (hT.fk (by decide) q264).1) (cwV 1 X.1.2.2.2.2 gL_agrees_X10_node rfl rfl rfl hd_X10_node ⟨Nat.le_of_ble_eq_true rfl, Nat.le_of_ble_eq_true rfl⟩) (hT.fk (by decide) q264).1 (hT.fk (by decide) q264).2 rfl (by decide) (by rfl) hl.1 (Nat.le_of_ble_eq_true rfl) dL_agrees_432 ⟨by show ck346 + 0 + 17 ≤ 388; omega, by show cn346 + 0 + 34 ≤ 1984; omega⟩ rfl (fun t' H locs hag hG hS => ?_)
                                  rw [← hag.at (k := 0) (by decide), ← hag.at (k := 264) (by decide)] at hl
                                  replace X := X.ag hag (by decide)
                                  replace hT : ag 39 354 357 t0 t' := hT.tr hag (by decide)
                                  clear hag
                                  obtain ⟨t, rfl⟩ : ∃ z, z = t' := ⟨_, rfl⟩
                                  exact Jj58 t hT _ _ h _ _ _ hG hS (lv_sub hl [0, 1, 2, 3] rfl)
                                · replace h := xif_f h c93
                                  refine x_iconst X dL_agrees_425 ?_
                                  refine lv_goto (tgt := 435) X.1.1 X.1.2.1 dL_agrees_426 (by decide) ?_
                                  refine W.widen (k := (ck346 + 17)) (n := (cn346 + 34)) (by omega) (by omega) ?_
                                  exact Jj58 t hT _ _ h _ _ _ hG hS (lv_sub hl [0, 1, 2, 3] rfl)
                              · replace h := xif_f h c55
                                refine x_iconst X dL_agrees_413 ?_
                                cases h
                                exact hret _ _ _ _ _ _ _ hT (by omega) (by omega) dL_agrees_414 (by decide) hG hS
                      refine x_if_eq (tgt := 376) X g39 dL_agrees_369 (by decide) (fun c97 => ?_) (fun c97 => ?_)
                      · replace h := xif_t h c97
                        refine x_iconst X dL_agrees_376 ?_
                        exact Jj40 t hT _ _ h _ _ _ hG hS (lv_sub hl [2, 3, 0, 1] rfl)
                      · replace h := xif_f h c97
                        refine x_iconst X dL_agrees_372 ?_
                        refine lv_goto (tgt := 377) X.1.1 X.1.2.1 dL_agrees_373 (by decide) ?_
                        exact Jj40 t hT _ _ h _ _ _ hG hS (lv_sub hl [2, 3, 0, 1] rfl)
                  exact Lgo29 21 _ _ _ _ h 8 64 t hT (by omega) rfl _ _ _ hG hS (lv_sub hl [1, 0, 2, 3] rfl)
              have Lgo98 : ∀ (nf : Nat) (x3_99 : Int) (u100 : uS) q, xl2 (s_L_agrees_218 j20) nf x3_99 u100 = some q → ∀ (ck218 cn218 : Nat) (t : gP) (hT : ag 39 354 357 t0 t), ((ck218 ≤ 8 ∧ cn218 ≤ 64) ∧ (ck218 : Int) + (60 - x3_99) * 0 ≤ ((8 : Nat) : Int) ∧ (cn218 : Int) + (60 - x3_99) * 0 ≤ ((64 : Nat) : Int)) → q = (r, u') → xG p l e rL_agrees s m args below meth c t Q 7 ck218 cn218 218 u100 [(3, .int (iI x3_99)), (0, .ref (t.2.2.1 0)), (1, .ref (t.2.2.1 264))] [] := by
                refine xl2_N (F := s_L_agrees_218 j20) (fun nf x3_99 u100 q => ∀ (ck218 cn218 : Nat) (t : gP) (hT : ag 39 354 357 t0 t), ((ck218 ≤ 8 ∧ cn218 ≤ 64) ∧ (ck218 : Int) + (60 - x3_99) * 0 ≤ ((8 : Nat) : Int) ∧ (cn218 : Int) + (60 - x3_99) * 0 ≤ ((64 : Nat) : Int)) → q = (r, u') → xG p l e rL_agrees s m args below meth c t Q 7 ck218 cn218 218 u100 [(3, .int (iI x3_99)), (0, .ref (t.2.2.1 0)), (1, .ref (t.2.2.1 264))] []) ?_
                intro nf go98 igo98 x3_99 u100 q h ck218 cn218 t hT hck218 hq H locs ls hG hS hl
                subst hq
                replace X := X0.ag hT (by decide)
                unfold s_L_agrees_218 at h
                refine lv_iload_n X.1.1 X.1.2.1 dL_agrees_218 rfl (lv_at hl 0 rfl) ?_
                refine lv_aload_n X.1.1 X.1.2.1 dL_agrees_219 rfl (lv_at hl 2 rfl) ?_
                refine yN_geti X hG 14 7 264 7 (inC := iX10) rfl (hT.fk (by decide) q264).1 (hT.fk (by decide) q264).2 ⟨by decide, by decide, by decide, rfl, rfl⟩ (x_m 24 rfl) dL_agrees_220 ?_
                obtain ⟨g101, h⟩ := xgd_of h
                refine x_icmp_ge (tgt := 341) X g101.1 g101.2 dL_agrees_223 (by decide) (fun c102 => ?_) (fun c102 => ?_)
                · replace h := xif_t h c102
                  refine W.widen (k := 8) (n := 64) (by omega) (by omega) ?_
                  exact Jj20 t hT _ h _ _ _ hG hS (lv_sub hl [1, 2] rfl)
                · replace h := xif_f h c102
                  obtain ⟨g103, h⟩ := xgd_of h
                  refine lv_aload_n X.1.1 X.1.2.1 dL_agrees_226 rfl (lv_at hl 2 rfl) ?_
                  refine yN_getr X hG 14 1 264 2 (inC := iX10) rfl (hT.fk (by decide) q264).1 (hT.fk (by decide) q264).2 ⟨by decide, by decide, by decide, rfl, by decide, by decide⟩ (x_m 27 rfl) dL_agrees_227 ?_
                  refine lv_iload_n X.1.1 X.1.2.1 dL_agrees_230 rfl (lv_at hl 0 rfl) ?_
                  obtain ⟨g104, h⟩ := xgd_of h
                  obtain ⟨g105, h⟩ := xgd_of h
                  have f107 := y_qK hG (fy_14_1 hG (hT.fk (by decide) q264)).1 (fy_14_1 hG (hT.fk (by decide) q264)).2.1 (fy_14_1 hG (hT.fk (by decide) q264)).2.2 g104 g105
                  obtain ⟨n106, en106, h⟩ := xlet_of h
                  refine y_aaldq X hG (fy_14_1 hG (hT.fk (by decide) q264)).1 (fy_14_1 hG (hT.fk (by decide) q264)).2.1 (Or.inr rfl) (fy_14_1 hG (hT.fk (by decide) q264)).2.2 g104 (by decide) g105 dL_agrees_231 ?_
                  rw [← en106]
                  rw [← en106] at f107
                  have f108 := hT.bk (by have h9 := sT_15 _ (al_lt f107.1) f107.2; omega) f107
                  refine lv_astore (lv' := [(4, .ref (t.2.2.1 n106)), (3, .int (iI x3_99)), (0, .ref (t.2.2.1 0)), (1, .ref (t.2.2.1 264))]) X.1.1 X.1.2.1 dL_agrees_232 hl (by decide) rfl (fun ls hl => ?_)
                  refine lv_aload_n X.1.1 X.1.2.1 dL_agrees_234 rfl (lv_at hl 2 rfl) ?_
                  refine lv_iload_n X.1.1 X.1.2.1 dL_agrees_235 rfl (lv_at hl 1 rfl) ?_
                  refine x_iconst X dL_agrees_236 ?_
                  obtain ⟨v109, u110, hf, h⟩ := xb0_of h
                  refine x_callVTi X hG hS (c0_X9_pick l hfl t _ _ _ _ _ hf) (cwV 2 X.1.2.2.2.2 gL_agrees_X9_pick rfl rfl rfl hd_X9_pick ⟨Nat.le_of_ble_eq_true rfl, Nat.le_of_ble_eq_true rfl⟩) q0.1 q0.2 rfl (by decide) (by rfl) hl.1 (Nat.le_of_ble_eq_true rfl) dL_agrees_237 ⟨by show ck218 + 0 + 0 ≤ 388; omega, by show cn218 + 0 + 0 ≤ 1984; omega⟩ rfl (fun hg H locs ce q9 hG hS h7 h8 h9 => absurd rfl hg) (fun hg H locs hG hS => ?_)
                  refine lv_aload X.1.1 X.1.2.1 dL_agrees_240 (lv_at hl 0 rfl) ?_
                  refine yN_geti X hG 15 0 n106 0 (inC := iX11) rfl (hT.fk (by have h9 := sT_15 _ (al_lt f108.1) f108.2; omega) f108).1 (hT.fk (by have h9 := sT_15 _ (al_lt f108.1) f108.2; omega) f108).2 ⟨by decide, by decide, by decide, rfl, rfl⟩ (x_m 28 rfl) dL_agrees_242 ?_
                  obtain ⟨g111, h⟩ := xgd_of h
                  refine x_icmp_ne (tgt := 333) X g111.1 g111.2 dL_agrees_245 (by decide) (fun c112 => ?_) (fun c112 => ?_)
                  · replace h := xif_f h c112
                    refine x_iconst X dL_agrees_333 ?_
                    cases h
                    exact hret _ _ _ _ _ _ _ hT (by omega) (by omega) dL_agrees_334 (by decide) hG hS
                  · replace h := xif_t h c112
                    refine lv_aload_n X.1.1 X.1.2.1 dL_agrees_248 rfl (lv_at hl 2 rfl) ?_
                    refine lv_iload_n X.1.1 X.1.2.1 dL_agrees_249 rfl (lv_at hl 1 rfl) ?_
                    refine x_iconst X dL_agrees_250 ?_
                    obtain ⟨v113, u114, hf, h⟩ := xb0_of h
                    refine x_callVTi X hG hS (c0_X9_pick l hfl t _ _ _ _ _ hf) (cwV 2 X.1.2.2.2.2 gL_agrees_X9_pick rfl rfl rfl hd_X9_pick ⟨Nat.le_of_ble_eq_true rfl, Nat.le_of_ble_eq_true rfl⟩) q0.1 q0.2 rfl (by decide) (by rfl) hl.1 (Nat.le_of_ble_eq_true rfl) dL_agrees_251 ⟨by show ck218 + 0 + 0 ≤ 388; omega, by show cn218 + 0 + 0 ≤ 1984; omega⟩ rfl (fun hg H locs ce q9 hG hS h7 h8 h9 => absurd rfl hg) (fun hg H locs hG hS => ?_)
                    refine lv_aload X.1.1 X.1.2.1 dL_agrees_254 (lv_at hl 0 rfl) ?_
                    refine yN_geti X hG 15 1 n106 1 (inC := iX11) rfl (hT.fk (by have h9 := sT_15 _ (al_lt f108.1) f108.2; omega) f108).1 (hT.fk (by have h9 := sT_15 _ (al_lt f108.1) f108.2; omega) f108).2 ⟨by decide, by decide, by decide, rfl, rfl⟩ (x_m 29 rfl) dL_agrees_256 ?_
                    obtain ⟨g115, h⟩ := xgd_of h
                    refine x_icmp_ne (tgt := 333) X g115.1 g115.2 dL_agrees_259 (by decide) (fun c116 => ?_) (fun c116 => ?_)
                    · replace h := xif_f h c116
                      refine x_iconst X dL_agrees_333 ?_
                      cases h
                      exact hret _ _ _ _ _ _ _ hT (by omega) (by omega) dL_agrees_334 (by decide) hG hS
                    · replace h := xif_t h c116
                      refine lv_aload_n X.1.1 X.1.2.1 dL_agrees_262 rfl (lv_at hl 2 rfl) ?_
                      refine lv_iload_n X.1.1 X.1.2.1 dL_agrees_263 rfl (lv_at hl 1 rfl) ?_
                      refine x_iconst X dL_agrees_264 ?_
                      obtain ⟨v117, u118, hf, h⟩ := xb0_of h
                      refine x_callVTi X hG hS (c0_X9_pick l hfl t _ _ _ _ _ hf) (cwV 2 X.1.2.2.2.2 gL_agrees_X9_pick rfl rfl rfl hd_X9_pick ⟨Nat.le_of_ble_eq_true rfl, Nat.le_of_ble_eq_true rfl⟩) q0.1 q0.2 rfl (by decide) (by rfl) hl.1 (Nat.le_of_ble_eq_true rfl) dL_agrees_265 ⟨by show ck218 + 0 + 0 ≤ 388; omega, by show cn218 + 0 + 0 ≤ 1984; omega⟩ rfl (fun hg H locs ce q9 hG hS h7 h8 h9 => absurd rfl hg) (fun hg H locs hG hS => ?_)
                      refine lv_aload X.1.1 X.1.2.1 dL_agrees_268 (lv_at hl 0 rfl) ?_
                      refine yN_geti X hG 15 2 n106 2 (inC := iX11) rfl (hT.fk (by have h9 := sT_15 _ (al_lt f108.1) f108.2; omega) f108).1 (hT.fk (by have h9 := sT_15 _ (al_lt f108.1) f108.2; omega) f108).2 ⟨by decide, by decide, by decide, rfl, rfl⟩ (x_m 30 rfl) dL_agrees_270 ?_
                      obtain ⟨g119, h⟩ := xgd_of h
                      refine x_icmp_ne (tgt := 333) X g119.1 g119.2 dL_agrees_273 (by decide) (fun c120 => ?_) (fun c120 => ?_)
                      · replace h := xif_f h c120
                        refine x_iconst X dL_agrees_333 ?_
                        cases h
                        exact hret _ _ _ _ _ _ _ hT (by omega) (by omega) dL_agrees_334 (by decide) hG hS
                      · replace h := xif_t h c120
                        refine lv_aload_n X.1.1 X.1.2.1 dL_agrees_276 rfl (lv_at hl 2 rfl) ?_
                        refine lv_iload_n X.1.1 X.1.2.1 dL_agrees_277 rfl (lv_at hl 1 rfl) ?_
                        refine x_iconst X dL_agrees_278 ?_
                        obtain ⟨v121, u122, hf, h⟩ := xb0_of h
                        refine x_callVTi X hG hS (c0_X9_pick l hfl t _ _ _ _ _ hf) (cwV 2 X.1.2.2.2.2 gL_agrees_X9_pick rfl rfl rfl hd_X9_pick ⟨Nat.le_of_ble_eq_true rfl, Nat.le_of_ble_eq_true rfl⟩) q0.1 q0.2 rfl (by decide) (by rfl) hl.1 (Nat.le_of_ble_eq_true rfl) dL_agrees_279 ⟨by show ck218 + 0 + 0 ≤ 388; omega, by show cn218 + 0 + 0 ≤ 1984; omega⟩ rfl (fun hg H locs ce q9 hG hS h7 h8 h9 => absurd rfl hg) (fun hg H locs hG hS => ?_)
                        refine lv_aload X.1.1 X.1.2.1 dL_agrees_282 (lv_at hl 0 rfl) ?_
                        refine yN_geti X hG 15 3 n106 3 (inC := iX11) rfl (hT.fk (by have h9 := sT_15 _ (al_lt f108.1) f108.2; omega) f108).1 (hT.fk (by have h9 := sT_15 _ (al_lt f108.1) f108.2; omega) f108).2 ⟨by decide, by decide, by decide, rfl, rfl⟩ (x_m 31 rfl) dL_agrees_284 ?_
                        obtain ⟨g123, h⟩ := xgd_of h
                        refine x_icmp_ne (tgt := 333) X g123.1 g123.2 dL_agrees_287 (by decide) (fun c124 => ?_) (fun c124 => ?_)
                        · replace h := xif_f h c124
                          refine x_iconst X dL_agrees_333 ?_
                          cases h
                          exact hret _ _ _ _ _ _ _ hT (by omega) (by omega) dL_agrees_334 (by decide) hG hS
                        · replace h := xif_t h c124
                          refine lv_aload_n X.1.1 X.1.2.1 dL_agrees_290 rfl (lv_at hl 2 rfl) ?_
                          refine lv_iload_n X.1.1 X.1.2.1 dL_agrees_291 rfl (lv_at hl 1 rfl) ?_
                          refine x_iconst X dL_agrees_292 ?_
                          obtain ⟨v125, u126, hf, h⟩ := xb0_of h
                          refine x_callVTi X hG hS (c0_X9_pick l hfl t _ _ _ _ _ hf) (cwV 2 X.1.2.2.2.2 gL_agrees_X9_pick rfl rfl rfl hd_X9_pick ⟨Nat.le_of_ble_eq_true rfl, Nat.le_of_ble_eq_true rfl⟩) q0.1 q0.2 rfl (by decide) (by rfl) hl.1 (Nat.le_of_ble_eq_true rfl) dL_agrees_293 ⟨by show ck218 + 0 + 0 ≤ 388; omega, by show cn218 + 0 + 0 ≤ 1984; omega⟩ rfl (fun hg H locs ce q9 hG hS h7 h8 h9 => absurd rfl hg) (fun hg H locs hG hS => ?_)
                          refine lv_aload X.1.1 X.1.2.1 dL_agrees_296 (lv_at hl 0 rfl) ?_
                          refine yN_geti X hG 15 4 n106 4 (inC := iX11) rfl (hT.fk (by have h9 := sT_15 _ (al_lt f108.1) f108.2; omega) f108).1 (hT.fk (by have h9 := sT_15 _ (al_lt f108.1) f108.2; omega) f108).2 ⟨by decide, by decide, by decide, rfl, rfl⟩ (x_m 32 rfl) dL_agrees_298 ?_
                          obtain ⟨g127, h⟩ := xgd_of h
                          obtain ⟨j128, ej128, h⟩ := xlet_of h
                          have Jj128 : ∀ (t : gP) (hT : ag 39 354 357 t0 t) (s129 : Int) (u130 : uS), j128 s129 u130 = some (r, u') → xG p l e rL_agrees s m args below meth c t Q 7 (ck218 + 0) (cn218 + 0) 309 u130 [(0, .ref (t.2.2.1 0)), (1, .ref (t.2.2.1 264)), (3, .int (iI x3_99)), (4, .ref (t.2.2.1 n106))] [.int (iI s129), .int (iI v125)] := by
                              intro t hT s129 u130 h H locs ls hG hS hl
                              replace X := X0.ag hT (by decide)
                              replace h := (congrFun (congrFun ej128 s129) u130).symm.trans h
                              obtain ⟨g131, h⟩ := xgd_of h
                              refine x_icmp_ne (tgt := 333) X g131.1 g131.2 dL_agrees_309 (by decide) (fun c132 => ?_) (fun c132 => ?_)
                              · replace h := xif_f h c132
                                refine x_iconst X dL_agrees_333 ?_
                                cases h
                                exact hret _ _ _ _ _ _ _ hT (by omega) (by omega) dL_agrees_334 (by decide) hG hS
                              · replace h := xif_t h c132
                                refine lv_aload_n X.1.1 X.1.2.1 dL_agrees_312 rfl (lv_at hl 0 rfl) ?_
                                refine lv_iload_n X.1.1 X.1.2.1 dL_agrees_313 rfl (lv_at hl 2 rfl) ?_
                                refine x_iconst X dL_agrees_314 ?_
                                obtain ⟨v133, u134, hf, h⟩ := xb0_of h
                                refine x_callVTi X hG hS (c0_X9_fits l hfl t _ _ _ _ _ hf) (cwV 2 X.1.2.2.2.2 gL_agrees_X9_fits rfl rfl rfl hd_X9_fits ⟨Nat.le_of_ble_eq_true rfl, Nat.le_of_ble_eq_true rfl⟩) q0.1 q0.2 rfl (by decide) (by rfl) hl.1 (Nat.le_of_ble_eq_true rfl) dL_agrees_315 ⟨by show ck218 + 0 + 0 ≤ 388; omega, by show cn218 + 0 + 0 ≤ 1984; omega⟩ rfl (fun hg H locs ce q9 hG hS h7 h8 h9 => absurd rfl hg) (fun hg H locs hG hS => ?_)
                                refine lv_aload_n X.1.1 X.1.2.1 dL_agrees_318 rfl (lv_at hl 1 rfl) ?_
                                refine lv_aload X.1.1 X.1.2.1 dL_agrees_319 (lv_at hl 3 rfl) ?_
                                refine lv_aload_n X.1.1 X.1.2.1 dL_agrees_321 rfl (lv_at hl 1 rfl) ?_
                                refine yN_getr X hG 14 1 264 2 (inC := iX10) rfl (hT.fk (by decide) q264).1 (hT.fk (by decide) q264).2 ⟨by decide, by decide, by decide, rfl, by decide, by decide⟩ (x_m 27 rfl) dL_agrees_322 ?_
                                refine x_iconst X dL_agrees_325 ?_
                                obtain ⟨g135, h⟩ := xgd_of h
                                have f137 := y_qK hG (fy_14_1 hG (hT.fk (by decide) q264)).1 (fy_14_1 hG (hT.fk (by decide) q264)).2.1 (fy_14_1 hG (hT.fk (by decide) q264)).2.2 ⟨by decide, by decide⟩ g135
                                obtain ⟨n136, en136, h⟩ := xlet_of h
                                refine y_aaldq X hG (fy_14_1 hG (hT.fk (by decide) q264)).1 (fy_14_1 hG (hT.fk (by decide) q264)).2.1 (Or.inr rfl) (fy_14_1 hG (hT.fk (by decide) q264)).2.2 ⟨by decide, by decide⟩ (by decide) g135 dL_agrees_326 ?_
                                rw [← en136]
                                rw [← en136] at f137
                                have f138 := hT.bk (by have h9 := sT_15 _ (al_lt f137.1) f137.2; omega) f137
                                obtain ⟨v139, u140, hf, h⟩ := xbd_of h
                                refine y_callVi0 X hG hS (c_X10_fit l t _ _ _ _ _ hf (hT.fk (by decide) q264).1 (hT.fk (by have h9 := sT_15 _ (al_lt f108.1) f108.2; omega) f108) (hT.fk (by have h9 := sT_15 _ (al_lt f138.1) f138.2; omega) f138)) (cwV 2 X.1.2.2.2.2 gL_agrees_X10_fit rfl rfl rfl hd_X10_fit ⟨Nat.le_of_ble_eq_true rfl, Nat.le_of_ble_eq_true rfl⟩) (hT.fk (by decide) q264).1 (hT.fk (by decide) q264).2 rfl (by decide) (by rfl) hl.1 (Nat.le_of_ble_eq_true rfl) dL_agrees_327 ⟨by show ck218 + 0 ≤ 388; omega, by show cn218 + 0 ≤ 1984; omega⟩ rfl (fun H locs hG hS => ?_)
                                obtain ⟨g141, h⟩ := xgd_of h
                                refine x_icmp_eq (tgt := 335) X g141.1 g141.2 dL_agrees_330 (by decide) (fun c142 => ?_) (fun c142 => ?_)
                                · replace h := xif_t h c142
                                  refine lv_iinc (v := (iI (x3_99 + 1))) (lv' := [(3, .int (iI (x3_99 + 1))), (0, .ref (t.2.2.1 0)), (1, .ref (t.2.2.1 264)), (4, .ref (t.2.2.1 n106))]) X.1.1 X.1.2.1 dL_agrees_335 hl (k := 2) rfl (iI_add _ _) (by decide) rfl (fun ls hl => ?_)
                                  refine lv_goto (tgt := 218) X.1.1 X.1.2.1 dL_agrees_338 (by decide) ?_
                                  exact igo98 _ _ _ h (ck218 + 0) (cn218 + 0) t hT (by omega) rfl _ _ _ hG hS (lv_sub hl [0, 1, 2] rfl)
                                · replace h := xif_f h c142
                                  refine x_iconst X dL_agrees_333 ?_
                                  cases h
                                  exact hret _ _ _ _ _ _ _ hT (by omega) (by omega) dL_agrees_334 (by decide) hG hS
                          refine x_if_eq (tgt := 308) X g127 dL_agrees_301 (by decide) (fun c143 => ?_) (fun c143 => ?_)
                          · replace h := xif_t h c143
                            refine x_iconst X dL_agrees_308 ?_
                            exact Jj128 t hT _ _ h _ _ _ hG hS (lv_sub hl [2, 3, 1, 0] rfl)
                          · replace h := xif_f h c143
                            refine x_iconst X dL_agrees_304 ?_
                            refine lv_goto (tgt := 309) X.1.1 X.1.2.1 dL_agrees_305 (by decide) ?_
                            exact Jj128 t hT _ _ h _ _ _ hG hS (lv_sub hl [2, 3, 1, 0] rfl)
              exact Lgo98 61 _ _ _ h 8 64 t hT (by omega) rfl _ _ _ hG hS (lv_sub hl [0, 1, 2] rfl)
            · replace h := xif_f h c19
              refine x_iconst X dL_agrees_214 ?_
              cases h
              exact hret _ _ _ _ _ _ _ hT (by decide) (by decide) dL_agrees_215 (by decide) hG hS
        have Lgo144 : ∀ (nf : Nat) (x2_145 : Int) (x3_146 : Int) (u147 : uS) q, xl3 (s_L_agrees_41 j13) nf x2_145 x3_146 u147 = some q → ∀ (ck41 cn41 : Nat) (t : gP) (hT : ag 39 354 357 t0 t), ((ck41 ≤ 8 ∧ cn41 ≤ 64) ∧ (ck41 : Int) + (8 - x3_146) * 1 ≤ ((8 : Nat) : Int) ∧ (cn41 : Int) + (8 - x3_146) * 8 ≤ ((64 : Nat) : Int)) → q = (r, u') → xG p l e rL_agrees s m args below meth c t Q 7 ck41 cn41 41 u147 [(2, .int (iI x2_145)), (3, .int (iI x3_146)), (0, .ref (t.2.2.1 0)), (1, .ref (t.2.2.1 264))] [] := by
          refine xl3_N (F := s_L_agrees_41 j13) (fun nf x2_145 x3_146 u147 q => ∀ (ck41 cn41 : Nat) (t : gP) (hT : ag 39 354 357 t0 t), ((ck41 ≤ 8 ∧ cn41 ≤ 64) ∧ (ck41 : Int) + (8 - x3_146) * 1 ≤ ((8 : Nat) : Int) ∧ (cn41 : Int) + (8 - x3_146) * 8 ≤ ((64 : Nat) : Int)) → q = (r, u') → xG p l e rL_agrees s m args below meth c t Q 7 ck41 cn41 41 u147 [(2, .int (iI x2_145)), (3, .int (iI x3_146)), (0, .ref (t.2.2.1 0)), (1, .ref (t.2.2.1 264))] []) ?_
          intro nf go144 igo144 x2_145 x3_146 u147 q h ck41 cn41 t hT hck41 hq H locs ls hG hS hl
          subst hq
          replace X := X0.ag hT (by decide)
          unfold s_L_agrees_41 at h
          refine lv_iload_n X.1.1 X.1.2.1 dL_agrees_41 rfl (lv_at hl 1 rfl) ?_
          refine lv_aload_n X.1.1 X.1.2.1 dL_agrees_42 rfl (lv_at hl 3 rfl) ?_
          refine yN_geti X hG 14 6 264 6 (inC := iX10) rfl (hT.fk (by decide) q264).1 (hT.fk (by decide) q264).2 ⟨by decide, by decide, by decide, rfl, rfl⟩ (x_m 0 rfl) dL_agrees_43 ?_
          obtain ⟨g148, h⟩ := xgd_of h
          refine x_icmp_ge (tgt := 206) X g148.1 g148.2 dL_agrees_46 (by decide) (fun c149 => ?_) (fun c149 => ?_)
          · replace h := xif_t h c149
            refine W.widen (k := 8) (n := 64) (by omega) (by omega) ?_
            exact Jj13 t hT _ _ h _ _ _ hG hS (lv_sub hl [2, 3, 0] rfl)
          · replace h := xif_f h c149
            obtain ⟨g150, h⟩ := xgd_of h
            refine lv_aload_n X.1.1 X.1.2.1 dL_agrees_49 rfl (lv_at hl 3 rfl) ?_
            refine yN_getr X hG 14 0 264 1 (inC := iX10) rfl (hT.fk (by decide) q264).1 (hT.fk (by decide) q264).2 ⟨by decide, by decide, by decide, rfl, by decide, by decide⟩ (x_m 1 rfl) dL_agrees_50 ?_
            refine lv_iload_n X.1.1 X.1.2.1 dL_agrees_53 rfl (lv_at hl 1 rfl) ?_
            obtain ⟨g151, h⟩ := xgd_of h
            obtain ⟨g152, h⟩ := xgd_of h
            have f154 := y_qP hG (fy_14_0 hG (hT.fk (by decide) q264)).1 (fy_14_0 hG (hT.fk (by decide) q264)).2.1 (fy_14_0 hG (hT.fk (by decide) q264)).2.2 g151 g152
            obtain ⟨n153, en153, h⟩ := xlet_of h
            refine y_aaldq X hG (fy_14_0 hG (hT.fk (by decide) q264)).1 (fy_14_0 hG (hT.fk (by decide) q264)).2.1 (Or.inl rfl) (fy_14_0 hG (hT.fk (by decide) q264)).2.2 g151 (by decide) g152 dL_agrees_54 ?_
            rw [← en153]
            rw [← en153] at f154
            have f155 := hT.bk (by have h9 := sT_16 _ (al_lt f154.1) f154.2; omega) f154
            refine lv_astore (lv' := [(4, .ref (t.2.2.1 n153)), (2, .int (iI x2_145)), (3, .int (iI x3_146)), (0, .ref (t.2.2.1 0)), (1, .ref (t.2.2.1 264))]) X.1.1 X.1.2.1 dL_agrees_55 hl (by decide) rfl (fun ls hl => ?_)
            refine lv_aload X.1.1 X.1.2.1 dL_agrees_57 (lv_at hl 0 rfl) ?_
            refine yN_geti X hG 16 4 n153 4 (inC := iX12) rfl (hT.fk (by have h9 := sT_16 _ (al_lt f155.1) f155.2; omega) f155).1 (hT.fk (by have h9 := sT_16 _ (al_lt f155.1) f155.2; omega) f155).2 ⟨by decide, by decide, by decide, rfl, rfl⟩ (x_m 26 rfl) dL_agrees_59 ?_
            obtain ⟨g156, h⟩ := xgd_of h
            obtain ⟨j157, ej157, h⟩ := xlet_of h
            have Jj157 : ∀ (t : gP) (hT : ag 39 354 357 t0 t) (x2_158 : Int) (u159 : uS), j157 x2_158 u159 = some (r, u') → xG p l e rL_agrees s m args below meth c t Q 7 (ck41 + 0) (cn41 + 0) 68 u159 [(0, .ref (t.2.2.1 0)), (1, .ref (t.2.2.1 264)), (2, .int (iI x2_158)), (3, .int (iI x3_146)), (4, .ref (t.2.2.1 n153))] [] := by
                intro t hT x2_158 u159 h H locs ls hG hS hl
                replace X := X0.ag hT (by decide)
                replace h := (congrFun (congrFun ej157 x2_158) u159).symm.trans h
                refine x_bipush X dL_agrees_68 (by decide) ?_
                obtain ⟨g160, h⟩ := xgd_of h
                refine y_newi X hG hS 356 ⟨by decide, by decide⟩ (by decide +kernel) (by decide +kernel) ⟨rfl, by decide⟩ g160 w1 (by show ck41 + 0 + 1 ≤ 388; omega) (by show cn41 + 0 + 8 ≤ 1984; omega) dL_agrees_70 (fun t' H locs hag f161 hG hS => ?_)
                obtain ⟨u162, eu162, h⟩ := xlet_of h
                replace hG : G t' u162 H := by rw [eu162]; exact hG
                rw [← hag.at (k := 0) (by decide), ← hag.at (k := 264) (by decide), ← hag.at (k := n153) (by have h9 := sT_16 _ (al_lt (hT.fk (by have h9 := sT_16 _ (al_lt f155.1) f155.2; omega) f155).1) (hT.fk (by have h9 := sT_16 _ (al_lt f155.1) f155.2; omega) f155).2; omega)] at hl
                replace X := X.ag hag (by decide)
                replace hT : ag 39 354 357 t0 t' := hT.tr hag (by decide)
                clear hag
                obtain ⟨t, rfl⟩ : ∃ z, z = t' := ⟨_, rfl⟩
                have f163 : al t 356 ∧ sT 356 = 100 ∧ sN 356 = 8 := ⟨f161, by decide +kernel, by decide +kernel⟩
                refine lv_dup X.1.1 X.1.2.1 dL_agrees_72 rfl ?_
                refine x_iconst X dL_agrees_73 ?_
                refine lv_aload X.1.1 X.1.2.1 dL_agrees_74 (lv_at hl 4 rfl) ?_
                refine yN_geti X hG 16 0 n153 0 (inC := iX12) rfl (hT.fk (by have h9 := sT_16 _ (al_lt f155.1) f155.2; omega) f155).1 (hT.fk (by have h9 := sT_16 _ (al_lt f155.1) f155.2; omega) f155).2 ⟨by decide, by decide, by decide, rfl, rfl⟩ (x_m 2 rfl) dL_agrees_76 ?_
                refine y_iast X hG hS f163.1 f163.2.1 (n := 8) f163.2.2 ⟨by decide, by decide⟩ (by decide) dL_agrees_79 (fun H locs hG hS => ?_)
                obtain ⟨u164, eu164, h⟩ := xlet_of h
                replace hG : G t u164 H := by rw [eu164]; exact hG
                refine lv_dup X.1.1 X.1.2.1 dL_agrees_80 rfl ?_
                refine x_iconst X dL_agrees_81 ?_
                refine lv_aload X.1.1 X.1.2.1 dL_agrees_82 (lv_at hl 4 rfl) ?_
                refine yN_geti X hG 16 1 n153 1 (inC := iX12) rfl (hT.fk (by have h9 := sT_16 _ (al_lt f155.1) f155.2; omega) f155).1 (hT.fk (by have h9 := sT_16 _ (al_lt f155.1) f155.2; omega) f155).2 ⟨by decide, by decide, by decide, rfl, rfl⟩ (x_m 3 rfl) dL_agrees_84 ?_
                refine y_iast X hG hS f163.1 f163.2.1 (n := 8) f163.2.2 ⟨by decide, by decide⟩ (by decide) dL_agrees_87 (fun H locs hG hS => ?_)
                obtain ⟨u165, eu165, h⟩ := xlet_of h
                replace hG : G t u165 H := by rw [eu165]; exact hG
                refine lv_dup X.1.1 X.1.2.1 dL_agrees_88 rfl ?_
                refine x_iconst X dL_agrees_89 ?_
                refine lv_aload X.1.1 X.1.2.1 dL_agrees_90 (lv_at hl 4 rfl) ?_
                refine yN_geti X hG 16 2 n153 2 (inC := iX12) rfl (hT.fk (by have h9 := sT_16 _ (al_lt f155.1) f155.2; omega) f155).1 (hT.fk (by have h9 := sT_16 _ (al_lt f155.1) f155.2; omega) f155).2 ⟨by decide, by decide, by decide, rfl, rfl⟩ (x_m 20 rfl) dL_agrees_92 ?_
                refine y_iast X hG hS f163.1 f163.2.1 (n := 8) f163.2.2 ⟨by decide, by decide⟩ (by decide) dL_agrees_95 (fun H locs hG hS => ?_)
                obtain ⟨u166, eu166, h⟩ := xlet_of h
                replace hG : G t u166 H := by rw [eu166]; exact hG
                refine lv_dup X.1.1 X.1.2.1 dL_agrees_96 rfl ?_
                refine x_iconst X dL_agrees_97 ?_
                refine lv_aload_n X.1.1 X.1.2.1 dL_agrees_98 rfl (lv_at hl 1 rfl) ?_
                refine lv_aload X.1.1 X.1.2.1 dL_agrees_99 (lv_at hl 4 rfl) ?_
                refine lv_aload_n X.1.1 X.1.2.1 dL_agrees_101 rfl (lv_at hl 1 rfl) ?_
                refine yN_geti X hG 14 17 264 17 (inC := iX10) rfl (hT.fk (by decide) q264).1 (hT.fk (by decide) q264).2 ⟨by decide, by decide, by decide, rfl, rfl⟩ (x_m 10 rfl) dL_agrees_102 ?_
                obtain ⟨v167, u168, hf, h⟩ := xbd_of h
                refine y_callVi0 X hG hS (c_X10_sum l t _ _ _ _ _ hf (hT.fk (by decide) q264).1 (hT.fk (by have h9 := sT_16 _ (al_lt f155.1) f155.2; omega) f155)) (cwV 2 X.1.2.2.2.2 gL_agrees_X10_sum rfl rfl rfl hd_X10_sum ⟨Nat.le_of_ble_eq_true rfl, Nat.le_of_ble_eq_true rfl⟩) (hT.fk (by decide) q264).1 (hT.fk (by decide) q264).2 rfl (by decide) (by rfl) hl.1 (Nat.le_of_ble_eq_true rfl) dL_agrees_105 ⟨by show ck41 + 1 ≤ 388; omega, by show cn41 + 8 ≤ 1984; omega⟩ rfl (fun H locs hG hS => ?_)
                refine y_iast X hG hS f163.1 f163.2.1 (n := 8) f163.2.2 ⟨by decide, by decide⟩ (by decide) dL_agrees_108 (fun H locs hG hS => ?_)
                obtain ⟨u169, eu169, h⟩ := xlet_of h
                replace hG : G t u169 H := by rw [eu169]; exact hG
                refine lv_dup X.1.1 X.1.2.1 dL_agrees_109 rfl ?_
                refine x_iconst X dL_agrees_110 ?_
                refine lv_aload_n X.1.1 X.1.2.1 dL_agrees_111 rfl (lv_at hl 1 rfl) ?_
                refine lv_aload X.1.1 X.1.2.1 dL_agrees_112 (lv_at hl 4 rfl) ?_
                refine lv_aload_n X.1.1 X.1.2.1 dL_agrees_114 rfl (lv_at hl 1 rfl) ?_
                refine yN_geti X hG 14 18 264 18 (inC := iX10) rfl (hT.fk (by decide) q264).1 (hT.fk (by decide) q264).2 ⟨by decide, by decide, by decide, rfl, rfl⟩ (x_m 11 rfl) dL_agrees_115 ?_
                obtain ⟨v170, u171, hf, h⟩ := xbd_of h
                refine y_callVi0 X hG hS (c_X10_sum l t _ _ _ _ _ hf (hT.fk (by decide) q264).1 (hT.fk (by have h9 := sT_16 _ (al_lt f155.1) f155.2; omega) f155)) (cwV 2 X.1.2.2.2.2 gL_agrees_X10_sum rfl rfl rfl hd_X10_sum ⟨Nat.le_of_ble_eq_true rfl, Nat.le_of_ble_eq_true rfl⟩) (hT.fk (by decide) q264).1 (hT.fk (by decide) q264).2 rfl (by decide) (by rfl) hl.1 (Nat.le_of_ble_eq_true rfl) dL_agrees_118 ⟨by show ck41 + 1 ≤ 388; omega, by show cn41 + 8 ≤ 1984; omega⟩ rfl (fun H locs hG hS => ?_)
                refine y_iast X hG hS f163.1 f163.2.1 (n := 8) f163.2.2 ⟨by decide, by decide⟩ (by decide) dL_agrees_121 (fun H locs hG hS => ?_)
                obtain ⟨u172, eu172, h⟩ := xlet_of h
                replace hG : G t u172 H := by rw [eu172]; exact hG
                refine lv_dup X.1.1 X.1.2.1 dL_agrees_122 rfl ?_
                refine x_iconst X dL_agrees_123 ?_
                refine lv_aload_n X.1.1 X.1.2.1 dL_agrees_124 rfl (lv_at hl 1 rfl) ?_
                refine lv_aload X.1.1 X.1.2.1 dL_agrees_125 (lv_at hl 4 rfl) ?_
                obtain ⟨v173, u174, hf, h⟩ := xbd_of h
                refine y_callVi0 X hG hS (c_X10_ratio l t _ _ _ _ hf (hT.fk (by decide) q264).1 (hT.fk (by have h9 := sT_16 _ (al_lt f155.1) f155.2; omega) f155)) (cwV 1 X.1.2.2.2.2 gL_agrees_X10_ratio rfl rfl rfl hd_X10_ratio ⟨Nat.le_of_ble_eq_true rfl, Nat.le_of_ble_eq_true rfl⟩) (hT.fk (by decide) q264).1 (hT.fk (by decide) q264).2 rfl (by decide) (by rfl) hl.1 (Nat.le_of_ble_eq_true rfl) dL_agrees_127 ⟨by show ck41 + 1 ≤ 388; omega, by show cn41 + 8 ≤ 1984; omega⟩ rfl (fun H locs hG hS => ?_)
                refine y_iast X hG hS f163.1 f163.2.1 (n := 8) f163.2.2 ⟨by decide, by decide⟩ (by decide) dL_agrees_130 (fun H locs hG hS => ?_)
                obtain ⟨u175, eu175, h⟩ := xlet_of h
                replace hG : G t u175 H := by rw [eu175]; exact hG
                refine lv_dup X.1.1 X.1.2.1 dL_agrees_131 rfl ?_
                refine x_bipush X dL_agrees_132 (by decide) ?_
                refine lv_aload X.1.1 X.1.2.1 dL_agrees_134 (lv_at hl 4 rfl) ?_
                refine yN_geti X hG 16 4 n153 4 (inC := iX12) rfl (hT.fk (by have h9 := sT_16 _ (al_lt f155.1) f155.2; omega) f155).1 (hT.fk (by have h9 := sT_16 _ (al_lt f155.1) f155.2; omega) f155).2 ⟨by decide, by decide, by decide, rfl, rfl⟩ (x_m 26 rfl) dL_agrees_136 ?_
                obtain ⟨g176, h⟩ := xgd_of h
                obtain ⟨j177, ej177, h⟩ := xlet_of h
                have Jj177 : ∀ (t : gP) (hT : ag 39 354 357 t0 t) (f180 : al t 356 ∧ sT 356 = 100 ∧ sN 356 = 8) (s178 : Int) (u179 : uS), j177 s178 u179 = some (r, u') → xG p l e rL_agrees s m args below meth c t Q 7 (ck41 + 1) (cn41 + 8) 147 u179 [(0, .ref (t.2.2.1 0)), (1, .ref (t.2.2.1 264)), (2, .int (iI x2_158)), (3, .int (iI x3_146)), (4, .ref (t.2.2.1 n153))] [.int (iI s178), .int (iI 6), .ref (t.2.2.1 356), .ref (t.2.2.1 356)] := by
                    intro t hT f180 s178 u179 h H locs ls hG hS hl
                    replace X := X0.ag hT (by decide)
                    replace h := (congrFun (congrFun ej177 s178) u179).symm.trans h
                    refine y_iast X hG hS f180.1 f180.2.1 (n := 8) f180.2.2 ⟨by decide, by decide⟩ (by decide) dL_agrees_147 (fun H locs hG hS => ?_)
                    obtain ⟨u181, eu181, h⟩ := xlet_of h
                    replace hG : G t u181 H := by rw [eu181]; exact hG
                    refine lv_dup X.1.1 X.1.2.1 dL_agrees_148 rfl ?_
                    refine x_bipush X dL_agrees_149 (by decide) ?_
                    refine lv_aload X.1.1 X.1.2.1 dL_agrees_151 (lv_at hl 4 rfl) ?_
                    refine yN_geti X hG 16 5 n153 5 (inC := iX12) rfl (hT.fk (by have h9 := sT_16 _ (al_lt f155.1) f155.2; omega) f155).1 (hT.fk (by have h9 := sT_16 _ (al_lt f155.1) f155.2; omega) f155).2 ⟨by decide, by decide, by decide, rfl, rfl⟩ (x_m 21 rfl) dL_agrees_153 ?_
                    obtain ⟨g182, h⟩ := xgd_of h
                    obtain ⟨j183, ej183, h⟩ := xlet_of h
                    have Jj183 : ∀ (t : gP) (hT : ag 39 354 357 t0 t) (f186 : al t 356 ∧ sT 356 = 100 ∧ sN 356 = 8) (s184 : Int) (u185 : uS), j183 s184 u185 = some (r, u') → xG p l e rL_agrees s m args below meth c t Q 7 (ck41 + 1) (cn41 + 8) 164 u185 [(0, .ref (t.2.2.1 0)), (1, .ref (t.2.2.1 264)), (2, .int (iI x2_158)), (3, .int (iI x3_146))] [.int (iI s184), .int (iI 7), .ref (t.2.2.1 356), .ref (t.2.2.1 356)] := by
                        intro t hT f186 s184 u185 h H locs ls hG hS hl
                        replace X := X0.ag hT (by decide)
                        replace h := (congrFun (congrFun ej183 s184) u185).symm.trans h
                        refine y_iast X hG hS f186.1 f186.2.1 (n := 8) f186.2.2 ⟨by decide, by decide⟩ (by decide) dL_agrees_164 (fun H locs hG hS => ?_)
                        obtain ⟨u187, eu187, h⟩ := xlet_of h
                        replace hG : G t u187 H := by rw [eu187]; exact hG
                        refine lv_astore (lv' := [(5, .ref (t.2.2.1 356)), (0, .ref (t.2.2.1 0)), (1, .ref (t.2.2.1 264)), (2, .int (iI x2_158)), (3, .int (iI x3_146))]) X.1.1 X.1.2.1 dL_agrees_165 hl (by decide) rfl (fun ls hl => ?_)
                        refine x_iconst X dL_agrees_167 ?_
                        refine lv_istore (lv' := [(6, .int (iI 0)), (5, .ref (t.2.2.1 356)), (0, .ref (t.2.2.1 0)), (1, .ref (t.2.2.1 264)), (2, .int (iI x2_158)), (3, .int (iI x3_146))]) X.1.1 X.1.2.1 dL_agrees_168 hl (by decide) rfl (fun ls hl => ?_)
                        have Lgo188 : ∀ (nf : Nat) (x6_189 : Int) (u190 : uS) q, xl2 (s_L_agrees_170 go144 x2_158 x3_146) nf x6_189 u190 = some q → ∀ (ck170 cn170 : Nat) (t : gP) (hT : ag 39 354 357 t0 t) (f191 : al t 356 ∧ sT 356 = 100 ∧ sN 356 = 8), ((ck170 ≤ ck41 + 1 ∧ cn170 ≤ cn41 + 8) ∧ (ck170 : Int) + (8 - x6_189) * 0 ≤ ((ck41 + 1 : Nat) : Int) ∧ (cn170 : Int) + (8 - x6_189) * 0 ≤ ((cn41 + 8 : Nat) : Int)) → q = (r, u') → xG p l e rL_agrees s m args below meth c t Q 7 ck170 cn170 170 u190 [(6, .int (iI x6_189)), (0, .ref (t.2.2.1 0)), (1, .ref (t.2.2.1 264)), (2, .int (iI x2_158)), (3, .int (iI x3_146)), (5, .ref (t.2.2.1 356))] [] := by
                          refine xl2_N (F := s_L_agrees_170 go144 x2_158 x3_146) (fun nf x6_189 u190 q => ∀ (ck170 cn170 : Nat) (t : gP) (hT : ag 39 354 357 t0 t) (f191 : al t 356 ∧ sT 356 = 100 ∧ sN 356 = 8), ((ck170 ≤ ck41 + 1 ∧ cn170 ≤ cn41 + 8) ∧ (ck170 : Int) + (8 - x6_189) * 0 ≤ ((ck41 + 1 : Nat) : Int) ∧ (cn170 : Int) + (8 - x6_189) * 0 ≤ ((cn41 + 8 : Nat) : Int)) → q = (r, u') → xG p l e rL_agrees s m args below meth c t Q 7 ck170 cn170 170 u190 [(6, .int (iI x6_189)), (0, .ref (t.2.2.1 0)), (1, .ref (t.2.2.1 264)), (2, .int (iI x2_158)), (3, .int (iI x3_146)), (5, .ref (t.2.2.1 356))] []) ?_
                          intro nf go188 igo188 x6_189 u190 q h ck170 cn170 t hT f191 hck170 hq H locs ls hG hS hl
                          subst hq
                          replace X := X0.ag hT (by decide)
                          unfold s_L_agrees_170 at h
                          refine lv_iload X.1.1 X.1.2.1 dL_agrees_170 (lv_at hl 0 rfl) ?_
                          refine x_bipush X dL_agrees_172 (by decide) ?_
                          obtain ⟨g192, h⟩ := xgd_of h
                          refine x_icmp_ge (tgt := 200) X g192 ⟨by decide, by decide⟩ dL_agrees_174 (by decide) (fun c193 => ?_) (fun c193 => ?_)
                          · replace h := xif_t h c193
                            refine lv_iinc (v := (iI (x3_146 + 1))) (lv' := [(3, .int (iI (x3_146 + 1))), (6, .int (iI x6_189)), (0, .ref (t.2.2.1 0)), (1, .ref (t.2.2.1 264)), (2, .int (iI x2_158)), (5, .ref (t.2.2.1 356))]) X.1.1 X.1.2.1 dL_agrees_200 hl (k := 4) rfl (iI_add _ _) (by decide) rfl (fun ls hl => ?_)
                            refine lv_goto (tgt := 41) X.1.1 X.1.2.1 dL_agrees_203 (by decide) ?_
                            refine W.widen (k := ck41 + 1) (n := cn41 + 8) (by omega) (by omega) ?_
                            exact igo144 _ _ _ _ h (ck41 + 1) (cn41 + 8) t hT (by omega) rfl _ _ _ hG hS (lv_sub hl [4, 0, 2, 3] rfl)
                          · replace h := xif_f h c193
                            obtain ⟨g194, h⟩ := xgd_of h
                            refine lv_aload_n X.1.1 X.1.2.1 dL_agrees_177 rfl (lv_at hl 1 rfl) ?_
                            refine lv_iload_n X.1.1 X.1.2.1 dL_agrees_178 rfl (lv_at hl 4 rfl) ?_
                            refine lv_iload X.1.1 X.1.2.1 dL_agrees_179 (lv_at hl 0 rfl) ?_
                            obtain ⟨v195, u196, hf, h⟩ := xb0_of h
                            refine x_callVTi X hG hS (c0_X9_station l hfl t _ _ _ _ _ hf) (cwV 2 X.1.2.2.2.2 gL_agrees_X9_station rfl rfl rfl hd_X9_station ⟨Nat.le_of_ble_eq_true rfl, Nat.le_of_ble_eq_true rfl⟩) q0.1 q0.2 rfl (by decide) (by rfl) hl.1 (Nat.le_of_ble_eq_true rfl) dL_agrees_181 ⟨by show ck170 + 0 + 0 ≤ 388; omega, by show cn170 + 0 + 0 ≤ 1984; omega⟩ rfl (fun hg H locs ce q9 hG hS h7 h8 h9 => absurd rfl hg) (fun hg H locs hG hS => ?_)
                            refine lv_aload X.1.1 X.1.2.1 dL_agrees_184 (lv_at hl 5 rfl) ?_
                            refine lv_iload X.1.1 X.1.2.1 dL_agrees_186 (lv_at hl 0 rfl) ?_
                            obtain ⟨g197, h⟩ := xgd_of h
                            refine y_iald X hG f191.1 f191.2.1 (n := 8) f191.2.2 g197 (by decide) dL_agrees_188 ?_
                            obtain ⟨g198, h⟩ := xgd_of h
                            refine x_icmp_eq (tgt := 194) X g198.1 g198.2 dL_agrees_189 (by decide) (fun c199 => ?_) (fun c199 => ?_)
                            · replace h := xif_t h c199
                              refine lv_iinc (v := (iI (x6_189 + 1))) (lv' := [(6, .int (iI (x6_189 + 1))), (0, .ref (t.2.2.1 0)), (1, .ref (t.2.2.1 264)), (2, .int (iI x2_158)), (3, .int (iI x3_146)), (5, .ref (t.2.2.1 356))]) X.1.1 X.1.2.1 dL_agrees_194 hl (k := 0) rfl (iI_add _ _) (by decide) rfl (fun ls hl => ?_)
                              refine lv_goto (tgt := 170) X.1.1 X.1.2.1 dL_agrees_197 (by decide) ?_
                              exact igo188 _ _ _ h (ck170 + 0) (cn170 + 0) t hT f191 (by omega) rfl _ _ _ hG hS (lv_sub hl [0, 1, 2, 3, 4, 5] rfl)
                            · replace h := xif_f h c199
                              refine x_iconst X dL_agrees_192 ?_
                              cases h
                              exact hret _ _ _ _ _ _ _ hT (by omega) (by omega) dL_agrees_193 (by decide) hG hS
                        exact Lgo188 9 _ _ _ h (ck41 + 1) (cn41 + 8) t hT f186 (by omega) rfl _ _ _ hG hS (lv_sub hl [0, 2, 3, 4, 5, 1] rfl)
                    refine x_if_eq (tgt := 163) X g182 dL_agrees_156 (by decide) (fun c200 => ?_) (fun c200 => ?_)
                    · replace h := xif_t h c200
                      refine x_iconst X dL_agrees_163 ?_
                      exact Jj183 t hT f180 _ _ h _ _ _ hG hS (lv_sub hl [0, 1, 2, 3] rfl)
                    · replace h := xif_f h c200
                      refine x_iconst X dL_agrees_159 ?_
                      refine lv_goto (tgt := 164) X.1.1 X.1.2.1 dL_agrees_160 (by decide) ?_
                      exact Jj183 t hT f180 _ _ h _ _ _ hG hS (lv_sub hl [0, 1, 2, 3] rfl)
                refine x_if_eq (tgt := 146) X g176 dL_agrees_139 (by decide) (fun c201 => ?_) (fun c201 => ?_)
                · replace h := xif_t h c201
                  refine x_iconst X dL_agrees_146 ?_
                  exact Jj177 t hT f163 _ _ h _ _ _ hG hS (lv_sub hl [0, 1, 2, 3, 4] rfl)
                · replace h := xif_f h c201
                  refine x_iconst X dL_agrees_142 ?_
                  refine lv_goto (tgt := 147) X.1.1 X.1.2.1 dL_agrees_143 (by decide) ?_
                  exact Jj177 t hT f163 _ _ h _ _ _ hG hS (lv_sub hl [0, 1, 2, 3, 4] rfl)
            refine x_if_eq (tgt := 68) X g156 dL_agrees_62 (by decide) (fun c202 => ?_) (fun c202 => ?_)
            · replace h := xif_t h c202
              exact Jj157 t hT _ _ h _ _ _ hG hS (lv_sub hl [3, 4, 1, 2, 0] rfl)
            · replace h := xif_f h c202
              refine lv_iinc (v := (iI (x2_145 + 1))) (lv' := [(2, .int (iI (x2_145 + 1))), (4, .ref (t.2.2.1 n153)), (3, .int (iI x3_146)), (0, .ref (t.2.2.1 0)), (1, .ref (t.2.2.1 264))]) X.1.1 X.1.2.1 dL_agrees_65 hl (k := 1) rfl (iI_add _ _) (by decide) rfl (fun ls hl => ?_)
              exact Jj157 t hT _ _ h _ _ _ hG hS (lv_sub hl [3, 4, 0, 2, 1] rfl)
        exact Lgo144 9 _ _ _ _ h 0 0 t hT (by omega) rfl _ _ _ hG hS (lv_sub hl [1, 0, 2, 3] rfl)
      · replace h := xif_f h c12
        refine x_iconst X dL_agrees_35 ?_
        cases h
        exact hret _ _ _ _ _ _ _ hT (by decide) (by decide) dL_agrees_36 (by decide) hG hS
theorem hds_L_agrees : yL_agrees.cls ≠ "java/lang/invoke/MethodHandle" ∧ yL_agrees.cls ≠ "java/lang/invoke/VarHandle" ∧ (parseMethodDescriptor yL_agrees.desc).map (fun d => d.parameters.length) = some 2 := by decide +kernel
