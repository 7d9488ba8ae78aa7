abbrev rL_plays : Room := { frames := 10, cells := 19345, slots := 254428, locals := 252 }
set_option maxRecDepth 100000 in
set_option maxHeartbeats 8000000 in
theorem c_L_plays (l : Launch) (hfl : l.stackTraces = false) (t0 : gP) (u : uS) (r : Int) (u' : uS) (h : f_L_plays u = some (r, u')) (aq357 : al t0 357) : xMia 37 264 357 l yL_plays wsL_plays rL_plays t0 [.ref (t0.2.2.1 0), .ref (t0.2.2.1 357)] u r u' 19345 254428 := by
  refine x_ofWia (cc := cL_plays) (maxL := 7) (ret := .boolean) (own := RL) (by decide) rfl rfl (Nat.le_of_ble_eq_true rfl) ?_
  intro p e s m args below meth c Q X0 hret H locs ls hG hS hl
  replace hl : lv_has ls 7 [(0, .ref (t0.2.2.1 0)), (1, .ref (t0.2.2.1 357))] := hl
  have q0 : 0 < NN ∧ sT 0 = 13 := by decide
  have q37 : 37 < NN ∧ sT 37 = 1 := by decide
  have iX10 : ∀ w ∈ wsX100, w ∈ wsL_plays := by decide +kernel
  have iX12 : ∀ w ∈ wsX120, w ∈ wsL_plays := by decide +kernel
  have q357 : al t0 357 ∧ sT 357 = 100 ∧ sN 357 = 1 := ⟨aq357, by decide +kernel, by decide +kernel⟩
  obtain ⟨t, ht, hT⟩ : ∃ t, t0 = t ∧ ag 37 264 357 t0 t := ⟨t0, rfl, ag.rf⟩
  have X := X0.ag hT (by decide)
  rw [ht] at hG hS hl
  clear ht
  unfold f_L_plays at h
  obtain ⟨g1, h⟩ := xgd_of h
  refine mk_SB X hG hS hl.1 g1 ⟨by decide, by decide⟩ (kk := fun t' H locs hag hG hS => ?_)
  obtain ⟨u2, eu2, h⟩ := xlet_of h
  replace hG : G t' u2 H := by rw [eu2]; exact hG
  rw [← hag.at (k := 0) (by decide), ← hag.at (k := 357) (by decide)] at hl
  replace X := X.ag hag (by decide)
  replace hT : ag 37 264 357 t0 t' := hT.tr hag (by decide)
  clear hag
  obtain ⟨t, rfl⟩ : ∃ z, z = t' := ⟨_, rfl⟩
  refine lv_astore_n (lv' := [(2, .ref (t.2.2.1 37)), (0, .ref (t.2.2.1 0)), (1, .ref (t.2.2.1 357))]) X.1.1 X.1.2.1 dL_plays_7 rfl hl (by decide) rfl (fun ls hl => ?_)
  refine lv_aload_n X.1.1 X.1.2.1 dL_plays_8 rfl (lv_at hl 0 rfl) ?_
  refine lv_aload_n X.1.1 X.1.2.1 dL_plays_9 rfl (lv_at hl 2 rfl) ?_
  obtain ⟨v3, u4, hf, h⟩ := xbd_of h
  obtain ⟨g5, h⟩ := xgd_of h
  rw [g5] at hf
  refine y_callSra X hG hS (c_L_net l t  _ _ _ hf (hT.fk (by decide) q357).1) (va_cwS 2 X.1.2.2.2.2 gL_plays_L_net rfl rfl rfl hds_L_net ⟨Nat.le_of_ble_eq_true rfl, Nat.le_of_ble_eq_true rfl⟩) (by rfl) hl.1 (Nat.le_of_ble_eq_true rfl) dL_plays_10 ⟨by decide, by decide⟩ rfl (fun t' H locs hag f6 hG hS => ?_)
  rw [← hag.at (k := 37) (by decide), ← hag.at (k := 0) (by decide), ← hag.at (k := 357) (by decide)] at hl
  replace X := X.ag hag (by decide)
  replace hT : ag 37 264 357 t0 t' := hT.tr hag (by decide)
  clear hag
  obtain ⟨t, rfl⟩ : ∃ z, z = t' := ⟨_, rfl⟩
  have f7 : al t 264 ∧ sT 264 = 14 := ⟨f6, by decide +kernel⟩
  refine lv_astore_n (lv' := [(3, .ref (t.2.2.1 264)), (2, .ref (t.2.2.1 37)), (0, .ref (t.2.2.1 0)), (1, .ref (t.2.2.1 357))]) X.1.1 X.1.2.1 dL_plays_13 rfl hl (by decide) rfl (fun ls hl => ?_)
  refine lv_aload_n X.1.1 X.1.2.1 dL_plays_14 rfl (lv_at hl 2 rfl) ?_
  refine lv_aload_n X.1.1 X.1.2.1 dL_plays_15 rfl (lv_at hl 1 rfl) ?_
  obtain ⟨v8, u9, hf, h⟩ := xbd_of h
  refine y_callVta X hG hS (c_toString l t _ _ _ hf) (cwV 0 X.1.2.2.2.2 gL_plays_J4_toString_0e30d rfl rfl rfl hd_toString ⟨Nat.le_of_ble_eq_true rfl, Nat.le_of_ble_eq_true rfl⟩) (by rfl) hl.1 (Nat.le_of_ble_eq_true rfl) dL_plays_16 ⟨by decide, by decide⟩ rfl (fun t' H locs hag f10 hG hS => ?_)
  rw [← hag.at (k := 264) (by decide), ← hag.at (k := 37) (by decide), ← hag.at (k := 0) (by decide), ← hag.at (k := 357) (by decide)] at hl
  rw [← hag.at (k := 0) (by decide)]
  have f11 := hag.fk (by decide) f7
  replace X := X.ag hag (by decide)
  replace hT : ag 37 264 357 t0 t' := hT.tr hag (by decide)
  clear hag
  obtain ⟨t, rfl⟩ : ∃ z, z = t' := ⟨_, rfl⟩
  have f12 : al t 289 ∧ sT 289 = 0 := ⟨f10.1, by decide +kernel⟩
  have f13 := f10.2
  obtain ⟨v14, u15, hf, h⟩ := xbd_of h
  refine y_callSia X hG hS (c_L_feeds l t  _ _ _ hf f12.1 f13) (va_cwS 2 X.1.2.2.2.2 gL_plays_L_feeds rfl rfl rfl hds_L_feeds ⟨Nat.le_of_ble_eq_true rfl, Nat.le_of_ble_eq_true rfl⟩) (by rfl) hl.1 (Nat.le_of_ble_eq_true rfl) dL_plays_19 ⟨by decide, by decide⟩ rfl (fun t' H locs hag hG hS => ?_)
  rw [← hag.at (k := 264) (by decide), ← hag.at (k := 37) (by decide), ← hag.at (k := 0) (by decide), ← hag.at (k := 357) (by decide)] at hl
  have f17 := hag.fk (by decide) f11
  replace X := X.ag hag (by decide)
  replace hT : ag 37 264 357 t0 t' := hT.tr hag (by decide)
  clear hag
  obtain ⟨t, rfl⟩ : ∃ z, z = t' := ⟨_, rfl⟩
  obtain ⟨g18, h⟩ := xgd_of h
  refine x_if_eq (tgt := 77) X g18 dL_plays_22 (by decide) (fun c19 => ?_) (fun c19 => ?_)
  · replace h := xif_t h c19
    refine x_iconst X dL_plays_77 ?_
    cases h
    exact hret _ _ _ _ _ _ _ hT (by decide) (by decide) dL_plays_78 (by decide) hG hS
  · replace h := xif_f h c19
    refine lv_aload_n X.1.1 X.1.2.1 dL_plays_25 rfl (lv_at hl 2 rfl) ?_
    refine lv_aload_n X.1.1 X.1.2.1 dL_plays_26 rfl (lv_at hl 1 rfl) ?_
    obtain ⟨v20, u21, hf, h⟩ := xbd_of h
    refine x_callVi0 X hG hS (c_J4_length_8abf5 l t  _ _ _ hf) (cwV 0 X.1.2.2.2.2 gL_plays_J4_length_8abf5 rfl rfl rfl hd_J4_length_8abf5 ⟨Nat.le_of_ble_eq_true rfl, Nat.le_of_ble_eq_true rfl⟩) q37.1 q37.2 rfl (by decide) (by rfl) hl.1 (Nat.le_of_ble_eq_true rfl) dL_plays_27 ⟨by decide, by decide⟩ rfl (fun H locs hG hS => ?_)
    obtain ⟨v22, u23, hf, h⟩ := xb0_of h
    refine x_callVTi X hG hS (c_X9_parse l hfl t _ _ _ _ _ hf) (cwV 1 X.1.2.2.2.2 gL_plays_X9_parse rfl rfl rfl hd_X9_parse ⟨Nat.le_of_ble_eq_true rfl, Nat.le_of_ble_eq_true rfl⟩) q0.1 q0.2 rfl (by decide) (by rfl) hl.1 (Nat.le_of_ble_eq_true rfl) dL_plays_30 ⟨by decide, by decide⟩ rfl (fun hg H locs ce q9 hG hS h7 h8 h9 => absurd rfl hg) (fun hg H locs hG hS => ?_)
    obtain ⟨g24, h⟩ := xgd_of h
    refine x_if_ne (tgt := 77) X g24 dL_plays_33 (by decide) (fun c25 => ?_) (fun c25 => ?_)
    · replace h := xif_f h c25
      refine x_iconst X dL_plays_77 ?_
      cases h
      exact hret _ _ _ _ _ _ _ hT (by decide) (by decide) dL_plays_78 (by decide) hG hS
    · replace h := xif_t h c25
      refine lv_aload_n X.1.1 X.1.2.1 dL_plays_36 rfl (lv_at hl 2 rfl) ?_
      refine x_iconst X dL_plays_37 ?_
      obtain ⟨v26, u27, hf, h⟩ := xb0_of h
      refine x_callVTi X hG hS (c0_X9_size l hfl t _ _ _ _ hf) (cwV 1 X.1.2.2.2.2 gL_plays_X9_size rfl rfl rfl hd_X9_size ⟨Nat.le_of_ble_eq_true rfl, Nat.le_of_ble_eq_true rfl⟩) q0.1 q0.2 rfl (by decide) (by rfl) hl.1 (Nat.le_of_ble_eq_true rfl) dL_plays_38 ⟨by decide, by decide⟩ rfl (fun hg H locs ce q9 hG hS h7 h8 h9 => absurd rfl hg) (fun hg H locs hG hS => ?_)
      refine lv_aload_n X.1.1 X.1.2.1 dL_plays_41 rfl (lv_at hl 0 rfl) ?_
      refine yN_geti X hG 14 6 264 6 (inC := iX10) rfl f17.1 f17.2 ⟨by decide, by decide, by decide, rfl, rfl⟩ (x_m 0 rfl) dL_plays_42 ?_
      obtain ⟨g28, h⟩ := xgd_of h
      refine x_icmp_ne (tgt := 77) X g28.1 g28.2 dL_plays_45 (by decide) (fun c29 => ?_) (fun c29 => ?_)
      · replace h := xif_f h c29
        refine x_iconst X dL_plays_77 ?_
        cases h
        exact hret _ _ _ _ _ _ _ hT (by decide) (by decide) dL_plays_78 (by decide) hG hS
      · replace h := xif_t h c29
        refine lv_aload_n X.1.1 X.1.2.1 dL_plays_48 rfl (lv_at hl 2 rfl) ?_
        refine x_iconst X dL_plays_49 ?_
        obtain ⟨v30, u31, hf, h⟩ := xb0_of h
        refine x_callVTi X hG hS (c0_X9_size l hfl t _ _ _ _ hf) (cwV 1 X.1.2.2.2.2 gL_plays_X9_size rfl rfl rfl hd_X9_size ⟨Nat.le_of_ble_eq_true rfl, Nat.le_of_ble_eq_true rfl⟩) q0.1 q0.2 rfl (by decide) (by rfl) hl.1 (Nat.le_of_ble_eq_true rfl) dL_plays_50 ⟨by decide, by decide⟩ rfl (fun hg H locs ce q9 hG hS h7 h8 h9 => absurd rfl hg) (fun hg H locs hG hS => ?_)
        refine lv_aload_n X.1.1 X.1.2.1 dL_plays_53 rfl (lv_at hl 0 rfl) ?_
        refine yN_geti X hG 14 13 264 13 (inC := iX10) rfl f17.1 f17.2 ⟨by decide, by decide, by decide, rfl, rfl⟩ (x_m 6 rfl) dL_plays_54 ?_
        refine lv_aload_n X.1.1 X.1.2.1 dL_plays_57 rfl (lv_at hl 0 rfl) ?_
        refine yN_geti X hG 14 14 264 14 (inC := iX10) rfl f17.1 f17.2 ⟨by decide, by decide, by decide, rfl, rfl⟩ (x_m 7 rfl) dL_plays_58 ?_
        refine x_imul X dL_plays_61 ?_
        obtain ⟨g32, h⟩ := xgd_of h
        refine x_icmp_ne (tgt := 77) X g32.1 g32.2 dL_plays_62 (by decide) (fun c33 => ?_) (fun c33 => ?_)
        · replace h := xif_f h c33
          refine x_iconst X dL_plays_77 ?_
          cases h
          exact hret _ _ _ _ _ _ _ hT (by decide) (by decide) dL_plays_78 (by decide) hG hS
        · replace h := xif_t h c33
          refine lv_aload_n X.1.1 X.1.2.1 dL_plays_65 rfl (lv_at hl 2 rfl) ?_
          refine x_iconst X dL_plays_66 ?_
          obtain ⟨v34, u35, hf, h⟩ := xb0_of h
          refine x_callVTi X hG hS (c0_X9_size l hfl t _ _ _ _ hf) (cwV 1 X.1.2.2.2.2 gL_plays_X9_size rfl rfl rfl hd_X9_size ⟨Nat.le_of_ble_eq_true rfl, Nat.le_of_ble_eq_true rfl⟩) q0.1 q0.2 rfl (by decide) (by rfl) hl.1 (Nat.le_of_ble_eq_true rfl) dL_plays_67 ⟨by decide, by decide⟩ rfl (fun hg H locs ce q9 hG hS h7 h8 h9 => absurd rfl hg) (fun hg H locs hG hS => ?_)
          refine lv_aload_n X.1.1 X.1.2.1 dL_plays_70 rfl (lv_at hl 0 rfl) ?_
          refine yN_geti X hG 14 10 264 10 (inC := iX10) rfl f17.1 f17.2 ⟨by decide, by decide, by decide, rfl, rfl⟩ (x_m 17 rfl) dL_plays_71 ?_
          obtain ⟨g36, h⟩ := xgd_of h
          refine x_icmp_eq (tgt := 79) X g36.1 g36.2 dL_plays_74 (by decide) (fun c37 => ?_) (fun c37 => ?_)
          · replace h := xif_t h c37
            refine x_iconst X dL_plays_79 ?_
            refine lv_istore (lv' := [(4, .int (iI 0)), (3, .ref (t.2.2.1 264)), (2, .ref (t.2.2.1 37)), (0, .ref (t.2.2.1 0)), (1, .ref (t.2.2.1 357))]) X.1.1 X.1.2.1 dL_plays_80 hl (by decide) rfl (fun ls hl => ?_)
            obtain ⟨j38, ej38, h⟩ := xlet_of h
            have Jj38 : ∀ (t : gP) (hT : ag 37 264 357 t0 t) (f40 : al t 264 ∧ sT 264 = 14) (u39 : uS), j38 u39 = some (r, u') → xG p l e rL_plays s m args below meth c t Q 7 19340 254398 114 u39 [(0, .ref (t.2.2.1 0)), (1, .ref (t.2.2.1 357)), (3, .ref (t.2.2.1 264))] [] := by
                intro t hT f40 u39 h H locs ls hG hS hl
                replace X := X0.ag hT (by decide)
                replace h := (congrFun ej38 u39).symm.trans h
                refine lv_aload_n X.1.1 X.1.2.1 dL_plays_114 rfl (lv_at hl 1 rfl) ?_
                refine x_sipush X dL_plays_115 (by decide) ?_
                obtain ⟨v41, u42, hf, h⟩ := xbd_of h
                refine x_callSi0 X hG hS (c_L_draw l t _ _ _ _ hf (hT.fk (by decide) q357).1) (va_cwS 2 X.1.2.2.2.2 gL_plays_L_draw rfl rfl rfl hds_L_draw ⟨Nat.le_of_ble_eq_true rfl, Nat.le_of_ble_eq_true rfl⟩) (by rfl) hl.1 (Nat.le_of_ble_eq_true rfl) dL_plays_118 ⟨by decide, by decide⟩ rfl (fun H locs hG hS => ?_)
                refine lv_istore (lv' := [(4, .int (iI v41)), (0, .ref (t.2.2.1 0)), (1, .ref (t.2.2.1 357)), (3, .ref (t.2.2.1 264))]) X.1.1 X.1.2.1 dL_plays_121 hl (by decide) rfl (fun ls hl => ?_)
                refine lv_aload_n X.1.1 X.1.2.1 dL_plays_123 rfl (lv_at hl 2 rfl) ?_
                refine lv_aload_n X.1.1 X.1.2.1 dL_plays_124 rfl (lv_at hl 3 rfl) ?_
                refine yN_geti X hG 14 6 264 6 (inC := iX10) rfl f40.1 f40.2 ⟨by decide, by decide, by decide, rfl, rfl⟩ (x_m 0 rfl) dL_plays_125 ?_
                obtain ⟨v43, u44, hf, h⟩ := xbd_of h
                refine x_callSi0 X hG hS (c_L_draw l t _ _ _ _ hf (hT.fk (by decide) q357).1) (va_cwS 2 X.1.2.2.2.2 gL_plays_L_draw rfl rfl rfl hds_L_draw ⟨Nat.le_of_ble_eq_true rfl, Nat.le_of_ble_eq_true rfl⟩) (by rfl) hl.1 (Nat.le_of_ble_eq_true rfl) dL_plays_128 ⟨by decide, by decide⟩ rfl (fun H locs hG hS => ?_)
                refine lv_istore (lv' := [(5, .int (iI v43)), (4, .int (iI v41)), (0, .ref (t.2.2.1 0)), (1, .ref (t.2.2.1 357)), (3, .ref (t.2.2.1 264))]) X.1.1 X.1.2.1 dL_plays_131 hl (by decide) rfl (fun ls hl => ?_)
                refine lv_aload_n X.1.1 X.1.2.1 dL_plays_133 rfl (lv_at hl 3 rfl) ?_
                refine lv_aload_n X.1.1 X.1.2.1 dL_plays_134 rfl (lv_at hl 4 rfl) ?_
                refine yN_geti X hG 14 13 264 13 (inC := iX10) rfl f40.1 f40.2 ⟨by decide, by decide, by decide, rfl, rfl⟩ (x_m 6 rfl) dL_plays_135 ?_
                refine lv_aload_n X.1.1 X.1.2.1 dL_plays_138 rfl (lv_at hl 4 rfl) ?_
                refine yN_geti X hG 14 14 264 14 (inC := iX10) rfl f40.1 f40.2 ⟨by decide, by decide, by decide, rfl, rfl⟩ (x_m 7 rfl) dL_plays_139 ?_
                refine x_imul X dL_plays_142 ?_
                obtain ⟨v45, u46, hf, h⟩ := xbd_of h
                refine x_callSi0 X hG hS (c_L_draw l t _ _ _ _ hf (hT.fk (by decide) q357).1) (va_cwS 2 X.1.2.2.2.2 gL_plays_L_draw rfl rfl rfl hds_L_draw ⟨Nat.le_of_ble_eq_true rfl, Nat.le_of_ble_eq_true rfl⟩) (by rfl) hl.1 (Nat.le_of_ble_eq_true rfl) dL_plays_143 ⟨by decide, by decide⟩ rfl (fun H locs hG hS => ?_)
                refine lv_istore (lv' := [(6, .int (iI v45)), (5, .int (iI v43)), (4, .int (iI v41)), (0, .ref (t.2.2.1 0)), (1, .ref (t.2.2.1 357)), (3, .ref (t.2.2.1 264))]) X.1.1 X.1.2.1 dL_plays_146 hl (by decide) rfl (fun ls hl => ?_)
                refine lv_aload_n X.1.1 X.1.2.1 dL_plays_148 rfl (lv_at hl 3 rfl) ?_
                refine lv_iload X.1.1 X.1.2.1 dL_plays_149 (lv_at hl 2 rfl) ?_
                obtain ⟨v47, u48, hf, h⟩ := xb0_of h
                refine x_callVTi X hG hS (c_X9_ladder l hfl t _ _ _ _ _ hf) (cwV 1 X.1.2.2.2.2 gL_plays_X9_ladder rfl rfl rfl hd_X9_ladder ⟨Nat.le_of_ble_eq_true rfl, Nat.le_of_ble_eq_true rfl⟩) q0.1 q0.2 rfl (by decide) (by rfl) hl.1 (Nat.le_of_ble_eq_true rfl) dL_plays_151 ⟨by decide, by decide⟩ rfl (fun hg H locs ce q9 hG hS h7 h8 h9 => absurd rfl hg) (fun hg H locs hG hS => ?_)
                refine lv_aload_n X.1.1 X.1.2.1 dL_plays_154 rfl (lv_at hl 5 rfl) ?_
                refine lv_iload X.1.1 X.1.2.1 dL_plays_155 (lv_at hl 2 rfl) ?_
                obtain ⟨v49, u50, hf, h⟩ := xbd_of h
                refine y_callVi0 X hG hS (c_X10_rung l t _ _ _ _ hf f40.1) (cwV 1 X.1.2.2.2.2 gL_plays_X10_rung rfl rfl rfl hd_X10_rung ⟨Nat.le_of_ble_eq_true rfl, Nat.le_of_ble_eq_true rfl⟩) f40.1 f40.2 rfl (by decide) (by rfl) hl.1 (Nat.le_of_ble_eq_true rfl) dL_plays_157 ⟨by decide, by decide⟩ rfl (fun H locs hG hS => ?_)
                obtain ⟨g51, h⟩ := xgd_of h
                refine x_icmp_ne (tgt := 263) X g51.1 g51.2 dL_plays_160 (by decide) (fun c52 => ?_) (fun c52 => ?_)
                · replace h := xif_f h c52
                  refine x_iconst X dL_plays_263 ?_
                  cases h
                  exact hret _ _ _ _ _ _ _ hT (by decide) (by decide) dL_plays_264 (by decide) hG hS
                · replace h := xif_t h c52
                  refine lv_aload_n X.1.1 X.1.2.1 dL_plays_163 rfl (lv_at hl 3 rfl) ?_
                  refine lv_iload X.1.1 X.1.2.1 dL_plays_164 (lv_at hl 0 rfl) ?_
                  refine lv_iload X.1.1 X.1.2.1 dL_plays_166 (lv_at hl 1 rfl) ?_
                  obtain ⟨v53, u54, hf, h⟩ := xb0_of h
                  refine x_callVTi X hG hS (c_X9_travel l hfl t _ _ _ _ _ _ hf) (cwV 2 X.1.2.2.2.2 gL_plays_X9_travel rfl rfl rfl hd_X9_travel ⟨Nat.le_of_ble_eq_true rfl, Nat.le_of_ble_eq_true rfl⟩) q0.1 q0.2 rfl (by decide) (by rfl) hl.1 (Nat.le_of_ble_eq_true rfl) dL_plays_168 ⟨by decide, by decide⟩ rfl (fun hg H locs ce q9 hG hS h7 h8 h9 => absurd rfl hg) (fun hg H locs hG hS => ?_)
                  refine lv_aload_n X.1.1 X.1.2.1 dL_plays_171 rfl (lv_at hl 5 rfl) ?_
                  refine lv_aload_n X.1.1 X.1.2.1 dL_plays_172 rfl (lv_at hl 5 rfl) ?_
                  refine yN_geti X hG 14 11 264 11 (inC := iX10) rfl f40.1 f40.2 ⟨by decide, by decide, by decide, rfl, rfl⟩ (x_m 4 rfl) dL_plays_173 ?_
                  refine lv_iload X.1.1 X.1.2.1 dL_plays_176 (lv_at hl 0 rfl) ?_
                  refine lv_aload_n X.1.1 X.1.2.1 dL_plays_178 rfl (lv_at hl 5 rfl) ?_
                  refine yN_geti X hG 14 13 264 13 (inC := iX10) rfl f40.1 f40.2 ⟨by decide, by decide, by decide, rfl, rfl⟩ (x_m 6 rfl) dL_plays_179 ?_
                  obtain ⟨g55, h⟩ := xgd_of h
                  refine x_irem X g55.1 g55.2.1 g55.2.2 dL_plays_182 ?_
                  refine lv_aload_n X.1.1 X.1.2.1 dL_plays_183 rfl (lv_at hl 5 rfl) ?_
                  refine yN_geti X hG 14 15 264 15 (inC := iX10) rfl f40.1 f40.2 ⟨by decide, by decide, by decide, rfl, rfl⟩ (x_m 8 rfl) dL_plays_184 ?_
                  refine x_imul X dL_plays_187 ?_
                  refine x_iadd X dL_plays_188 ?_
                  refine lv_aload_n X.1.1 X.1.2.1 dL_plays_189 rfl (lv_at hl 5 rfl) ?_
                  refine yN_geti X hG 14 12 264 12 (inC := iX10) rfl f40.1 f40.2 ⟨by decide, by decide, by decide, rfl, rfl⟩ (x_m 5 rfl) dL_plays_190 ?_
                  refine lv_iload X.1.1 X.1.2.1 dL_plays_193 (lv_at hl 0 rfl) ?_
                  refine lv_aload_n X.1.1 X.1.2.1 dL_plays_195 rfl (lv_at hl 5 rfl) ?_
                  refine yN_geti X hG 14 13 264 13 (inC := iX10) rfl f40.1 f40.2 ⟨by decide, by decide, by decide, rfl, rfl⟩ (x_m 6 rfl) dL_plays_196 ?_
                  obtain ⟨g56, h⟩ := xgd_of h
                  refine x_idiv X g56.1 g56.2.1 g56.2.2 dL_plays_199 ?_
                  refine lv_aload_n X.1.1 X.1.2.1 dL_plays_200 rfl (lv_at hl 5 rfl) ?_
                  refine yN_geti X hG 14 15 264 15 (inC := iX10) rfl f40.1 f40.2 ⟨by decide, by decide, by decide, rfl, rfl⟩ (x_m 8 rfl) dL_plays_201 ?_
                  refine x_imul X dL_plays_204 ?_
                  refine x_iadd X dL_plays_205 ?_
                  refine lv_aload_n X.1.1 X.1.2.1 dL_plays_206 rfl (lv_at hl 5 rfl) ?_
                  refine yN_getr X hG 14 0 264 1 (inC := iX10) rfl f40.1 f40.2 ⟨by decide, by decide, by decide, rfl, by decide, by decide⟩ (x_m 1 rfl) dL_plays_207 ?_
                  refine lv_iload X.1.1 X.1.2.1 dL_plays_210 (lv_at hl 1 rfl) ?_
                  obtain ⟨g57, h⟩ := xgd_of h
                  obtain ⟨g58, h⟩ := xgd_of h
                  have f60 := y_qP hG (fy_14_0 hG f40).1 (fy_14_0 hG f40).2.1 (fy_14_0 hG f40).2.2 g57 g58
                  obtain ⟨n59, en59, h⟩ := xlet_of h
                  refine y_aaldq X hG (fy_14_0 hG f40).1 (fy_14_0 hG f40).2.1 (Or.inl rfl) (fy_14_0 hG f40).2.2 g57 (by decide) g58 dL_plays_212 ?_
                  rw [← en59]
                  rw [← en59] at f60
                  obtain ⟨v61, u62, hf, h⟩ := xbd_of h
                  refine y_callVi0 X hG hS (c_X10_time l t _ _ _ _ _ _ hf f40.1 f60) (cwV 3 X.1.2.2.2.2 gL_plays_X10_time rfl rfl rfl hd_X10_time ⟨Nat.le_of_ble_eq_true rfl, Nat.le_of_ble_eq_true rfl⟩) f40.1 f40.2 rfl (by decide) (by rfl) hl.1 (Nat.le_of_ble_eq_true rfl) dL_plays_213 ⟨by decide, by decide⟩ rfl (fun H locs hG hS => ?_)
                  obtain ⟨g63, h⟩ := xgd_of h
                  refine x_icmp_ne (tgt := 263) X g63.1 g63.2 dL_plays_216 (by decide) (fun c64 => ?_) (fun c64 => ?_)
                  · replace h := xif_f h c64
                    refine x_iconst X dL_plays_263 ?_
                    cases h
                    exact hret _ _ _ _ _ _ _ hT (by decide) (by decide) dL_plays_264 (by decide) hG hS
                  · replace h := xif_t h c64
                    refine lv_aload_n X.1.1 X.1.2.1 dL_plays_219 rfl (lv_at hl 3 rfl) ?_
                    refine lv_iload X.1.1 X.1.2.1 dL_plays_220 (lv_at hl 1 rfl) ?_
                    refine x_iconst X dL_plays_222 ?_
                    obtain ⟨v65, u66, hf, h⟩ := xb0_of h
                    refine x_callVTi X hG hS (c_X9_between l hfl t _ _ _ _ _ _ hf) (cwV 2 X.1.2.2.2.2 gL_plays_X9_between rfl rfl rfl hd_X9_between ⟨Nat.le_of_ble_eq_true rfl, Nat.le_of_ble_eq_true rfl⟩) q0.1 q0.2 rfl (by decide) (by rfl) hl.1 (Nat.le_of_ble_eq_true rfl) dL_plays_223 ⟨by decide, by decide⟩ rfl (fun hg H locs ce q9 hG hS h7 h8 h9 => absurd rfl hg) (fun hg H locs hG hS => ?_)
                    refine lv_aload_n X.1.1 X.1.2.1 dL_plays_226 rfl (lv_at hl 5 rfl) ?_
                    refine lv_aload_n X.1.1 X.1.2.1 dL_plays_227 rfl (lv_at hl 5 rfl) ?_
                    refine yN_getr X hG 14 0 264 1 (inC := iX10) rfl f40.1 f40.2 ⟨by decide, by decide, by decide, rfl, by decide, by decide⟩ (x_m 1 rfl) dL_plays_228 ?_
                    refine lv_iload X.1.1 X.1.2.1 dL_plays_231 (lv_at hl 1 rfl) ?_
                    obtain ⟨g67, h⟩ := xgd_of h
                    obtain ⟨g68, h⟩ := xgd_of h
                    have f70 := y_qP hG (fy_14_0 hG f40).1 (fy_14_0 hG f40).2.1 (fy_14_0 hG f40).2.2 g67 g68
                    obtain ⟨n69, en69, h⟩ := xlet_of h
                    refine y_aaldq X hG (fy_14_0 hG f40).1 (fy_14_0 hG f40).2.1 (Or.inl rfl) (fy_14_0 hG f40).2.2 g67 (by decide) g68 dL_plays_233 ?_
                    rw [← en69]
                    rw [← en69] at f70
                    refine yN_geti X hG 16 0 n69 0 (inC := iX12) rfl f70.1 f70.2 ⟨by decide, by decide, by decide, rfl, rfl⟩ (x_m 2 rfl) dL_plays_234 ?_
                    refine lv_aload_n X.1.1 X.1.2.1 dL_plays_237 rfl (lv_at hl 5 rfl) ?_
                    refine yN_getr X hG 14 0 264 1 (inC := iX10) rfl f40.1 f40.2 ⟨by decide, by decide, by decide, rfl, by decide, by decide⟩ (x_m 1 rfl) dL_plays_238 ?_
                    refine lv_iload X.1.1 X.1.2.1 dL_plays_241 (lv_at hl 1 rfl) ?_
                    obtain ⟨g71, h⟩ := xgd_of h
                    obtain ⟨g72, h⟩ := xgd_of h
                    have f74 := y_qP hG (fy_14_0 hG f40).1 (fy_14_0 hG f40).2.1 (fy_14_0 hG f40).2.2 g71 g72
                    obtain ⟨n73, en73, h⟩ := xlet_of h
                    refine y_aaldq X hG (fy_14_0 hG f40).1 (fy_14_0 hG f40).2.1 (Or.inl rfl) (fy_14_0 hG f40).2.2 g71 (by decide) g72 dL_plays_243 ?_
                    rw [← en73]
                    rw [← en73] at f74
                    refine yN_geti X hG 16 1 n73 1 (inC := iX12) rfl f74.1 f74.2 ⟨by decide, by decide, by decide, rfl, rfl⟩ (x_m 3 rfl) dL_plays_244 ?_
                    refine lv_aload_n X.1.1 X.1.2.1 dL_plays_247 rfl (lv_at hl 5 rfl) ?_
                    refine yN_getr X hG 14 0 264 1 (inC := iX10) rfl f40.1 f40.2 ⟨by decide, by decide, by decide, rfl, by decide, by decide⟩ (x_m 1 rfl) dL_plays_248 ?_
                    refine x_iconst X dL_plays_251 ?_
                    obtain ⟨g75, h⟩ := xgd_of h
                    have f77 := y_qP hG (fy_14_0 hG f40).1 (fy_14_0 hG f40).2.1 (fy_14_0 hG f40).2.2 ⟨by decide, by decide⟩ g75
                    obtain ⟨n76, en76, h⟩ := xlet_of h
                    refine y_aaldq X hG (fy_14_0 hG f40).1 (fy_14_0 hG f40).2.1 (Or.inl rfl) (fy_14_0 hG f40).2.2 ⟨by decide, by decide⟩ (by decide) g75 dL_plays_252 ?_
                    rw [← en76]
                    rw [← en76] at f77
                    obtain ⟨v78, u79, hf, h⟩ := xbd_of h
                    refine y_callVi0 X hG hS (c_X10_time l t _ _ _ _ _ _ hf f40.1 f77) (cwV 3 X.1.2.2.2.2 gL_plays_X10_time rfl rfl rfl hd_X10_time ⟨Nat.le_of_ble_eq_true rfl, Nat.le_of_ble_eq_true rfl⟩) f40.1 f40.2 rfl (by decide) (by rfl) hl.1 (Nat.le_of_ble_eq_true rfl) dL_plays_253 ⟨by decide, by decide⟩ rfl (fun H locs hG hS => ?_)
                    obtain ⟨g80, h⟩ := xgd_of h
                    refine x_icmp_ne (tgt := 263) X g80.1 g80.2 dL_plays_256 (by decide) (fun c81 => ?_) (fun c81 => ?_)
                    · replace h := xif_f h c81
                      refine x_iconst X dL_plays_263 ?_
                      cases h
                      exact hret _ _ _ _ _ _ _ hT (by decide) (by decide) dL_plays_264 (by decide) hG hS
                    · replace h := xif_t h c81
                      refine x_iconst X dL_plays_259 ?_
                      refine lv_goto (tgt := 264) X.1.1 X.1.2.1 dL_plays_260 (by decide) ?_
                      cases h
                      exact hret _ _ _ _ _ _ _ hT (by decide) (by decide) dL_plays_264 (by decide) hG hS
            have Lgo82 : ∀ (nf : Nat) (x4_83 : Int) (u84 : uS) q, xl2 (s_L_plays_82 j38) nf x4_83 u84 = some q → ∀ (ck82 cn82 : Nat) (t : gP) (hT : ag 37 264 357 t0 t) (f85 : al t 264 ∧ sT 264 = 14), ((ck82 ≤ 19340 ∧ cn82 ≤ 254398) ∧ (ck82 : Int) + (40 - x4_83) * 480 ≤ ((19340 : Nat) : Int) ∧ (cn82 : Int) + (40 - x4_83) * 4921 ≤ ((254398 : Nat) : Int)) → q = (r, u') → xG p l e rL_plays s m args below meth c t Q 7 ck82 cn82 82 u84 [(4, .int (iI x4_83)), (0, .ref (t.2.2.1 0)), (1, .ref (t.2.2.1 357)), (3, .ref (t.2.2.1 264))] [] := by
              refine xl2_N (F := s_L_plays_82 j38) (fun nf x4_83 u84 q => ∀ (ck82 cn82 : Nat) (t : gP) (hT : ag 37 264 357 t0 t) (f85 : al t 264 ∧ sT 264 = 14), ((ck82 ≤ 19340 ∧ cn82 ≤ 254398) ∧ (ck82 : Int) + (40 - x4_83) * 480 ≤ ((19340 : Nat) : Int) ∧ (cn82 : Int) + (40 - x4_83) * 4921 ≤ ((254398 : Nat) : Int)) → q = (r, u') → xG p l e rL_plays s m args below meth c t Q 7 ck82 cn82 82 u84 [(4, .int (iI x4_83)), (0, .ref (t.2.2.1 0)), (1, .ref (t.2.2.1 357)), (3, .ref (t.2.2.1 264))] []) ?_
              intro nf go82 igo82 x4_83 u84 q h ck82 cn82 t hT f85 hck82 hq H locs ls hG hS hl
              subst hq
              replace X := X0.ag hT (by decide)
              unfold s_L_plays_82 at h
              refine lv_iload X.1.1 X.1.2.1 dL_plays_82 (lv_at hl 0 rfl) ?_
              refine x_bipush X dL_plays_84 (by decide) ?_
              obtain ⟨g86, h⟩ := xgd_of h
              refine x_icmp_ge (tgt := 114) X g86 ⟨by decide, by decide⟩ dL_plays_86 (by decide) (fun c87 => ?_) (fun c87 => ?_)
              · replace h := xif_t h c87
                refine W.widen (k := 19340) (n := 254398) (by omega) (by omega) ?_
                exact Jj38 t hT f85 _ h _ _ _ hG hS (lv_sub hl [1, 2, 3] rfl)
              · replace h := xif_f h c87
                obtain ⟨g88, h⟩ := xgd_of h
                refine lv_aload_n X.1.1 X.1.2.1 dL_plays_89 rfl (lv_at hl 1 rfl) ?_
                refine lv_aload_n X.1.1 X.1.2.1 dL_plays_90 rfl (lv_at hl 3 rfl) ?_
                refine lv_aload_n X.1.1 X.1.2.1 dL_plays_91 rfl (lv_at hl 2 rfl) ?_
                obtain ⟨v89, u90, hf, h⟩ := xbd_of h
                refine y_callSia X hG hS (c_L_acts l hfl t  _ _ _ hf f85.1 (hT.fk (by decide) q357).1) (va_cwS 3 X.1.2.2.2.2 gL_plays_L_acts rfl rfl rfl hds_L_acts ⟨Nat.le_of_ble_eq_true rfl, Nat.le_of_ble_eq_true rfl⟩) (by rfl) hl.1 (Nat.le_of_ble_eq_true rfl) dL_plays_92 ⟨by show ck82 + 0 + 92 ≤ 19345; omega, by show cn82 + 0 + 2937 ≤ 254428; omega⟩ rfl (fun t' H locs hag hG hS => ?_)
                rw [← hag.at (k := 0) (by decide), ← hag.at (k := 357) (by decide), ← hag.at (k := 264) (by decide)] at hl
                have f92 := hag.fk (by decide) f85
                replace X := X.ag hag (by decide)
                replace hT : ag 37 264 357 t0 t' := hT.tr hag (by decide)
                clear hag
                obtain ⟨t, rfl⟩ : ∃ z, z = t' := ⟨_, rfl⟩
                obtain ⟨g93, h⟩ := xgd_of h
                refine x_if_eq (tgt := 106) X g93 dL_plays_95 (by decide) (fun c94 => ?_) (fun c94 => ?_)
                · replace h := xif_t h c94
                  refine x_iconst X dL_plays_106 ?_
                  cases h
                  exact hret _ _ _ _ _ _ _ hT (by omega) (by omega) dL_plays_107 (by decide) hG hS
                · replace h := xif_f h c94
                  refine lv_aload_n X.1.1 X.1.2.1 dL_plays_98 rfl (lv_at hl 1 rfl) ?_
                  refine lv_aload_n X.1.1 X.1.2.1 dL_plays_99 rfl (lv_at hl 3 rfl) ?_
                  obtain ⟨v95, u96, hf, h⟩ := xbd_of h
                  refine y_callSia X hG hS (c_L_agrees l hfl t  _ _ _ hf f92.1) (va_cwS 2 X.1.2.2.2.2 gL_plays_L_agrees rfl rfl rfl hds_L_agrees ⟨Nat.le_of_ble_eq_true rfl, Nat.le_of_ble_eq_true rfl⟩) (by rfl) hl.1 (Nat.le_of_ble_eq_true rfl) dL_plays_100 ⟨by show ck82 + 92 + 388 ≤ 19345; omega, by show cn82 + 2937 + 1984 ≤ 254428; omega⟩ rfl (fun t' H locs hag hG hS => ?_)
                  rw [← hag.at (k := 0) (by decide), ← hag.at (k := 357) (by decide), ← hag.at (k := 264) (by decide)] at hl
                  have f98 := hag.fk (by decide) f92
                  replace X := X.ag hag (by decide)
                  replace hT : ag 37 264 357 t0 t' := hT.tr hag (by decide)
                  clear hag
                  obtain ⟨t, rfl⟩ : ∃ z, z = t' := ⟨_, rfl⟩
                  obtain ⟨g99, h⟩ := xgd_of h
                  refine x_if_ne (tgt := 108) X g99 dL_plays_103 (by decide) (fun c100 => ?_) (fun c100 => ?_)
                  · replace h := xif_f h c100
                    refine lv_iinc (v := (iI (x4_83 + 1))) (lv' := [(4, .int (iI (x4_83 + 1))), (0, .ref (t.2.2.1 0)), (1, .ref (t.2.2.1 357)), (3, .ref (t.2.2.1 264))]) X.1.1 X.1.2.1 dL_plays_108 hl (k := 0) rfl (iI_add _ _) (by decide) rfl (fun ls hl => ?_)
                    refine lv_goto (tgt := 82) X.1.1 X.1.2.1 dL_plays_111 (by decide) ?_
                    exact igo82 _ _ _ h (ck82 + 480) (cn82 + 4921) t hT f98 (by omega) rfl _ _ _ hG hS (lv_sub hl [0, 1, 2, 3] rfl)
                  · replace h := xif_t h c100
                    refine x_iconst X dL_plays_106 ?_
                    cases h
                    exact hret _ _ _ _ _ _ _ hT (by omega) (by omega) dL_plays_107 (by decide) hG hS
            exact Lgo82 41 _ _ _ h 140 57558 t hT f17 (by omega) rfl _ _ _ hG hS (lv_sub hl [0, 3, 4, 1] rfl)
          · replace h := xif_f h c37
            refine x_iconst X dL_plays_77 ?_
            cases h
            exact hret _ _ _ _ _ _ _ hT (by decide) (by decide) dL_plays_78 (by decide) hG hS
theorem hds_L_plays : yL_plays.cls ≠ "java/lang/invoke/MethodHandle" ∧ yL_plays.cls ≠ "java/lang/invoke/VarHandle" ∧ (parseMethodDescriptor yL_plays.desc).map (fun d => d.parameters.length) = some 2 := by decide +kernel
