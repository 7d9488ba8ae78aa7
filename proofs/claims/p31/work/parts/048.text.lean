abbrev rJ7_fill_53178 : Room := { frames := 0, cells := 0, slots := 0, locals := 0 }
set_option maxRecDepth 100000 in
set_option maxHeartbeats 8000000 in
theorem c_J7_fill_53178 (l : Launch) (t : gP) (k0 : Nat) (x1 : Int) (u : uS) (r : Int) (u' : uS) (h : f_J7_fill_53178 k0 x1 u = some (r, u')) : xMv l yJ7_fill_53178 wsJ7_fill_53178 rJ7_fill_53178 t [.ref (t.2.2.1 k0), .int (iI x1)] u u' 0 0 := by
  refine x_ofWv (cc := cJ7_fill_53178) (maxL := 4) (own := RJ7) (by decide) rfl rfl (Nat.le_of_ble_eq_true rfl) ?_
  intro p e s m args below meth c Q X hret H locs ls hG hS hl
  replace hl : lv_has ls 4 [(0, .ref (t.2.2.1 k0)), (1, .int (iI x1))] := hl
  unfold f_J7_fill_53178 at h
  obtain ⟨g1, h⟩ := xgd_of h
  refine x_iconst X dJ7_fill_53178_0 ?_
  refine lv_istore_n (lv' := [(2, .int (iI 0)), (0, .ref (t.2.2.1 k0)), (1, .int (iI x1))]) X.1.1 X.1.2.1 dJ7_fill_53178_1 rfl hl (by decide) rfl (fun ls hl => ?_)
  refine lv_aload_n X.1.1 X.1.2.1 dJ7_fill_53178_2 rfl (lv_at hl 1 rfl) ?_
  refine x_alen X hG (arr_f g1).1 (arr_f g1).2.1 (arr_f g1).2.2 dJ7_fill_53178_3 ?_
  refine x_name (fun x3_2 ex3_2 => ?_)
  replace h := xlet_at ex3_2 h
  refine lv_istore_n (lv' := [(3, .int (iI x3_2)), (2, .int (iI 0)), (0, .ref (t.2.2.1 k0)), (1, .int (iI x1))]) X.1.1 X.1.2.1 dJ7_fill_53178_4 rfl hl (by decide) rfl (fun ls hl => ?_)
  have Lgo3 : ∀ (n : Nat) (x2_4 : Int) (u5 : uS), xl2 (s_J7_fill_53178_5 x3_2 k0 x1) n x2_4 u5 = some (r, u') → xG p l e rJ7_fill_53178 s m args below meth c t Q 4 0 0 5 u5 [(2, .int (iI x2_4)), (0, .ref (t.2.2.1 k0)), (1, .int (iI x1)), (3, .int (iI x3_2))] [] := by
    intro n x2_4 u5 h
    refine xl2_W (F := s_J7_fill_53178_5 x3_2 k0 x1) (fun x2_4 u5 q => q = (r, u') → xG p l e rJ7_fill_53178 s m args below meth c t Q 4 0 0 5 u5 [(2, .int (iI x2_4)), (0, .ref (t.2.2.1 k0)), (1, .int (iI x1)), (3, .int (iI x3_2))] []) ?_ n x2_4 u5 _ h rfl
    intro go3 igo3 x2_4 u5 q h hq H locs ls hG hS hl
    subst hq
    unfold s_J7_fill_53178_5 at h
    refine lv_iload_n X.1.1 X.1.2.1 dJ7_fill_53178_5 rfl (lv_at hl 0 rfl) ?_
    refine lv_iload_n X.1.1 X.1.2.1 dJ7_fill_53178_6 rfl (lv_at hl 3 rfl) ?_
    obtain ⟨g6, h⟩ := xgd_of h
    refine x_icmp_ge (tgt := 20) X g6.1 g6.2 dJ7_fill_53178_7 (by decide) (fun c7 => ?_) (fun c7 => ?_)
    · replace h := xif_t h c7
      cases h
      exact hret _ _ _ _ dJ7_fill_53178_20 hG hS
    · replace h := xif_f h c7
      refine lv_aload_n X.1.1 X.1.2.1 dJ7_fill_53178_10 rfl (lv_at hl 1 rfl) ?_
      refine lv_iload_n X.1.1 X.1.2.1 dJ7_fill_53178_11 rfl (lv_at hl 0 rfl) ?_
      refine lv_iload_n X.1.1 X.1.2.1 dJ7_fill_53178_12 rfl (lv_at hl 2 rfl) ?_
      obtain ⟨g8, h⟩ := xgd_of h
      refine x_iast X hG hS (arr_f g1).1 (arr_f g1).2.1 (arr_f g1).2.2 g8 (sN_lt _) dJ7_fill_53178_13 (fun H locs hG hS => ?_)
      obtain ⟨u9, eu9, h⟩ := xlet_of h
      replace hG : G t u9 H := by rw [eu9]; exact hG
      refine lv_iinc (v := (iI (x2_4 + 1))) (lv' := [(2, .int (iI (x2_4 + 1))), (0, .ref (t.2.2.1 k0)), (1, .int (iI x1)), (3, .int (iI x3_2))]) X.1.1 X.1.2.1 dJ7_fill_53178_14 hl (k := 0) rfl (iI_add _ _) (by decide) rfl (fun ls hl => ?_)
      refine lv_goto (tgt := 5) X.1.1 X.1.2.1 dJ7_fill_53178_17 (by decide) ?_
      exact igo3 _ _ _ h rfl _ _ _ hG hS (lv_sub hl [0, 1, 2, 3] rfl)
  exact Lgo3 FU _ _ h _ _ _ hG hS (lv_sub hl [1, 2, 3, 0] rfl)
theorem hds_J7_fill_53178 : yJ7_fill_53178.cls ≠ "java/lang/invoke/MethodHandle" ∧ yJ7_fill_53178.cls ≠ "java/lang/invoke/VarHandle" ∧ (parseMethodDescriptor yJ7_fill_53178.desc).map (fun d => d.parameters.length) = some 2 := by decide +kernel
abbrev rX1_wordOf : Room := { frames := 0, cells := 0, slots := 0, locals := 0 }
set_option maxRecDepth 100000 in
set_option maxHeartbeats 8000000 in
theorem c_X1_wordOf (l : Launch) (t : gP) (x0 : Int) (u : uS) (r : Int) (u' : uS) (h : f_X1_wordOf x0 u = some (r, u')) : xMs l yX1_wordOf wsX1_wordOf rX1_wordOf t [.int (iI x0)] u r u' 0 0 := by
  refine x_ofWs (cc := cX1_wordOf) (maxL := 1) (own := RX1) (by decide) rfl rfl (Nat.le_of_ble_eq_true rfl) ?_
  intro p e s m args below meth c Q X hret H locs ls hG hS hl
  replace hl : lv_has ls 1 [(0, .int (iI x0))] := hl
  unfold f_X1_wordOf at h
  refine lv_iload_n X.1.1 X.1.2.1 dX1_wordOf_0 rfl (lv_at hl 0 rfl) ?_
  obtain ⟨g1, h⟩ := xgd_of h
  rcases Decidable.em (x0 < 0 ∨ 7 < x0) with c2 | c2
  · replace h := xif_t h c2
    refine x_tblO (tgt := 72) X g1 dX1_wordOf_1 c2 (by decide) ?_
    refine x_lds X (x_m 8 rfl) dX1_wordOf_72 ?_
    cases h
    exact hret _ _ _ _ dX1_wordOf_74 hG hS
  · replace h := xif_f h c2
    rcases Decidable.em (x0 = 0) with c3 | c3
    · replace h := xif_t h c3
      refine x_tblI (v := 0) (tgt := 48) X c3 (by decide) ⟨by decide, by decide⟩ dX1_wordOf_1 rfl (by decide) ?_
      refine x_lds X (x_m 0 rfl) dX1_wordOf_48 ?_
      cases h
      exact hret _ _ _ _ dX1_wordOf_50 hG hS
    replace h := xif_f h c3
    rcases Decidable.em (x0 = 1) with c4 | c4
    · replace h := xif_t h c4
      refine x_tblI (v := 1) (tgt := 51) X c4 (by decide) ⟨by decide, by decide⟩ dX1_wordOf_1 rfl (by decide) ?_
      refine x_lds X (x_m 1 rfl) dX1_wordOf_51 ?_
      cases h
      exact hret _ _ _ _ dX1_wordOf_53 hG hS
    replace h := xif_f h c4
    rcases Decidable.em (x0 = 2) with c5 | c5
    · replace h := xif_t h c5
      refine x_tblI (v := 2) (tgt := 54) X c5 (by decide) ⟨by decide, by decide⟩ dX1_wordOf_1 rfl (by decide) ?_
      refine x_lds X (x_m 2 rfl) dX1_wordOf_54 ?_
      cases h
      exact hret _ _ _ _ dX1_wordOf_56 hG hS
    replace h := xif_f h c5
    rcases Decidable.em (x0 = 3) with c6 | c6
    · replace h := xif_t h c6
      refine x_tblI (v := 3) (tgt := 57) X c6 (by decide) ⟨by decide, by decide⟩ dX1_wordOf_1 rfl (by decide) ?_
      refine x_lds X (x_m 3 rfl) dX1_wordOf_57 ?_
      cases h
      exact hret _ _ _ _ dX1_wordOf_59 hG hS
    replace h := xif_f h c6
    rcases Decidable.em (x0 = 4) with c7 | c7
    · replace h := xif_t h c7
      refine x_tblI (v := 4) (tgt := 60) X c7 (by decide) ⟨by decide, by decide⟩ dX1_wordOf_1 rfl (by decide) ?_
      refine x_lds X (x_m 4 rfl) dX1_wordOf_60 ?_
      cases h
      exact hret _ _ _ _ dX1_wordOf_62 hG hS
    replace h := xif_f h c7
    rcases Decidable.em (x0 = 5) with c8 | c8
    · replace h := xif_t h c8
      refine x_tblI (v := 5) (tgt := 63) X c8 (by decide) ⟨by decide, by decide⟩ dX1_wordOf_1 rfl (by decide) ?_
      refine x_lds X (x_m 5 rfl) dX1_wordOf_63 ?_
      cases h
      exact hret _ _ _ _ dX1_wordOf_65 hG hS
    replace h := xif_f h c8
    rcases Decidable.em (x0 = 6) with c9 | c9
    · replace h := xif_t h c9
      refine x_tblI (v := 6) (tgt := 66) X c9 (by decide) ⟨by decide, by decide⟩ dX1_wordOf_1 rfl (by decide) ?_
      refine x_lds X (x_m 6 rfl) dX1_wordOf_66 ?_
      cases h
      exact hret _ _ _ _ dX1_wordOf_68 hG hS
    replace h := xif_f h c9
    rcases Decidable.em (x0 = 7) with c10 | c10
    · replace h := xif_t h c10
      refine x_tblI (v := 7) (tgt := 69) X c10 (by decide) ⟨by decide, by decide⟩ dX1_wordOf_1 rfl (by decide) ?_
      refine x_lds X (x_m 7 rfl) dX1_wordOf_69 ?_
      cases h
      exact hret _ _ _ _ dX1_wordOf_71 hG hS
    replace h := xif_f h c10
    cases h
theorem hds_X1_wordOf : yX1_wordOf.cls ≠ "java/lang/invoke/MethodHandle" ∧ yX1_wordOf.cls ≠ "java/lang/invoke/VarHandle" ∧ (parseMethodDescriptor yX1_wordOf.desc).map (fun d => d.parameters.length) = some 1 := by decide +kernel
abbrev rX8_spells : Room := { frames := 4, cells := 0, slots := 0, locals := 111 }
set_option maxRecDepth 100000 in
set_option maxHeartbeats 8000000 in
theorem c_X8_spells (l : Launch) (t : gP) (x1 : Int) (k2 : Nat) (k3 : Nat) (u : uS) (r : Int) (u' : uS) (h : f_X8_spells x1 k2 k3 u = some (r, u')) : xMi l yX8_spells wsX8_spells rX8_spells t [.ref (t.2.2.1 3), .int (iI x1), .ref (t.2.2.1 k2), .ref (t.2.2.1 k3)] u r u' 0 0 := by
  refine x_ofWi (cc := cX8_spells) (maxL := 6) (ret := .boolean) (own := RX8) (by decide) rfl rfl (Nat.le_of_ble_eq_true rfl) ?_
  intro p e s m args below meth c Q X hret H locs ls hG hS hl
  replace hl : lv_has ls 6 [(0, .ref (t.2.2.1 3)), (1, .int (iI x1)), (2, .ref (t.2.2.1 k2)), (3, .ref (t.2.2.1 k3))] := hl
  have q3 : 3 < NN ∧ sT 3 = 12 := by decide
  have iX8 : ∀ w ∈ wsX80, w ∈ wsX8_spells := by decide +kernel
  have w1 : Cond.fieldLink RX8 24 "TriggerNetwork$Tokens" "count" "I" ∈ wsX8_spells := x_w 1 rfl
  have w2 : Cond.fieldLink RX8 18 "TriggerNetwork$Tokens" "lengths" "[I" ∈ wsX8_spells := x_w 2 rfl
  have q6 : 6 < NN ∧ sT 6 = 100 ∧ sN 6 = 500 := by decide
  have w3 : Cond.fieldLink RX8 15 "TriggerNetwork$Tokens" "starts" "[I" ∈ wsX8_spells := x_w 3 rfl
  have q5 : 5 < NN ∧ sT 5 = 100 ∧ sN 5 = 500 := by decide
  unfold f_X8_spells at h
  obtain ⟨g1, h⟩ := xgd_of h
  refine lv_iload_n X.1.1 X.1.2.1 dX8_spells_0 rfl (lv_at hl 1 rfl) ?_
  obtain ⟨g2, h⟩ := xgd_of h
  refine x_if_lt (tgt := 25) X g2 dX8_spells_1 (by decide) (fun c3 => ?_) (fun c3 => ?_)
  · replace h := xif_t h c3
    refine x_iconst X dX8_spells_25 ?_
    cases h
    exact hret _ _ _ _ dX8_spells_26 (by decide) hG hS
  · replace h := xif_f h c3
    refine lv_iload_n X.1.1 X.1.2.1 dX8_spells_4 rfl (lv_at hl 1 rfl) ?_
    refine lv_aload_n X.1.1 X.1.2.1 dX8_spells_5 rfl (lv_at hl 0 rfl) ?_
    refine x_geti X hG 12 0 3 0 (inC := iX8) rfl q3.1 q3.2 ⟨by decide, by decide, by decide, rfl, rfl⟩ w1 dX8_spells_6 ?_
    obtain ⟨g4, h⟩ := xgd_of h
    refine x_icmp_ge (tgt := 25) X g4.1 g4.2 dX8_spells_9 (by decide) (fun c5 => ?_) (fun c5 => ?_)
    · replace h := xif_t h c5
      refine x_iconst X dX8_spells_25 ?_
      cases h
      exact hret _ _ _ _ dX8_spells_26 (by decide) hG hS
    · replace h := xif_f h c5
      refine lv_aload_n X.1.1 X.1.2.1 dX8_spells_12 rfl (lv_at hl 0 rfl) ?_
      refine x_getr X hG 12 3 3 3 (inC := iX8) rfl q3.1 q3.2 ⟨by decide, by decide, by decide, rfl, by decide, by decide⟩ w2 dX8_spells_13 ?_
      refine lv_iload_n X.1.1 X.1.2.1 dX8_spells_16 rfl (lv_at hl 1 rfl) ?_
      obtain ⟨g6, h⟩ := xgd_of h
      refine x_iald X hG q6.1 q6.2.1 (n := 500) q6.2.2 g6 (by decide) dX8_spells_17 ?_
      refine lv_aload_n X.1.1 X.1.2.1 dX8_spells_18 rfl (lv_at hl 3 rfl) ?_
      obtain ⟨v7, u8, hf, h⟩ := xbd_of h
      refine x_callSti0 X hG hS (c_J0_length_8abf5 l t _ _ _ _ hf) (cwV 0 X.1.2.2.2.2 gX8_spells_J0_length_8abf5 rfl rfl rfl hd_J0_length_8abf5 ⟨Nat.le_of_ble_eq_true rfl, Nat.le_of_ble_eq_true rfl⟩) g1.2 (by rfl) hl.1 (Nat.le_of_ble_eq_true rfl) dX8_spells_19 ⟨by decide, by decide⟩ rfl (fun H locs hG hS => ?_)
      obtain ⟨g9, h⟩ := xgd_of h
      refine x_icmp_eq (tgt := 27) X g9.1 g9.2 dX8_spells_22 (by decide) (fun c10 => ?_) (fun c10 => ?_)
      · replace h := xif_t h c10
        refine x_iconst X dX8_spells_27 ?_
        refine lv_istore (lv' := [(4, .int (iI 0)), (0, .ref (t.2.2.1 3)), (1, .int (iI x1)), (2, .ref (t.2.2.1 k2)), (3, .ref (t.2.2.1 k3))]) X.1.1 X.1.2.1 dX8_spells_28 hl (by decide) rfl (fun ls hl => ?_)
        have Lgo11 : ∀ (n : Nat) (x4_12 : Int) (u13 : uS), xl2 (s_X8_spells_30 k3 x1 k2) n x4_12 u13 = some (r, u') → xG p l e rX8_spells s m args below meth c t Q 6 0 0 30 u13 [(4, .int (iI x4_12)), (0, .ref (t.2.2.1 3)), (1, .int (iI x1)), (2, .ref (t.2.2.1 k2)), (3, .ref (t.2.2.1 k3))] [] := by
          intro n x4_12 u13 h
          refine xl2_W (F := s_X8_spells_30 k3 x1 k2) (fun x4_12 u13 q => q = (r, u') → xG p l e rX8_spells s m args below meth c t Q 6 0 0 30 u13 [(4, .int (iI x4_12)), (0, .ref (t.2.2.1 3)), (1, .int (iI x1)), (2, .ref (t.2.2.1 k2)), (3, .ref (t.2.2.1 k3))] []) ?_ n x4_12 u13 _ h rfl
          intro go11 igo11 x4_12 u13 q h hq H locs ls hG hS hl
          subst hq
          unfold s_X8_spells_30 at h
          refine lv_iload X.1.1 X.1.2.1 dX8_spells_30 (lv_at hl 0 rfl) ?_
          refine lv_aload_n X.1.1 X.1.2.1 dX8_spells_32 rfl (lv_at hl 4 rfl) ?_
          obtain ⟨v14, u15, hf, h⟩ := xbd_of h
          refine x_callSti0 X hG hS (c_J0_length_8abf5 l t _ _ _ _ hf) (cwV 0 X.1.2.2.2.2 gX8_spells_J0_length_8abf5 rfl rfl rfl hd_J0_length_8abf5 ⟨Nat.le_of_ble_eq_true rfl, Nat.le_of_ble_eq_true rfl⟩) g1.2 (by rfl) hl.1 (Nat.le_of_ble_eq_true rfl) dX8_spells_33 ⟨by decide, by decide⟩ rfl (fun H locs hG hS => ?_)
          obtain ⟨g16, h⟩ := xgd_of h
          refine x_icmp_ge (tgt := 83) X g16.1 g16.2 dX8_spells_36 (by decide) (fun c17 => ?_) (fun c17 => ?_)
          · replace h := xif_t h c17
            refine x_iconst X dX8_spells_83 ?_
            cases h
            exact hret _ _ _ _ dX8_spells_84 (by decide) hG hS
          · replace h := xif_f h c17
            refine lv_aload_n X.1.1 X.1.2.1 dX8_spells_39 rfl (lv_at hl 1 rfl) ?_
            refine x_getr X hG 12 2 3 2 (inC := iX8) rfl q3.1 q3.2 ⟨by decide, by decide, by decide, rfl, by decide, by decide⟩ w3 dX8_spells_40 ?_
            refine lv_iload_n X.1.1 X.1.2.1 dX8_spells_43 rfl (lv_at hl 2 rfl) ?_
            obtain ⟨g18, h⟩ := xgd_of h
            refine x_iald X hG q5.1 q5.2.1 (n := 500) q5.2.2 g18 (by decide) dX8_spells_44 ?_
            refine lv_iload X.1.1 X.1.2.1 dX8_spells_45 (lv_at hl 0 rfl) ?_
            refine x_iadd X dX8_spells_47 ?_
            refine x_name (fun x5_19 ex5_19 => ?_)
            replace h := xlet_at ex5_19 h
            refine lv_istore (lv' := [(5, .int (iI x5_19)), (4, .int (iI x4_12)), (0, .ref (t.2.2.1 3)), (1, .int (iI x1)), (2, .ref (t.2.2.1 k2)), (3, .ref (t.2.2.1 k3))]) X.1.1 X.1.2.1 dX8_spells_48 hl (by decide) rfl (fun ls hl => ?_)
            refine lv_iload X.1.1 X.1.2.1 dX8_spells_50 (lv_at hl 0 rfl) ?_
            obtain ⟨g20, h⟩ := xgd_of h
            refine x_if_lt (tgt := 75) X g20 dX8_spells_52 (by decide) (fun c21 => ?_) (fun c21 => ?_)
            · replace h := xif_t h c21
              refine x_iconst X dX8_spells_75 ?_
              cases h
              exact hret _ _ _ _ dX8_spells_76 (by decide) hG hS
            · replace h := xif_f h c21
              refine lv_iload X.1.1 X.1.2.1 dX8_spells_55 (lv_at hl 0 rfl) ?_
              refine lv_aload_n X.1.1 X.1.2.1 dX8_spells_57 rfl (lv_at hl 4 rfl) ?_
              refine x_alen X hG (arr_f g1.1).1 (arr_f g1.1).2.1 (arr_f g1.1).2.2 dX8_spells_58 ?_
              obtain ⟨g22, h⟩ := xgd_of h
              refine x_icmp_ge (tgt := 75) X g22.1 g22.2 dX8_spells_59 (by decide) (fun c23 => ?_) (fun c23 => ?_)
              · replace h := xif_t h c23
                refine x_iconst X dX8_spells_75 ?_
                cases h
                exact hret _ _ _ _ dX8_spells_76 (by decide) hG hS
              · replace h := xif_f h c23
                refine lv_aload_n X.1.1 X.1.2.1 dX8_spells_62 rfl (lv_at hl 4 rfl) ?_
                refine lv_iload X.1.1 X.1.2.1 dX8_spells_63 (lv_at hl 0 rfl) ?_
                obtain ⟨g24, h⟩ := xgd_of h
                refine x_iald X hG (arr_f g1.1).1 (arr_f g1.1).2.1 (arr_f g1.1).2.2 g24 (sN_lt _) dX8_spells_65 ?_
                refine lv_aload_n X.1.1 X.1.2.1 dX8_spells_66 rfl (lv_at hl 5 rfl) ?_
                refine lv_iload X.1.1 X.1.2.1 dX8_spells_67 (lv_at hl 1 rfl) ?_
                obtain ⟨v25, u26, hf, h⟩ := xbd_of h
                refine x_callSti0 X hG hS (c_J0_charAt_5068e l t _ _ _ _ _ hf) (cwV 1 X.1.2.2.2.2 gX8_spells_J0_charAt_5068e rfl rfl rfl hd_J0_charAt_5068e ⟨Nat.le_of_ble_eq_true rfl, Nat.le_of_ble_eq_true rfl⟩) g1.2 (by rfl) hl.1 (Nat.le_of_ble_eq_true rfl) dX8_spells_69 ⟨by decide, by decide⟩ rfl (fun H locs hG hS => ?_)
                obtain ⟨g27, h⟩ := xgd_of h
                refine x_icmp_eq (tgt := 77) X g27.1 g27.2 dX8_spells_72 (by decide) (fun c28 => ?_) (fun c28 => ?_)
                · replace h := xif_t h c28
                  refine lv_iinc (v := (iI (x4_12 + 1))) (lv' := [(4, .int (iI (x4_12 + 1))), (5, .int (iI x5_19)), (0, .ref (t.2.2.1 3)), (1, .int (iI x1)), (2, .ref (t.2.2.1 k2)), (3, .ref (t.2.2.1 k3))]) X.1.1 X.1.2.1 dX8_spells_77 hl (k := 1) rfl (iI_add _ _) (by decide) rfl (fun ls hl => ?_)
                  refine lv_goto (tgt := 30) X.1.1 X.1.2.1 dX8_spells_80 (by decide) ?_
                  exact igo11 _ _ _ h rfl _ _ _ hG hS (lv_sub hl [0, 2, 3, 4, 5] rfl)
                · replace h := xif_f h c28
                  refine x_iconst X dX8_spells_75 ?_
                  cases h
                  exact hret _ _ _ _ dX8_spells_76 (by decide) hG hS
        exact Lgo11 FU _ _ h _ _ _ hG hS (lv_sub hl [0, 1, 2, 3, 4] rfl)
      · replace h := xif_f h c10
        refine x_iconst X dX8_spells_25 ?_
        cases h
        exact hret _ _ _ _ dX8_spells_26 (by decide) hG hS
theorem hd_X8_spells : yX8_spells.cls = RX8 ∧ yX8_spells.cls ≠ "java/lang/invoke/MethodHandle" ∧ yX8_spells.cls ≠ "java/lang/invoke/VarHandle" ∧ (parseMethodDescriptor yX8_spells.desc).map (fun d => d.parameters.length) = some 3 := by decide +kernel
abbrev rX1_sortOf : Room := { frames := 5, cells := 0, slots := 0, locals := 136 }
set_option maxRecDepth 100000 in
set_option maxHeartbeats 8000000 in
theorem c_X1_sortOf (l : Launch) (t : gP) (x1 : Int) (k2 : Nat) (u : uS) (r : Int) (u' : uS) (h : f_X1_sortOf x1 k2 u = some (r, u')) : xMi l yX1_sortOf wsX1_sortOf rX1_sortOf t [.ref (t.2.2.1 2), .int (iI x1), .ref (t.2.2.1 k2)] u r u' 0 0 := by
  refine x_ofWi (cc := cX1_sortOf) (maxL := 4) (ret := .int) (own := RX1) (by decide) rfl rfl (Nat.le_of_ble_eq_true rfl) ?_
  intro p e s m args below meth c Q X hret H locs ls hG hS hl
  replace hl : lv_has ls 4 [(0, .ref (t.2.2.1 2)), (1, .int (iI x1)), (2, .ref (t.2.2.1 k2))] := hl
  have q2 : 2 < NN ∧ sT 2 = 5 := by decide
  have iX1 : ∀ w ∈ wsX10, w ∈ wsX1_sortOf := by decide +kernel
  have w1 : Cond.fieldLink RX1 18 "TriggerNetwork$Grammar" "tokens" "LTriggerNetwork$Tokens;" ∈ wsX1_sortOf := x_w 1 rfl
  have q3 : 3 < NN ∧ sT 3 = 12 := by decide
  unfold f_X1_sortOf at h
  obtain ⟨g1, h⟩ := xgd_of h
  refine x_iconst X dX1_sortOf_0 ?_
  refine lv_istore_n (lv' := [(3, .int (iI 0)), (0, .ref (t.2.2.1 2)), (1, .int (iI x1)), (2, .ref (t.2.2.1 k2))]) X.1.1 X.1.2.1 dX1_sortOf_1 rfl hl (by decide) rfl (fun ls hl => ?_)
  have Lgo2 : ∀ (n : Nat) (x3_3 : Int) (u4 : uS), xl2 (s_X1_sortOf_2 x1 k2) n x3_3 u4 = some (r, u') → xG p l e rX1_sortOf s m args below meth c t Q 4 0 0 2 u4 [(3, .int (iI x3_3)), (0, .ref (t.2.2.1 2)), (1, .int (iI x1)), (2, .ref (t.2.2.1 k2))] [] := by
    intro n x3_3 u4 h
    refine xl2_W (F := s_X1_sortOf_2 x1 k2) (fun x3_3 u4 q => q = (r, u') → xG p l e rX1_sortOf s m args below meth c t Q 4 0 0 2 u4 [(3, .int (iI x3_3)), (0, .ref (t.2.2.1 2)), (1, .int (iI x1)), (2, .ref (t.2.2.1 k2))] []) ?_ n x3_3 u4 _ h rfl
    intro go2 igo2 x3_3 u4 q h hq H locs ls hG hS hl
    subst hq
    unfold s_X1_sortOf_2 at h
    refine lv_iload_n X.1.1 X.1.2.1 dX1_sortOf_2 rfl (lv_at hl 0 rfl) ?_
    refine x_bipush X dX1_sortOf_3 (by decide) ?_
    obtain ⟨g5, h⟩ := xgd_of h
    refine x_icmp_ge (tgt := 32) X g5 ⟨by decide, by decide⟩ dX1_sortOf_5 (by decide) (fun c6 => ?_) (fun c6 => ?_)
    · replace h := xif_t h c6
      refine x_iconst X dX1_sortOf_32 ?_
      cases h
      exact hret _ _ _ _ dX1_sortOf_33 rfl hG hS
    · replace h := xif_f h c6
      refine lv_aload_n X.1.1 X.1.2.1 dX1_sortOf_8 rfl (lv_at hl 1 rfl) ?_
      refine x_getr X hG 5 1 2 1 (inC := iX1) rfl q2.1 q2.2 ⟨by decide, by decide, by decide, rfl, by decide, by decide⟩ w1 dX1_sortOf_9 ?_
      refine lv_iload_n X.1.1 X.1.2.1 dX1_sortOf_12 rfl (lv_at hl 2 rfl) ?_
      refine lv_aload_n X.1.1 X.1.2.1 dX1_sortOf_13 rfl (lv_at hl 3 rfl) ?_
      refine lv_iload_n X.1.1 X.1.2.1 dX1_sortOf_14 rfl (lv_at hl 0 rfl) ?_
      obtain ⟨v7, u8, hf, h⟩ := xbd_of h
      refine x_callSs0 X hG hS (c_X1_wordOf l t _ _ _ _ hf) (va_cwS 1 X.1.2.2.2.2 gX1_sortOf_X1_wordOf rfl rfl rfl hds_X1_wordOf ⟨Nat.le_of_ble_eq_true rfl, Nat.le_of_ble_eq_true rfl⟩) (by rfl) hl.1 (Nat.le_of_ble_eq_true rfl) dX1_sortOf_15 ⟨by decide, by decide⟩ rfl (fun H locs hG hS => ?_)
      obtain ⟨g9, h⟩ := xgd_of h
      obtain ⟨v10, u11, hf, h⟩ := xbd_of h
      refine x_callVi0 X hG hS (c_X8_spells l t _ _ _ _ _ _ hf) (cwV 3 X.1.2.2.2.2 gX1_sortOf_X8_spells rfl rfl rfl hd_X8_spells ⟨Nat.le_of_ble_eq_true rfl, Nat.le_of_ble_eq_true rfl⟩) q3.1 q3.2 rfl (by decide) (by rfl) hl.1 (Nat.le_of_ble_eq_true rfl) dX1_sortOf_18 ⟨by decide, by decide⟩ rfl (fun H locs hG hS => ?_)
      obtain ⟨g12, h⟩ := xgd_of h
      refine x_if_eq (tgt := 26) X g12 dX1_sortOf_21 (by decide) (fun c13 => ?_) (fun c13 => ?_)
      · replace h := xif_t h c13
        refine lv_iinc (v := (iI (x3_3 + 1))) (lv' := [(3, .int (iI (x3_3 + 1))), (0, .ref (t.2.2.1 2)), (1, .int (iI x1)), (2, .ref (t.2.2.1 k2))]) X.1.1 X.1.2.1 dX1_sortOf_26 hl (k := 0) rfl (iI_add _ _) (by decide) rfl (fun ls hl => ?_)
        refine lv_goto (tgt := 2) X.1.1 X.1.2.1 dX1_sortOf_29 (by decide) ?_
        exact igo2 _ _ _ h rfl _ _ _ hG hS (lv_sub hl [0, 1, 2, 3] rfl)
      · replace h := xif_f h c13
        refine lv_iload_n X.1.1 X.1.2.1 dX1_sortOf_24 rfl (lv_at hl 0 rfl) ?_
        cases h
        exact hret _ _ _ _ dX1_sortOf_25 rfl hG hS
  exact Lgo2 FU _ _ h _ _ _ hG hS (lv_sub hl [0, 1, 2, 3] rfl)
theorem hd_X1_sortOf : yX1_sortOf.cls = RX1 ∧ yX1_sortOf.cls ≠ "java/lang/invoke/MethodHandle" ∧ yX1_sortOf.cls ≠ "java/lang/invoke/VarHandle" ∧ (parseMethodDescriptor yX1_sortOf.desc).map (fun d => d.parameters.length) = some 2 := by decide +kernel
abbrev rX1_begin : Room := { frames := 6, cells := 0, slots := 0, locals := 159 }
set_option maxRecDepth 100000 in
set_option maxHeartbeats 8000000 in
theorem c_X1_begin (l : Launch) (t : gP) (x1 : Int) (k2 : Nat) (u : uS) (r : Int) (u' : uS) (h : f_X1_begin x1 k2 u = some (r, u')) : xMi l yX1_begin wsX1_begin rX1_begin t [.ref (t.2.2.1 2), .int (iI x1), .ref (t.2.2.1 k2)] u r u' 0 0 := by
  refine x_ofWi (cc := cX1_begin) (maxL := 4) (ret := .int) (own := RX1) (by decide) rfl rfl (Nat.le_of_ble_eq_true rfl) ?_
  intro p e s m args below meth c Q X hret H locs ls hG hS hl
  replace hl : lv_has ls 4 [(0, .ref (t.2.2.1 2)), (1, .int (iI x1)), (2, .ref (t.2.2.1 k2))] := hl
  have q2 : 2 < NN ∧ sT 2 = 5 := by decide
  have iX1 : ∀ w ∈ wsX10, w ∈ wsX1_begin := by decide +kernel
  have w1 : Cond.fieldLink RX1 18 "TriggerNetwork$Grammar" "tokens" "LTriggerNetwork$Tokens;" ∈ wsX1_begin := x_w 1 rfl
  have q3 : 3 < NN ∧ sT 3 = 12 := by decide
  have iX8 : ∀ w ∈ wsX80, w ∈ wsX1_begin := by decide +kernel
  have w2 : Cond.fieldLink RX1 73 "TriggerNetwork$Tokens" "kinds" "[I" ∈ wsX1_begin := x_w 2 rfl
  have q4 : 4 < NN ∧ sT 4 = 100 ∧ sN 4 = 500 := by decide
  have w3 : Cond.fieldLink RX1 22 "TriggerNetwork$Grammar" "counts" "[I" ∈ wsX1_begin := x_w 3 rfl
  have q8 : 8 < NN ∧ sT 8 = 100 ∧ sN 8 = 9 := by decide
  obtain ⟨aMOST, zMOST, yMOST⟩ := X.2.2.1.2.1 _ (x_m 1 rfl)
  have w4 : Cond.fieldLink RX1 83 "TriggerNetwork$Grammar" "MOST" "[I" ∈ wsX1_begin := x_w 4 rfl
  have w5 : Cond.fieldLink RX1 40 "TriggerNetwork$Grammar" "sort" "I" ∈ wsX1_begin := x_w 5 rfl
  have w6 : Cond.fieldLink RX1 63 "TriggerNetwork$Grammar" "itemCount" "I" ∈ wsX1_begin := x_w 6 rfl
  unfold f_X1_begin at h
  obtain ⟨g1, h⟩ := xgd_of h
  refine lv_aload_n X.1.1 X.1.2.1 dX1_begin_0 rfl (lv_at hl 0 rfl) ?_
  refine x_getr X hG 5 1 2 1 (inC := iX1) rfl q2.1 q2.2 ⟨by decide, by decide, by decide, rfl, by decide, by decide⟩ w1 dX1_begin_1 ?_
  refine x_getr X hG 12 1 3 1 (inC := iX8) rfl q3.1 q3.2 ⟨by decide, by decide, by decide, rfl, by decide, by decide⟩ w2 dX1_begin_4 ?_
  refine lv_iload_n X.1.1 X.1.2.1 dX1_begin_7 rfl (lv_at hl 1 rfl) ?_
  obtain ⟨g2, h⟩ := xgd_of h
  refine x_iald X hG q4.1 q4.2.1 (n := 500) q4.2.2 g2 (by decide) dX1_begin_8 ?_
  refine x_iconst X dX1_begin_9 ?_
  obtain ⟨g3, h⟩ := xgd_of h
  obtain ⟨j4, ej4, h⟩ := xlet_of h
  have Jj4 : ∀ (s5 : Int) (u6 : uS), j4 s5 u6 = some (r, u') → xG p l e rX1_begin s m args below meth c t Q 4 0 0 23 u6 [(0, .ref (t.2.2.1 2))] [.int (iI s5)] := by
      intro s5 u6 h H locs ls hG hS hl
      replace h := (congrFun (congrFun ej4 s5) u6).symm.trans h
      refine lv_istore_n (lv' := [(3, .int (iI s5)), (0, .ref (t.2.2.1 2))]) X.1.1 X.1.2.1 dX1_begin_23 rfl hl (by decide) rfl (fun ls hl => ?_)
      refine lv_iload_n X.1.1 X.1.2.1 dX1_begin_24 rfl (lv_at hl 0 rfl) ?_
      refine x_iconst X dX1_begin_25 ?_
      obtain ⟨g7, h⟩ := xgd_of h
      refine x_icmp_ne (tgt := 31) X g7 ⟨by decide, by decide⟩ dX1_begin_26 (by decide) (fun c8 => ?_) (fun c8 => ?_)
      · replace h := xif_f h c8
        refine lv_aload_n X.1.1 X.1.2.1 dX1_begin_31 rfl (lv_at hl 1 rfl) ?_
        refine x_getr X hG 5 2 2 6 (inC := iX1) rfl q2.1 q2.2 ⟨by decide, by decide, by decide, rfl, by decide, by decide⟩ w3 dX1_begin_32 ?_
        refine lv_iload_n X.1.1 X.1.2.1 dX1_begin_35 rfl (lv_at hl 0 rfl) ?_
        obtain ⟨g9, h⟩ := xgd_of h
        refine x_iald X hG q8.1 q8.2.1 (n := 9) q8.2.2 g9 (by decide) dX1_begin_36 ?_
        refine va_gets X.1.1 X.1.2.1 zMOST hS X.1.2.2.2.1 (X.1.2.2.2.2 _ w4) (fun _ h9 => h9) dX1_begin_37 ?_
        refine lv_iload_n X.1.1 X.1.2.1 dX1_begin_40 rfl (lv_at hl 0 rfl) ?_
        obtain ⟨g10, h⟩ := xgd_of h
        refine x_stld X yMOST hS (L := gL_MOST) g10 (by decide) dX1_begin_41 ?_
        obtain ⟨g11, h⟩ := xgd_of h
        refine x_icmp_lt (tgt := 60) X g11.1 g11.2 dX1_begin_42 (by decide) (fun c12 => ?_) (fun c12 => ?_)
        · replace h := xif_t h c12
          refine lv_aload_n X.1.1 X.1.2.1 dX1_begin_60 rfl (lv_at hl 1 rfl) ?_
          refine x_getr X hG 5 2 2 6 (inC := iX1) rfl q2.1 q2.2 ⟨by decide, by decide, by decide, rfl, by decide, by decide⟩ w3 dX1_begin_61 ?_
          refine lv_iload_n X.1.1 X.1.2.1 dX1_begin_64 rfl (lv_at hl 0 rfl) ?_
          refine lv_dup2_11 X.1.1 X.1.2.1 dX1_begin_65 rfl rfl ?_
          obtain ⟨g13, h⟩ := xgd_of h
          refine x_iald X hG q8.1 q8.2.1 (n := 9) q8.2.2 g13 (by decide) dX1_begin_66 ?_
          refine x_iconst X dX1_begin_67 ?_
          refine x_iadd X dX1_begin_68 ?_
          obtain ⟨g14, h⟩ := xgd_of h
          refine x_iast X hG hS q8.1 q8.2.1 (n := 9) q8.2.2 g14 (by decide) dX1_begin_69 (fun H locs hG hS => ?_)
          obtain ⟨u15, eu15, h⟩ := xlet_of h
          replace hG : G t u15 H := by rw [eu15]; exact hG
          refine lv_aload_n X.1.1 X.1.2.1 dX1_begin_70 rfl (lv_at hl 1 rfl) ?_
          refine lv_iload_n X.1.1 X.1.2.1 dX1_begin_71 rfl (lv_at hl 0 rfl) ?_
          refine x_puti X hG hS 5 4 2 4 _ tyX1 tyX1_ok nmX1 (inC := iX1) rfl q2.1 q2.2 ⟨by decide, by decide, by decide, rfl, rfl⟩ rfl (by decide +kernel) w5 dX1_begin_72 (fun H locs hG hS => ?_)
          obtain ⟨u16, eu16, h⟩ := xlet_of h
          replace hG : G t u16 H := by rw [eu16]; exact hG
          refine lv_aload_n X.1.1 X.1.2.1 dX1_begin_75 rfl (lv_at hl 1 rfl) ?_
          refine x_iconst X dX1_begin_76 ?_
          refine x_puti X hG hS 5 5 2 5 _ tyX1 tyX1_ok nmX1 (inC := iX1) rfl q2.1 q2.2 ⟨by decide, by decide, by decide, rfl, rfl⟩ rfl (by decide +kernel) w6 dX1_begin_77 (fun H locs hG hS => ?_)
          obtain ⟨u17, eu17, h⟩ := xlet_of h
          replace hG : G t u17 H := by rw [eu17]; exact hG
          refine x_iconst X dX1_begin_80 ?_
          cases h
          exact hret _ _ _ _ dX1_begin_81 rfl hG hS
        · replace h := xif_f h c12
          refine va_gets X.1.1 X.1.2.1 zMOST hS X.1.2.2.2.1 (X.1.2.2.2.2 _ w4) (fun _ h9 => h9) dX1_begin_45 ?_
          refine lv_iload_n X.1.1 X.1.2.1 dX1_begin_48 rfl (lv_at hl 0 rfl) ?_
          obtain ⟨g18, h⟩ := xgd_of h
          refine x_stld X yMOST hS (L := gL_MOST) g18 (by decide) dX1_begin_49 ?_
          refine x_iconst X dX1_begin_50 ?_
          obtain ⟨g19, h⟩ := xgd_of h
          refine x_icmp_ne (tgt := 58) X g19 ⟨by decide, by decide⟩ dX1_begin_51 (by decide) (fun c20 => ?_) (fun c20 => ?_)
          · replace h := xif_f h c20
            refine x_iconst X dX1_begin_58 ?_
            cases h
            exact hret _ _ _ _ dX1_begin_59 rfl hG hS
          · replace h := xif_t h c20
            refine x_iconst X dX1_begin_54 ?_
            refine lv_goto (tgt := 59) X.1.1 X.1.2.1 dX1_begin_55 (by decide) ?_
            cases h
            exact hret _ _ _ _ dX1_begin_59 rfl hG hS
      · replace h := xif_t h c8
        refine x_iconst X dX1_begin_29 ?_
        cases h
        exact hret _ _ _ _ dX1_begin_30 rfl hG hS
  refine x_icmp_ne (tgt := 22) X g3 ⟨by decide, by decide⟩ dX1_begin_10 (by decide) (fun c21 => ?_) (fun c21 => ?_)
  · replace h := xif_f h c21
    refine x_iconst X dX1_begin_22 ?_
    exact Jj4 _ _ h _ _ _ hG hS (lv_sub hl [0] rfl)
  · replace h := xif_t h c21
    refine lv_aload_n X.1.1 X.1.2.1 dX1_begin_13 rfl (lv_at hl 0 rfl) ?_
    refine lv_iload_n X.1.1 X.1.2.1 dX1_begin_14 rfl (lv_at hl 1 rfl) ?_
    refine lv_aload_n X.1.1 X.1.2.1 dX1_begin_15 rfl (lv_at hl 2 rfl) ?_
    obtain ⟨v22, u23, hf, h⟩ := xbd_of h
    refine x_callVi0 X hG hS (c_X1_sortOf l t _ _ _ _ _ hf) (cwV 2 X.1.2.2.2.2 gX1_begin_X1_sortOf rfl rfl rfl hd_X1_sortOf ⟨Nat.le_of_ble_eq_true rfl, Nat.le_of_ble_eq_true rfl⟩) q2.1 q2.2 rfl (by decide) (by rfl) hl.1 (Nat.le_of_ble_eq_true rfl) dX1_begin_16 ⟨by decide, by decide⟩ rfl (fun H locs hG hS => ?_)
    refine lv_goto (tgt := 23) X.1.1 X.1.2.1 dX1_begin_19 (by decide) ?_
    exact Jj4 _ _ h _ _ _ hG hS (lv_sub hl [0] rfl)
theorem hd_X1_begin : yX1_begin.cls = RX1 ∧ yX1_begin.cls ≠ "java/lang/invoke/MethodHandle" ∧ yX1_begin.cls ≠ "java/lang/invoke/VarHandle" ∧ (parseMethodDescriptor yX1_begin.desc).map (fun d => d.parameters.length) = some 2 := by decide +kernel
abbrev rX1_finish : Room := { frames := 1, cells := 0, slots := 0, locals := 25 }
set_option maxRecDepth 100000 in
set_option maxHeartbeats 8000000 in
theorem c_X1_finish (l : Launch) (t : gP) (k1 : Nat) (u : uS) (r : Int) (u' : uS) (h : f_X1_finish k1 u = some (r, u')) : xMv l yX1_finish wsX1_finish rX1_finish t [.ref (t.2.2.1 2), .ref (t.2.2.1 k1)] u u' 0 0 := by
  refine x_ofWv (cc := cX1_finish) (maxL := 2) (own := RX1) (by decide) rfl rfl (Nat.le_of_ble_eq_true rfl) ?_
  intro p e s m args below meth c Q X hret H locs ls hG hS hl
  replace hl : lv_has ls 2 [(0, .ref (t.2.2.1 2)), (1, .ref (t.2.2.1 k1))] := hl
  have q2 : 2 < NN ∧ sT 2 = 5 := by decide
  have iX1 : ∀ w ∈ wsX10, w ∈ wsX1_finish := by decide +kernel
  have w1 : Cond.fieldLink RX1 40 "TriggerNetwork$Grammar" "sort" "I" ∈ wsX1_finish := x_w 1 rfl
  have w2 : Cond.fieldLink RX1 26 "TriggerNetwork$Grammar" "items" "[I" ∈ wsX1_finish := x_w 2 rfl
  have q9 : 9 < NN ∧ sT 9 = 100 ∧ sN 9 = 5 := by decide
  have iX5 : ∀ w ∈ wsX50, w ∈ wsX1_finish := by decide +kernel
  have w12 : Cond.fieldLink RX1 176 "TriggerNetwork$Network" "decay" "I" ∈ wsX1_finish := x_w 12 rfl
  have w3 : Cond.fieldLink RX1 145 "TriggerNetwork$Network" "grid" "LTriggerNetwork$Grid;" ∈ wsX1_finish := x_w 3 rfl
  have w4 : Cond.fieldLink RX1 154 "TriggerNetwork$Network" "tenths" "I" ∈ wsX1_finish := x_w 4 rfl
  have w5 : Cond.fieldLink RX1 157 "TriggerNetwork$Network" "shortSpan" "I" ∈ wsX1_finish := x_w 5 rfl
  have w6 : Cond.fieldLink RX1 160 "TriggerNetwork$Network" "longSpan" "I" ∈ wsX1_finish := x_w 6 rfl
  have w7 : Cond.fieldLink RX1 163 "TriggerNetwork$Network" "on" "I" ∈ wsX1_finish := x_w 7 rfl
  have w8 : Cond.fieldLink RX1 166 "TriggerNetwork$Network" "off" "I" ∈ wsX1_finish := x_w 8 rfl
  have w9 : Cond.fieldLink RX1 169 "TriggerNetwork$Network" "votes" "I" ∈ wsX1_finish := x_w 9 rfl
  have w10 : Cond.fieldLink RX1 171 "TriggerNetwork$Network" "slack" "I" ∈ wsX1_finish := x_w 10 rfl
  have w11 : Cond.fieldLink RX1 123 "TriggerNetwork$Network" "rungs" "LTriggerNetwork$Rungs;" ∈ wsX1_finish := x_w 11 rfl
  unfold f_X1_finish at h
  obtain ⟨g1, h⟩ := xgd_of h
  refine lv_aload_n X.1.1 X.1.2.1 dX1_finish_0 rfl (lv_at hl 0 rfl) ?_
  refine x_geti X hG 5 4 2 4 (inC := iX1) rfl q2.1 q2.2 ⟨by decide, by decide, by decide, rfl, rfl⟩ w1 dX1_finish_1 ?_
  obtain ⟨g2, h⟩ := xgd_of h
  obtain ⟨j3, ej3, h⟩ := xlet_of h
  have Jj3 : ∀ (u4 : uS), j3 u4 = some (r, u') → xG p l e rX1_finish s m args below meth c t Q 2 0 0 228 u4 [(0, .ref (t.2.2.1 2))] [] := by
      intro u4 h H locs ls hG hS hl
      replace h := (congrFun ej3 u4).symm.trans h
      refine lv_aload_n X.1.1 X.1.2.1 dX1_finish_228 rfl (lv_at hl 0 rfl) ?_
      refine x_iconst X dX1_finish_229 ?_
      refine x_puti X hG hS 5 4 2 4 _ tyX1 tyX1_ok nmX1 (inC := iX1) rfl q2.1 q2.2 ⟨by decide, by decide, by decide, rfl, rfl⟩ rfl (by decide +kernel) w1 dX1_finish_230 (fun H locs hG hS => ?_)
      obtain ⟨u5, eu5, h⟩ := xlet_of h
      replace hG : G t u5 H := by rw [eu5]; exact hG
      cases h
      exact hret _ _ _ _ dX1_finish_233 hG hS
  rcases Decidable.em (u 2 4 < 0 ∨ 7 < u 2 4) with c6 | c6
  · replace h := xif_t h c6
    refine x_tblO (tgt := 218) X g2 dX1_finish_4 c6 (by decide) ?_
    refine lv_aload_n X.1.1 X.1.2.1 dX1_finish_218 rfl (lv_at hl 1 rfl) ?_
    refine lv_aload_n X.1.1 X.1.2.1 dX1_finish_219 rfl (lv_at hl 0 rfl) ?_
    refine x_getr X hG 5 3 2 7 (inC := iX1) rfl q2.1 q2.2 ⟨by decide, by decide, by decide, rfl, by decide, by decide⟩ w2 dX1_finish_220 ?_
    refine x_iconst X dX1_finish_223 ?_
    refine x_iald X hG q9.1 q9.2.1 (n := 5) q9.2.2 ⟨by decide, by decide⟩ (by decide) dX1_finish_224 ?_
    refine x_puti X hG hS 9 9 k1 9 _ tyX5 tyX5_ok nmX5 (inC := iX5) rfl g1.1 g1.2 ⟨by decide, by decide, by decide, rfl, rfl⟩ rfl (by decide +kernel) w12 dX1_finish_225 (fun H locs hG hS => ?_)
    obtain ⟨u7, eu7, h⟩ := xlet_of h
    replace hG : G t u7 H := by rw [eu7]; exact hG
    exact Jj3 _ h _ _ _ hG hS (lv_sub hl [0] rfl)
  · replace h := xif_f h c6
    rcases Decidable.em (u 2 4 = 0) with c8 | c8
    · replace h := xif_t h c8
      refine x_tblI (v := 0) (tgt := 52) X c8 (by decide) ⟨by decide, by decide⟩ dX1_finish_4 rfl (by decide) ?_
      refine lv_aload_n X.1.1 X.1.2.1 dX1_finish_52 rfl (lv_at hl 1 rfl) ?_
      refine lv_aload_n X.1.1 X.1.2.1 dX1_finish_53 rfl (lv_at hl 0 rfl) ?_
      refine x_getr X hG 5 3 2 7 (inC := iX1) rfl q2.1 q2.2 ⟨by decide, by decide, by decide, rfl, by decide, by decide⟩ w2 dX1_finish_54 ?_
      refine x_iconst X dX1_finish_57 ?_
      refine x_iald X hG q9.1 q9.2.1 (n := 5) q9.2.2 ⟨by decide, by decide⟩ (by decide) dX1_finish_58 ?_
      refine lv_aload_n X.1.1 X.1.2.1 dX1_finish_59 rfl (lv_at hl 0 rfl) ?_
      refine x_getr X hG 5 3 2 7 (inC := iX1) rfl q2.1 q2.2 ⟨by decide, by decide, by decide, rfl, by decide, by decide⟩ w2 dX1_finish_60 ?_
      refine x_iconst X dX1_finish_63 ?_
      refine x_iald X hG q9.1 q9.2.1 (n := 5) q9.2.2 ⟨by decide, by decide⟩ (by decide) dX1_finish_64 ?_
      obtain ⟨v9, u10, hf, h⟩ := xbd_of h
      refine x_callVv0 X hG hS (c_X5_putStation l t _ _ _ _ _ _ hf) (cwV 2 X.1.2.2.2.2 gX1_finish_X5_putStation rfl rfl rfl hd_X5_putStation ⟨Nat.le_of_ble_eq_true rfl, Nat.le_of_ble_eq_true rfl⟩) g1.1 g1.2 rfl (by decide) (by rfl) hl.1 (Nat.le_of_ble_eq_true rfl) dX1_finish_65 ⟨by decide, by decide⟩ rfl (fun H locs hG hS => ?_)
      refine lv_goto (tgt := 228) X.1.1 X.1.2.1 dX1_finish_68 (by decide) ?_
      exact Jj3 _ h _ _ _ hG hS (lv_sub hl [0] rfl)
    replace h := xif_f h c8
    rcases Decidable.em (u 2 4 = 1) with c11 | c11
    · replace h := xif_t h c11
      refine x_tblI (v := 1) (tgt := 71) X c11 (by decide) ⟨by decide, by decide⟩ dX1_finish_4 rfl (by decide) ?_
      refine lv_aload_n X.1.1 X.1.2.1 dX1_finish_71 rfl (lv_at hl 1 rfl) ?_
      refine x_getr X hG 9 0 k1 1 (inC := iX5) rfl g1.1 g1.2 ⟨by decide, by decide, by decide, rfl, by decide, by decide⟩ w3 dX1_finish_72 ?_
      refine lv_aload_n X.1.1 X.1.2.1 dX1_finish_75 rfl (lv_at hl 0 rfl) ?_
      refine x_getr X hG 5 3 2 7 (inC := iX1) rfl q2.1 q2.2 ⟨by decide, by decide, by decide, rfl, by decide, by decide⟩ w2 dX1_finish_76 ?_
      refine x_iconst X dX1_finish_79 ?_
      refine x_iald X hG q9.1 q9.2.1 (n := 5) q9.2.2 ⟨by decide, by decide⟩ (by decide) dX1_finish_80 ?_
      refine lv_aload_n X.1.1 X.1.2.1 dX1_finish_81 rfl (lv_at hl 0 rfl) ?_
      refine x_getr X hG 5 3 2 7 (inC := iX1) rfl q2.1 q2.2 ⟨by decide, by decide, by decide, rfl, by decide, by decide⟩ w2 dX1_finish_82 ?_
      refine x_iconst X dX1_finish_85 ?_
      refine x_iald X hG q9.1 q9.2.1 (n := 5) q9.2.2 ⟨by decide, by decide⟩ (by decide) dX1_finish_86 ?_
      refine lv_aload_n X.1.1 X.1.2.1 dX1_finish_87 rfl (lv_at hl 0 rfl) ?_
      refine x_getr X hG 5 3 2 7 (inC := iX1) rfl q2.1 q2.2 ⟨by decide, by decide, by decide, rfl, by decide, by decide⟩ w2 dX1_finish_88 ?_
      refine x_iconst X dX1_finish_91 ?_
      refine x_iald X hG q9.1 q9.2.1 (n := 5) q9.2.2 ⟨by decide, by decide⟩ (by decide) dX1_finish_92 ?_
      refine lv_aload_n X.1.1 X.1.2.1 dX1_finish_93 rfl (lv_at hl 0 rfl) ?_
      refine x_getr X hG 5 3 2 7 (inC := iX1) rfl q2.1 q2.2 ⟨by decide, by decide, by decide, rfl, by decide, by decide⟩ w2 dX1_finish_94 ?_
      refine x_iconst X dX1_finish_97 ?_
      refine x_iald X hG q9.1 q9.2.1 (n := 5) q9.2.2 ⟨by decide, by decide⟩ (by decide) dX1_finish_98 ?_
      refine lv_aload_n X.1.1 X.1.2.1 dX1_finish_99 rfl (lv_at hl 0 rfl) ?_
      refine x_getr X hG 5 3 2 7 (inC := iX1) rfl q2.1 q2.2 ⟨by decide, by decide, by decide, rfl, by decide, by decide⟩ w2 dX1_finish_100 ?_
      refine x_iconst X dX1_finish_103 ?_
      refine x_iald X hG q9.1 q9.2.1 (n := 5) q9.2.2 ⟨by decide, by decide⟩ (by decide) dX1_finish_104 ?_
      obtain ⟨v12, u13, hf, h⟩ := xbd_of h
      refine x_callVv0 X hG hS (c_X2_place l t _ _ _ _ _ _ _ _ _ hf) (cwV 5 X.1.2.2.2.2 gX1_finish_X2_place rfl rfl rfl hd_X2_place ⟨Nat.le_of_ble_eq_true rfl, Nat.le_of_ble_eq_true rfl⟩) (fx_9_0 g1).1 (fx_9_0 g1).2 rfl (by decide) (by rfl) hl.1 (Nat.le_of_ble_eq_true rfl) dX1_finish_105 ⟨by decide, by decide⟩ rfl (fun H locs hG hS => ?_)
      refine lv_goto (tgt := 228) X.1.1 X.1.2.1 dX1_finish_108 (by decide) ?_
      exact Jj3 _ h _ _ _ hG hS (lv_sub hl [0] rfl)
    replace h := xif_f h c11
    rcases Decidable.em (u 2 4 = 2) with c14 | c14
    · replace h := xif_t h c14
      refine x_tblI (v := 2) (tgt := 111) X c14 (by decide) ⟨by decide, by decide⟩ dX1_finish_4 rfl (by decide) ?_
      refine lv_aload_n X.1.1 X.1.2.1 dX1_finish_111 rfl (lv_at hl 1 rfl) ?_
      refine lv_aload_n X.1.1 X.1.2.1 dX1_finish_112 rfl (lv_at hl 0 rfl) ?_
      refine x_getr X hG 5 3 2 7 (inC := iX1) rfl q2.1 q2.2 ⟨by decide, by decide, by decide, rfl, by decide, by decide⟩ w2 dX1_finish_113 ?_
      refine x_iconst X dX1_finish_116 ?_
      refine x_iald X hG q9.1 q9.2.1 (n := 5) q9.2.2 ⟨by decide, by decide⟩ (by decide) dX1_finish_117 ?_
      refine x_puti X hG hS 9 2 k1 2 _ tyX5 tyX5_ok nmX5 (inC := iX5) rfl g1.1 g1.2 ⟨by decide, by decide, by decide, rfl, rfl⟩ rfl (by decide +kernel) w4 dX1_finish_118 (fun H locs hG hS => ?_)
      obtain ⟨u15, eu15, h⟩ := xlet_of h
      replace hG : G t u15 H := by rw [eu15]; exact hG
      refine lv_goto (tgt := 228) X.1.1 X.1.2.1 dX1_finish_121 (by decide) ?_
      exact Jj3 _ h _ _ _ hG hS (lv_sub hl [0] rfl)
    replace h := xif_f h c14
    rcases Decidable.em (u 2 4 = 3) with c16 | c16
    · replace h := xif_t h c16
      refine x_tblI (v := 3) (tgt := 124) X c16 (by decide) ⟨by decide, by decide⟩ dX1_finish_4 rfl (by decide) ?_
      refine lv_aload_n X.1.1 X.1.2.1 dX1_finish_124 rfl (lv_at hl 1 rfl) ?_
      refine lv_aload_n X.1.1 X.1.2.1 dX1_finish_125 rfl (lv_at hl 0 rfl) ?_
      refine x_getr X hG 5 3 2 7 (inC := iX1) rfl q2.1 q2.2 ⟨by decide, by decide, by decide, rfl, by decide, by decide⟩ w2 dX1_finish_126 ?_
      refine x_iconst X dX1_finish_129 ?_
      refine x_iald X hG q9.1 q9.2.1 (n := 5) q9.2.2 ⟨by decide, by decide⟩ (by decide) dX1_finish_130 ?_
      refine x_puti X hG hS 9 3 k1 3 _ tyX5 tyX5_ok nmX5 (inC := iX5) rfl g1.1 g1.2 ⟨by decide, by decide, by decide, rfl, rfl⟩ rfl (by decide +kernel) w5 dX1_finish_131 (fun H locs hG hS => ?_)
      obtain ⟨u17, eu17, h⟩ := xlet_of h
      replace hG : G t u17 H := by rw [eu17]; exact hG
      refine lv_aload_n X.1.1 X.1.2.1 dX1_finish_134 rfl (lv_at hl 1 rfl) ?_
      refine lv_aload_n X.1.1 X.1.2.1 dX1_finish_135 rfl (lv_at hl 0 rfl) ?_
      refine x_getr X hG 5 3 2 7 (inC := iX1) rfl q2.1 q2.2 ⟨by decide, by decide, by decide, rfl, by decide, by decide⟩ w2 dX1_finish_136 ?_
      refine x_iconst X dX1_finish_139 ?_
      refine x_iald X hG q9.1 q9.2.1 (n := 5) q9.2.2 ⟨by decide, by decide⟩ (by decide) dX1_finish_140 ?_
      refine x_puti X hG hS 9 4 k1 4 _ tyX5 tyX5_ok nmX5 (inC := iX5) rfl g1.1 g1.2 ⟨by decide, by decide, by decide, rfl, rfl⟩ rfl (by decide +kernel) w6 dX1_finish_141 (fun H locs hG hS => ?_)
      obtain ⟨u18, eu18, h⟩ := xlet_of h
      replace hG : G t u18 H := by rw [eu18]; exact hG
      refine lv_goto (tgt := 228) X.1.1 X.1.2.1 dX1_finish_144 (by decide) ?_
      exact Jj3 _ h _ _ _ hG hS (lv_sub hl [0] rfl)
    replace h := xif_f h c16
    rcases Decidable.em (u 2 4 = 4) with c19 | c19
    · replace h := xif_t h c19
      refine x_tblI (v := 4) (tgt := 147) X c19 (by decide) ⟨by decide, by decide⟩ dX1_finish_4 rfl (by decide) ?_
      refine lv_aload_n X.1.1 X.1.2.1 dX1_finish_147 rfl (lv_at hl 1 rfl) ?_
      refine lv_aload_n X.1.1 X.1.2.1 dX1_finish_148 rfl (lv_at hl 0 rfl) ?_
      refine x_getr X hG 5 3 2 7 (inC := iX1) rfl q2.1 q2.2 ⟨by decide, by decide, by decide, rfl, by decide, by decide⟩ w2 dX1_finish_149 ?_
      refine x_iconst X dX1_finish_152 ?_
      refine x_iald X hG q9.1 q9.2.1 (n := 5) q9.2.2 ⟨by decide, by decide⟩ (by decide) dX1_finish_153 ?_
      refine x_puti X hG hS 9 5 k1 5 _ tyX5 tyX5_ok nmX5 (inC := iX5) rfl g1.1 g1.2 ⟨by decide, by decide, by decide, rfl, rfl⟩ rfl (by decide +kernel) w7 dX1_finish_154 (fun H locs hG hS => ?_)
      obtain ⟨u20, eu20, h⟩ := xlet_of h
      replace hG : G t u20 H := by rw [eu20]; exact hG
      refine lv_aload_n X.1.1 X.1.2.1 dX1_finish_157 rfl (lv_at hl 1 rfl) ?_
      refine lv_aload_n X.1.1 X.1.2.1 dX1_finish_158 rfl (lv_at hl 0 rfl) ?_
      refine x_getr X hG 5 3 2 7 (inC := iX1) rfl q2.1 q2.2 ⟨by decide, by decide, by decide, rfl, by decide, by decide⟩ w2 dX1_finish_159 ?_
      refine x_iconst X dX1_finish_162 ?_
      refine x_iald X hG q9.1 q9.2.1 (n := 5) q9.2.2 ⟨by decide, by decide⟩ (by decide) dX1_finish_163 ?_
      refine x_puti X hG hS 9 6 k1 6 _ tyX5 tyX5_ok nmX5 (inC := iX5) rfl g1.1 g1.2 ⟨by decide, by decide, by decide, rfl, rfl⟩ rfl (by decide +kernel) w8 dX1_finish_164 (fun H locs hG hS => ?_)
      obtain ⟨u21, eu21, h⟩ := xlet_of h
      replace hG : G t u21 H := by rw [eu21]; exact hG
      refine lv_goto (tgt := 228) X.1.1 X.1.2.1 dX1_finish_167 (by decide) ?_
      exact Jj3 _ h _ _ _ hG hS (lv_sub hl [0] rfl)
    replace h := xif_f h c19
    rcases Decidable.em (u 2 4 = 5) with c22 | c22
    · replace h := xif_t h c22
      refine x_tblI (v := 5) (tgt := 170) X c22 (by decide) ⟨by decide, by decide⟩ dX1_finish_4 rfl (by decide) ?_
      refine lv_aload_n X.1.1 X.1.2.1 dX1_finish_170 rfl (lv_at hl 1 rfl) ?_
      refine lv_aload_n X.1.1 X.1.2.1 dX1_finish_171 rfl (lv_at hl 0 rfl) ?_
      refine x_getr X hG 5 3 2 7 (inC := iX1) rfl q2.1 q2.2 ⟨by decide, by decide, by decide, rfl, by decide, by decide⟩ w2 dX1_finish_172 ?_
      refine x_iconst X dX1_finish_175 ?_
      refine x_iald X hG q9.1 q9.2.1 (n := 5) q9.2.2 ⟨by decide, by decide⟩ (by decide) dX1_finish_176 ?_
      refine x_puti X hG hS 9 7 k1 7 _ tyX5 tyX5_ok nmX5 (inC := iX5) rfl g1.1 g1.2 ⟨by decide, by decide, by decide, rfl, rfl⟩ rfl (by decide +kernel) w9 dX1_finish_177 (fun H locs hG hS => ?_)
      obtain ⟨u23, eu23, h⟩ := xlet_of h
      replace hG : G t u23 H := by rw [eu23]; exact hG
      refine lv_goto (tgt := 228) X.1.1 X.1.2.1 dX1_finish_180 (by decide) ?_
      exact Jj3 _ h _ _ _ hG hS (lv_sub hl [0] rfl)
    replace h := xif_f h c22
    rcases Decidable.em (u 2 4 = 6) with c24 | c24
    · replace h := xif_t h c24
      refine x_tblI (v := 6) (tgt := 183) X c24 (by decide) ⟨by decide, by decide⟩ dX1_finish_4 rfl (by decide) ?_
      refine lv_aload_n X.1.1 X.1.2.1 dX1_finish_183 rfl (lv_at hl 1 rfl) ?_
      refine lv_aload_n X.1.1 X.1.2.1 dX1_finish_184 rfl (lv_at hl 0 rfl) ?_
      refine x_getr X hG 5 3 2 7 (inC := iX1) rfl q2.1 q2.2 ⟨by decide, by decide, by decide, rfl, by decide, by decide⟩ w2 dX1_finish_185 ?_
      refine x_iconst X dX1_finish_188 ?_
      refine x_iald X hG q9.1 q9.2.1 (n := 5) q9.2.2 ⟨by decide, by decide⟩ (by decide) dX1_finish_189 ?_
      refine x_puti X hG hS 9 8 k1 8 _ tyX5 tyX5_ok nmX5 (inC := iX5) rfl g1.1 g1.2 ⟨by decide, by decide, by decide, rfl, rfl⟩ rfl (by decide +kernel) w10 dX1_finish_190 (fun H locs hG hS => ?_)
      obtain ⟨u25, eu25, h⟩ := xlet_of h
      replace hG : G t u25 H := by rw [eu25]; exact hG
      refine lv_goto (tgt := 228) X.1.1 X.1.2.1 dX1_finish_193 (by decide) ?_
      exact Jj3 _ h _ _ _ hG hS (lv_sub hl [0] rfl)
    replace h := xif_f h c24
    rcases Decidable.em (u 2 4 = 7) with c26 | c26
    · replace h := xif_t h c26
      refine x_tblI (v := 7) (tgt := 196) X c26 (by decide) ⟨by decide, by decide⟩ dX1_finish_4 rfl (by decide) ?_
      refine lv_aload_n X.1.1 X.1.2.1 dX1_finish_196 rfl (lv_at hl 1 rfl) ?_
      refine x_getr X hG 9 1 k1 2 (inC := iX5) rfl g1.1 g1.2 ⟨by decide, by decide, by decide, rfl, by decide, by decide⟩ w11 dX1_finish_197 ?_
      refine lv_aload_n X.1.1 X.1.2.1 dX1_finish_200 rfl (lv_at hl 0 rfl) ?_
      refine x_getr X hG 5 3 2 7 (inC := iX1) rfl q2.1 q2.2 ⟨by decide, by decide, by decide, rfl, by decide, by decide⟩ w2 dX1_finish_201 ?_
      refine x_iconst X dX1_finish_204 ?_
      refine x_iald X hG q9.1 q9.2.1 (n := 5) q9.2.2 ⟨by decide, by decide⟩ (by decide) dX1_finish_205 ?_
      refine lv_aload_n X.1.1 X.1.2.1 dX1_finish_206 rfl (lv_at hl 0 rfl) ?_
      refine x_getr X hG 5 3 2 7 (inC := iX1) rfl q2.1 q2.2 ⟨by decide, by decide, by decide, rfl, by decide, by decide⟩ w2 dX1_finish_207 ?_
      refine x_iconst X dX1_finish_210 ?_
      refine x_iald X hG q9.1 q9.2.1 (n := 5) q9.2.2 ⟨by decide, by decide⟩ (by decide) dX1_finish_211 ?_
      obtain ⟨v27, u28, hf, h⟩ := xbd_of h
      refine x_callVv0 X hG hS (c_X6_put l t _ _ _ _ _ _ hf) (cwV 2 X.1.2.2.2.2 gX1_finish_X6_put rfl rfl rfl hd_X6_put ⟨Nat.le_of_ble_eq_true rfl, Nat.le_of_ble_eq_true rfl⟩) (fx_9_1 g1).1 (fx_9_1 g1).2 rfl (by decide) (by rfl) hl.1 (Nat.le_of_ble_eq_true rfl) dX1_finish_212 ⟨by decide, by decide⟩ rfl (fun H locs hG hS => ?_)
      refine lv_goto (tgt := 228) X.1.1 X.1.2.1 dX1_finish_215 (by decide) ?_
      exact Jj3 _ h _ _ _ hG hS (lv_sub hl [0] rfl)
    replace h := xif_f h c26
    cases h
theorem hd_X1_finish : yX1_finish.cls = RX1 ∧ yX1_finish.cls ≠ "java/lang/invoke/MethodHandle" ∧ yX1_finish.cls ≠ "java/lang/invoke/VarHandle" ∧ (parseMethodDescriptor yX1_finish.desc).map (fun d => d.parameters.length) = some 1 := by decide +kernel
abbrev rX1_highest : Room := { frames := 0, cells := 0, slots := 0, locals := 0 }
set_option maxRecDepth 100000 in
set_option maxHeartbeats 8000000 in
theorem c_X1_highest (l : Launch) (t : gP) (u : uS) (r : Int) (u' : uS) (h : f_X1_highest u = some (r, u')) : xMi l yX1_highest wsX1_highest rX1_highest t [.ref (t.2.2.1 2)] u r u' 0 0 := by
  refine x_ofWi (cc := cX1_highest) (maxL := 1) (ret := .int) (own := RX1) (by decide) rfl rfl (Nat.le_of_ble_eq_true rfl) ?_
  intro p e s m args below meth c Q X hret H locs ls hG hS hl
  replace hl : lv_has ls 1 [(0, .ref (t.2.2.1 2))] := hl
  have q2 : 2 < NN ∧ sT 2 = 5 := by decide
  have iX1 : ∀ w ∈ wsX10, w ∈ wsX1_highest := by decide +kernel
  have w1 : Cond.fieldLink RX1 40 "TriggerNetwork$Grammar" "sort" "I" ∈ wsX1_highest := x_w 1 rfl
  obtain ⟨aHIGHEST, zHIGHEST, yHIGHEST⟩ := X.2.2.1.2.1 _ (x_m 3 rfl)
  have w4 : Cond.fieldLink RX1 138 "TriggerNetwork$Grammar" "HIGHEST" "[I" ∈ wsX1_highest := x_w 4 rfl
  have w2 : Cond.fieldLink RX1 63 "TriggerNetwork$Grammar" "itemCount" "I" ∈ wsX1_highest := x_w 2 rfl
  have w3 : Cond.fieldLink RX1 26 "TriggerNetwork$Grammar" "items" "[I" ∈ wsX1_highest := x_w 3 rfl
  have q9 : 9 < NN ∧ sT 9 = 100 ∧ sN 9 = 5 := by decide
  unfold f_X1_highest at h
  refine lv_aload_n X.1.1 X.1.2.1 dX1_highest_0 rfl (lv_at hl 0 rfl) ?_
  refine x_geti X hG 5 4 2 4 (inC := iX1) rfl q2.1 q2.2 ⟨by decide, by decide, by decide, rfl, rfl⟩ w1 dX1_highest_1 ?_
  refine x_iconst X dX1_highest_4 ?_
  obtain ⟨g1, h⟩ := xgd_of h
  obtain ⟨j2, ej2, h⟩ := xlet_of h
  have Jj2 : ∀ (u3 : uS), j2 u3 = some (r, u') → xG p l e rX1_highest s m args below meth c t Q 1 0 0 23 u3 [(0, .ref (t.2.2.1 2))] [] := by
      intro u3 h H locs ls hG hS hl
      replace h := (congrFun ej2 u3).symm.trans h
      refine va_gets X.1.1 X.1.2.1 zHIGHEST hS X.1.2.2.2.1 (X.1.2.2.2.2 _ w4) (fun _ h9 => h9) dX1_highest_23 ?_
      refine lv_aload_n X.1.1 X.1.2.1 dX1_highest_26 rfl (lv_at hl 0 rfl) ?_
      refine x_geti X hG 5 4 2 4 (inC := iX1) rfl q2.1 q2.2 ⟨by decide, by decide, by decide, rfl, rfl⟩ w1 dX1_highest_27 ?_
      refine x_iconst X dX1_highest_30 ?_
      refine x_imul X dX1_highest_31 ?_
      refine lv_aload_n X.1.1 X.1.2.1 dX1_highest_32 rfl (lv_at hl 0 rfl) ?_
      refine x_geti X hG 5 5 2 5 (inC := iX1) rfl q2.1 q2.2 ⟨by decide, by decide, by decide, rfl, rfl⟩ w2 dX1_highest_33 ?_
      refine x_iadd X dX1_highest_36 ?_
      obtain ⟨g4, h⟩ := xgd_of h
      refine x_stld X yHIGHEST hS (L := gL_HIGHEST) g4 (by decide) dX1_highest_37 ?_
      cases h
      exact hret _ _ _ _ dX1_highest_38 rfl hG hS
  refine x_icmp_ne (tgt := 23) X g1 ⟨by decide, by decide⟩ dX1_highest_5 (by decide) (fun c5 => ?_) (fun c5 => ?_)
  · replace h := xif_f h c5
    exact Jj2 _ h _ _ _ hG hS (lv_sub hl [0] rfl)
  · replace h := xif_t h c5
    refine lv_aload_n X.1.1 X.1.2.1 dX1_highest_8 rfl (lv_at hl 0 rfl) ?_
    refine x_geti X hG 5 5 2 5 (inC := iX1) rfl q2.1 q2.2 ⟨by decide, by decide, by decide, rfl, rfl⟩ w2 dX1_highest_9 ?_
    refine x_iconst X dX1_highest_12 ?_
    obtain ⟨g6, h⟩ := xgd_of h
    refine x_icmp_ne (tgt := 23) X g6 ⟨by decide, by decide⟩ dX1_highest_13 (by decide) (fun c7 => ?_) (fun c7 => ?_)
    · replace h := xif_f h c7
      exact Jj2 _ h _ _ _ hG hS (lv_sub hl [0] rfl)
    · replace h := xif_t h c7
      refine lv_aload_n X.1.1 X.1.2.1 dX1_highest_16 rfl (lv_at hl 0 rfl) ?_
      refine x_getr X hG 5 3 2 7 (inC := iX1) rfl q2.1 q2.2 ⟨by decide, by decide, by decide, rfl, by decide, by decide⟩ w3 dX1_highest_17 ?_
      refine x_iconst X dX1_highest_20 ?_
      refine x_iald X hG q9.1 q9.2.1 (n := 5) q9.2.2 ⟨by decide, by decide⟩ (by decide) dX1_highest_21 ?_
      cases h
      exact hret _ _ _ _ dX1_highest_22 rfl hG hS
theorem hd_X1_highest : yX1_highest.cls = RX1 ∧ yX1_highest.cls ≠ "java/lang/invoke/MethodHandle" ∧ yX1_highest.cls ≠ "java/lang/invoke/VarHandle" ∧ (parseMethodDescriptor yX1_highest.desc).map (fun d => d.parameters.length) = some 0 := by decide +kernel
abbrev rX1_lowest : Room := { frames := 1, cells := 0, slots := 0, locals := 20 }
set_option maxRecDepth 100000 in
set_option maxHeartbeats 8000000 in
theorem c_X1_lowest (l : Launch) (t : gP) (k1 : Nat) (u : uS) (r : Int) (u' : uS) (h : f_X1_lowest k1 u = some (r, u')) : xMi l yX1_lowest wsX1_lowest rX1_lowest t [.ref (t.2.2.1 2), .ref (t.2.2.1 k1)] u r u' 0 0 := by
  refine x_ofWi (cc := cX1_lowest) (maxL := 2) (ret := .int) (own := RX1) (by decide) rfl rfl (Nat.le_of_ble_eq_true rfl) ?_
  intro p e s m args below meth c Q X hret H locs ls hG hS hl
  replace hl : lv_has ls 2 [(0, .ref (t.2.2.1 2)), (1, .ref (t.2.2.1 k1))] := hl
  have q2 : 2 < NN ∧ sT 2 = 5 := by decide
  have iX1 : ∀ w ∈ wsX10, w ∈ wsX1_lowest := by decide +kernel
  have w1 : Cond.fieldLink RX1 40 "TriggerNetwork$Grammar" "sort" "I" ∈ wsX1_lowest := x_w 1 rfl
  obtain ⟨aLOWEST, zLOWEST, yLOWEST⟩ := X.2.2.1.2.1 _ (x_m 2 rfl)
  have w5 : Cond.fieldLink RX1 135 "TriggerNetwork$Grammar" "LOWEST" "[I" ∈ wsX1_lowest := x_w 5 rfl
  have w2 : Cond.fieldLink RX1 63 "TriggerNetwork$Grammar" "itemCount" "I" ∈ wsX1_lowest := x_w 2 rfl
  have iX5 : ∀ w ∈ wsX50, w ∈ wsX1_lowest := by decide +kernel
  have w4 : Cond.fieldLink RX1 123 "TriggerNetwork$Network" "rungs" "LTriggerNetwork$Rungs;" ∈ wsX1_lowest := x_w 4 rfl
  have w3 : Cond.fieldLink RX1 26 "TriggerNetwork$Grammar" "items" "[I" ∈ wsX1_lowest := x_w 3 rfl
  have q9 : 9 < NN ∧ sT 9 = 100 ∧ sN 9 = 5 := by decide
  unfold f_X1_lowest at h
  obtain ⟨g1, h⟩ := xgd_of h
  refine lv_aload_n X.1.1 X.1.2.1 dX1_lowest_0 rfl (lv_at hl 0 rfl) ?_
  refine x_geti X hG 5 4 2 4 (inC := iX1) rfl q2.1 q2.2 ⟨by decide, by decide, by decide, rfl, rfl⟩ w1 dX1_lowest_1 ?_
  refine x_iconst X dX1_lowest_4 ?_
  obtain ⟨g2, h⟩ := xgd_of h
  obtain ⟨j3, ej3, h⟩ := xlet_of h
  have Jj3 : ∀ (u4 : uS), j3 u4 = some (r, u') → xG p l e rX1_lowest s m args below meth c t Q 2 0 0 23 u4 [(0, .ref (t.2.2.1 2)), (1, .ref (t.2.2.1 k1))] [] := by
      intro u4 h H locs ls hG hS hl
      replace h := (congrFun ej3 u4).symm.trans h
      refine lv_aload_n X.1.1 X.1.2.1 dX1_lowest_23 rfl (lv_at hl 0 rfl) ?_
      refine x_geti X hG 5 4 2 4 (inC := iX1) rfl q2.1 q2.2 ⟨by decide, by decide, by decide, rfl, rfl⟩ w1 dX1_lowest_24 ?_
      refine x_bipush X dX1_lowest_27 (by decide) ?_
      obtain ⟨g5, h⟩ := xgd_of h
      refine x_icmp_ne (tgt := 57) X g5 ⟨by decide, by decide⟩ dX1_lowest_29 (by decide) (fun c6 => ?_) (fun c6 => ?_)
      · replace h := xif_f h c6
        refine va_gets X.1.1 X.1.2.1 zLOWEST hS X.1.2.2.2.1 (X.1.2.2.2.2 _ w5) (fun _ h9 => h9) dX1_lowest_57 ?_
        refine lv_aload_n X.1.1 X.1.2.1 dX1_lowest_60 rfl (lv_at hl 0 rfl) ?_
        refine x_geti X hG 5 4 2 4 (inC := iX1) rfl q2.1 q2.2 ⟨by decide, by decide, by decide, rfl, rfl⟩ w1 dX1_lowest_61 ?_
        refine x_iconst X dX1_lowest_64 ?_
        refine x_imul X dX1_lowest_65 ?_
        refine lv_aload_n X.1.1 X.1.2.1 dX1_lowest_66 rfl (lv_at hl 0 rfl) ?_
        refine x_geti X hG 5 5 2 5 (inC := iX1) rfl q2.1 q2.2 ⟨by decide, by decide, by decide, rfl, rfl⟩ w2 dX1_lowest_67 ?_
        refine x_iadd X dX1_lowest_70 ?_
        obtain ⟨g7, h⟩ := xgd_of h
        refine x_stld X yLOWEST hS (L := gL_LOWEST) g7 (by decide) dX1_lowest_71 ?_
        cases h
        exact hret _ _ _ _ dX1_lowest_72 rfl hG hS
      · replace h := xif_t h c6
        refine lv_aload_n X.1.1 X.1.2.1 dX1_lowest_32 rfl (lv_at hl 0 rfl) ?_
        refine x_geti X hG 5 5 2 5 (inC := iX1) rfl q2.1 q2.2 ⟨by decide, by decide, by decide, rfl, rfl⟩ w2 dX1_lowest_33 ?_
        obtain ⟨g8, h⟩ := xgd_of h
        refine x_if_ne (tgt := 49) X g8 dX1_lowest_36 (by decide) (fun c9 => ?_) (fun c9 => ?_)
        · replace h := xif_f h c9
          refine lv_aload_n X.1.1 X.1.2.1 dX1_lowest_49 rfl (lv_at hl 1 rfl) ?_
          refine x_getr X hG 9 1 k1 2 (inC := iX5) rfl g1.1 g1.2 ⟨by decide, by decide, by decide, rfl, by decide, by decide⟩ w4 dX1_lowest_50 ?_
          obtain ⟨v10, u11, hf, h⟩ := xbd_of h
          refine x_callVi0 X hG hS (c_X6_lowestNextMagnitude l t _ _ _ _ hf) (cwV 0 X.1.2.2.2.2 gX1_lowest_X6_lowestNextMagnitude rfl rfl rfl hd_X6_lowestNextMagnitude ⟨Nat.le_of_ble_eq_true rfl, Nat.le_of_ble_eq_true rfl⟩) (fx_9_1 g1).1 (fx_9_1 g1).2 rfl (by decide) (by rfl) hl.1 (Nat.le_of_ble_eq_true rfl) dX1_lowest_53 ⟨by decide, by decide⟩ rfl (fun H locs hG hS => ?_)
          cases h
          exact hret _ _ _ _ dX1_lowest_56 rfl hG hS
        · replace h := xif_t h c9
          refine lv_aload_n X.1.1 X.1.2.1 dX1_lowest_39 rfl (lv_at hl 1 rfl) ?_
          refine x_getr X hG 9 1 k1 2 (inC := iX5) rfl g1.1 g1.2 ⟨by decide, by decide, by decide, rfl, by decide, by decide⟩ w4 dX1_lowest_40 ?_
          obtain ⟨v12, u13, hf, h⟩ := xbd_of h
          refine x_callVi0 X hG hS (c_X6_lowestNextAmplitude l t _ _ _ _ hf) (cwV 0 X.1.2.2.2.2 gX1_lowest_X6_lowestNextAmplitude rfl rfl rfl hd_X6_lowestNextAmplitude ⟨Nat.le_of_ble_eq_true rfl, Nat.le_of_ble_eq_true rfl⟩) (fx_9_1 g1).1 (fx_9_1 g1).2 rfl (by decide) (by rfl) hl.1 (Nat.le_of_ble_eq_true rfl) dX1_lowest_43 ⟨by decide, by decide⟩ rfl (fun H locs hG hS => ?_)
          refine lv_goto (tgt := 56) X.1.1 X.1.2.1 dX1_lowest_46 (by decide) ?_
          cases h
          exact hret _ _ _ _ dX1_lowest_56 rfl hG hS
  refine x_icmp_ne (tgt := 23) X g2 ⟨by decide, by decide⟩ dX1_lowest_5 (by decide) (fun c14 => ?_) (fun c14 => ?_)
  · replace h := xif_f h c14
    exact Jj3 _ h _ _ _ hG hS (lv_sub hl [0, 1] rfl)
  · replace h := xif_t h c14
    refine lv_aload_n X.1.1 X.1.2.1 dX1_lowest_8 rfl (lv_at hl 0 rfl) ?_
    refine x_geti X hG 5 5 2 5 (inC := iX1) rfl q2.1 q2.2 ⟨by decide, by decide, by decide, rfl, rfl⟩ w2 dX1_lowest_9 ?_
    refine x_iconst X dX1_lowest_12 ?_
    obtain ⟨g15, h⟩ := xgd_of h
    refine x_icmp_ne (tgt := 23) X g15 ⟨by decide, by decide⟩ dX1_lowest_13 (by decide) (fun c16 => ?_) (fun c16 => ?_)
    · replace h := xif_f h c16
      exact Jj3 _ h _ _ _ hG hS (lv_sub hl [0, 1] rfl)
    · replace h := xif_t h c16
      refine lv_aload_n X.1.1 X.1.2.1 dX1_lowest_16 rfl (lv_at hl 0 rfl) ?_
      refine x_getr X hG 5 3 2 7 (inC := iX1) rfl q2.1 q2.2 ⟨by decide, by decide, by decide, rfl, by decide, by decide⟩ w3 dX1_lowest_17 ?_
      refine x_iconst X dX1_lowest_20 ?_
      refine x_iald X hG q9.1 q9.2.1 (n := 5) q9.2.2 ⟨by decide, by decide⟩ (by decide) dX1_lowest_21 ?_
      cases h
      exact hret _ _ _ _ dX1_lowest_22 rfl hG hS
theorem hd_X1_lowest : yX1_lowest.cls = RX1 ∧ yX1_lowest.cls ≠ "java/lang/invoke/MethodHandle" ∧ yX1_lowest.cls ≠ "java/lang/invoke/VarHandle" ∧ (parseMethodDescriptor yX1_lowest.desc).map (fun d => d.parameters.length) = some 1 := by decide +kernel
abbrev rX1_takeItem : Room := { frames := 2, cells := 0, slots := 0, locals := 41 }
set_option maxRecDepth 100000 in
set_option maxHeartbeats 8000000 in
theorem c_X1_takeItem (l : Launch) (t : gP) (x1 : Int) (k2 : Nat) (u : uS) (r : Int) (u' : uS) (h : f_X1_takeItem x1 k2 u = some (r, u')) : xMi l yX1_takeItem wsX1_takeItem rX1_takeItem t [.ref (t.2.2.1 2), .int (iI x1), .ref (t.2.2.1 k2)] u r u' 0 0 := by
  refine x_ofWi (cc := cX1_takeItem) (maxL := 4) (ret := .int) (own := RX1) (by decide) rfl rfl (Nat.le_of_ble_eq_true rfl) ?_
  intro p e s m args below meth c Q X hret H locs ls hG hS hl
  replace hl : lv_has ls 4 [(0, .ref (t.2.2.1 2)), (1, .int (iI x1)), (2, .ref (t.2.2.1 k2))] := hl
  have q2 : 2 < NN ∧ sT 2 = 5 := by decide
  have iX1 : ∀ w ∈ wsX10, w ∈ wsX1_takeItem := by decide +kernel
  have w1 : Cond.fieldLink RX1 18 "TriggerNetwork$Grammar" "tokens" "LTriggerNetwork$Tokens;" ∈ wsX1_takeItem := x_w 1 rfl
  have q3 : 3 < NN ∧ sT 3 = 12 := by decide
  have iX8 : ∀ w ∈ wsX80, w ∈ wsX1_takeItem := by decide +kernel
  have w2 : Cond.fieldLink RX1 73 "TriggerNetwork$Tokens" "kinds" "[I" ∈ wsX1_takeItem := x_w 2 rfl
  have q4 : 4 < NN ∧ sT 4 = 100 ∧ sN 4 = 500 := by decide
  have w3 : Cond.fieldLink RX1 112 "TriggerNetwork$Tokens" "values" "[I" ∈ wsX1_takeItem := x_w 3 rfl
  have q7 : 7 < NN ∧ sT 7 = 100 ∧ sN 7 = 500 := by decide
  have w4 : Cond.fieldLink RX1 26 "TriggerNetwork$Grammar" "items" "[I" ∈ wsX1_takeItem := x_w 4 rfl
  have q9 : 9 < NN ∧ sT 9 = 100 ∧ sN 9 = 5 := by decide
  have w5 : Cond.fieldLink RX1 63 "TriggerNetwork$Grammar" "itemCount" "I" ∈ wsX1_takeItem := x_w 5 rfl
  unfold f_X1_takeItem at h
  obtain ⟨g1, h⟩ := xgd_of h
  refine lv_aload_n X.1.1 X.1.2.1 dX1_takeItem_0 rfl (lv_at hl 0 rfl) ?_
  refine x_getr X hG 5 1 2 1 (inC := iX1) rfl q2.1 q2.2 ⟨by decide, by decide, by decide, rfl, by decide, by decide⟩ w1 dX1_takeItem_1 ?_
  refine x_getr X hG 12 1 3 1 (inC := iX8) rfl q3.1 q3.2 ⟨by decide, by decide, by decide, rfl, by decide, by decide⟩ w2 dX1_takeItem_4 ?_
  refine lv_iload_n X.1.1 X.1.2.1 dX1_takeItem_7 rfl (lv_at hl 1 rfl) ?_
  obtain ⟨g2, h⟩ := xgd_of h
  refine x_iald X hG q4.1 q4.2.1 (n := 500) q4.2.2 g2 (by decide) dX1_takeItem_8 ?_
  refine x_iconst X dX1_takeItem_9 ?_
  obtain ⟨g3, h⟩ := xgd_of h
  refine x_icmp_eq (tgt := 15) X g3 ⟨by decide, by decide⟩ dX1_takeItem_10 (by decide) (fun c4 => ?_) (fun c4 => ?_)
  · replace h := xif_t h c4
    refine lv_aload_n X.1.1 X.1.2.1 dX1_takeItem_15 rfl (lv_at hl 0 rfl) ?_
    refine x_getr X hG 5 1 2 1 (inC := iX1) rfl q2.1 q2.2 ⟨by decide, by decide, by decide, rfl, by decide, by decide⟩ w1 dX1_takeItem_16 ?_
    refine x_getr X hG 12 4 3 4 (inC := iX8) rfl q3.1 q3.2 ⟨by decide, by decide, by decide, rfl, by decide, by decide⟩ w3 dX1_takeItem_19 ?_
    refine lv_iload_n X.1.1 X.1.2.1 dX1_takeItem_22 rfl (lv_at hl 1 rfl) ?_
    obtain ⟨g5, h⟩ := xgd_of h
    refine x_iald X hG q7.1 q7.2.1 (n := 500) q7.2.2 g5 (by decide) dX1_takeItem_23 ?_
    refine x_name (fun x3_6 ex3_6 => ?_)
    replace h := xlet_at ex3_6 h
    refine lv_istore_n (lv' := [(3, .int (iI x3_6)), (0, .ref (t.2.2.1 2)), (1, .int (iI x1)), (2, .ref (t.2.2.1 k2))]) X.1.1 X.1.2.1 dX1_takeItem_24 rfl hl (by decide) rfl (fun ls hl => ?_)
    refine lv_iload_n X.1.1 X.1.2.1 dX1_takeItem_25 rfl (lv_at hl 0 rfl) ?_
    refine lv_aload_n X.1.1 X.1.2.1 dX1_takeItem_26 rfl (lv_at hl 1 rfl) ?_
    refine lv_aload_n X.1.1 X.1.2.1 dX1_takeItem_27 rfl (lv_at hl 3 rfl) ?_
    obtain ⟨v7, u8, hf, h⟩ := xbd_of h
    refine x_callVi0 X hG hS (c_X1_lowest l t _ _ _ _ hf) (cwV 1 X.1.2.2.2.2 gX1_takeItem_X1_lowest rfl rfl rfl hd_X1_lowest ⟨Nat.le_of_ble_eq_true rfl, Nat.le_of_ble_eq_true rfl⟩) q2.1 q2.2 rfl (by decide) (by rfl) hl.1 (Nat.le_of_ble_eq_true rfl) dX1_takeItem_28 ⟨by decide, by decide⟩ rfl (fun H locs hG hS => ?_)
    obtain ⟨g9, h⟩ := xgd_of h
    refine x_icmp_lt (tgt := 42) X g9.1 g9.2 dX1_takeItem_31 (by decide) (fun c10 => ?_) (fun c10 => ?_)
    · replace h := xif_t h c10
      refine x_iconst X dX1_takeItem_42 ?_
      cases h
      exact hret _ _ _ _ dX1_takeItem_43 rfl hG hS
    · replace h := xif_f h c10
      refine lv_iload_n X.1.1 X.1.2.1 dX1_takeItem_34 rfl (lv_at hl 0 rfl) ?_
      refine lv_aload_n X.1.1 X.1.2.1 dX1_takeItem_35 rfl (lv_at hl 1 rfl) ?_
      obtain ⟨v11, u12, hf, h⟩ := xbd_of h
      refine x_callVi0 X hG hS (c_X1_highest l t  _ _ _ hf) (cwV 0 X.1.2.2.2.2 gX1_takeItem_X1_highest rfl rfl rfl hd_X1_highest ⟨Nat.le_of_ble_eq_true rfl, Nat.le_of_ble_eq_true rfl⟩) q2.1 q2.2 rfl (by decide) (by rfl) hl.1 (Nat.le_of_ble_eq_true rfl) dX1_takeItem_36 ⟨by decide, by decide⟩ rfl (fun H locs hG hS => ?_)
      obtain ⟨g13, h⟩ := xgd_of h
      refine x_icmp_le (tgt := 44) X g13.1 g13.2 dX1_takeItem_39 (by decide) (fun c14 => ?_) (fun c14 => ?_)
      · replace h := xif_t h c14
        refine lv_aload_n X.1.1 X.1.2.1 dX1_takeItem_44 rfl (lv_at hl 1 rfl) ?_
        refine x_getr X hG 5 3 2 7 (inC := iX1) rfl q2.1 q2.2 ⟨by decide, by decide, by decide, rfl, by decide, by decide⟩ w4 dX1_takeItem_45 ?_
        refine lv_aload_n X.1.1 X.1.2.1 dX1_takeItem_48 rfl (lv_at hl 1 rfl) ?_
        refine x_geti X hG 5 5 2 5 (inC := iX1) rfl q2.1 q2.2 ⟨by decide, by decide, by decide, rfl, rfl⟩ w5 dX1_takeItem_49 ?_
        refine lv_iload_n X.1.1 X.1.2.1 dX1_takeItem_52 rfl (lv_at hl 0 rfl) ?_
        obtain ⟨g15, h⟩ := xgd_of h
        refine x_iast X hG hS q9.1 q9.2.1 (n := 5) q9.2.2 g15 (by decide) dX1_takeItem_53 (fun H locs hG hS => ?_)
        obtain ⟨u16, eu16, h⟩ := xlet_of h
        replace hG : G t u16 H := by rw [eu16]; exact hG
        refine lv_aload_n X.1.1 X.1.2.1 dX1_takeItem_54 rfl (lv_at hl 1 rfl) ?_
        refine lv_dup X.1.1 X.1.2.1 dX1_takeItem_55 rfl ?_
        refine x_geti X hG 5 5 2 5 (inC := iX1) rfl q2.1 q2.2 ⟨by decide, by decide, by decide, rfl, rfl⟩ w5 dX1_takeItem_56 ?_
        refine x_iconst X dX1_takeItem_59 ?_
        refine x_iadd X dX1_takeItem_60 ?_
        refine x_puti X hG hS 5 5 2 5 _ tyX1 tyX1_ok nmX1 (inC := iX1) rfl q2.1 q2.2 ⟨by decide, by decide, by decide, rfl, rfl⟩ rfl (by decide +kernel) w5 dX1_takeItem_61 (fun H locs hG hS => ?_)
        obtain ⟨u17, eu17, h⟩ := xlet_of h
        replace hG : G t u17 H := by rw [eu17]; exact hG
        refine x_iconst X dX1_takeItem_64 ?_
        cases h
        exact hret _ _ _ _ dX1_takeItem_65 rfl hG hS
      · replace h := xif_f h c14
        refine x_iconst X dX1_takeItem_42 ?_
        cases h
        exact hret _ _ _ _ dX1_takeItem_43 rfl hG hS
  · replace h := xif_f h c4
    refine x_iconst X dX1_takeItem_13 ?_
    cases h
    exact hret _ _ _ _ dX1_takeItem_14 rfl hG hS
theorem hd_X1_takeItem : yX1_takeItem.cls = RX1 ∧ yX1_takeItem.cls ≠ "java/lang/invoke/MethodHandle" ∧ yX1_takeItem.cls ≠ "java/lang/invoke/VarHandle" ∧ (parseMethodDescriptor yX1_takeItem.desc).map (fun d => d.parameters.length) = some 2 := by decide +kernel
abbrev rX1_take : Room := { frames := 7, cells := 0, slots := 0, locals := 182 }
set_option maxRecDepth 100000 in
set_option maxHeartbeats 8000000 in
theorem c_X1_take (l : Launch) (t : gP) (x1 : Int) (k2 : Nat) (k3 : Nat) (u : uS) (r : Int) (u' : uS) (h : f_X1_take x1 k2 k3 u = some (r, u')) : xMi l yX1_take wsX1_take rX1_take t [.ref (t.2.2.1 2), .int (iI x1), .ref (t.2.2.1 k2), .ref (t.2.2.1 k3)] u r u' 0 0 := by
  refine x_ofWi (cc := cX1_take) (maxL := 4) (ret := .int) (own := RX1) (by decide) rfl rfl (Nat.le_of_ble_eq_true rfl) ?_
  intro p e s m args below meth c Q X hret H locs ls hG hS hl
  replace hl : lv_has ls 4 [(0, .ref (t.2.2.1 2)), (1, .int (iI x1)), (2, .ref (t.2.2.1 k2)), (3, .ref (t.2.2.1 k3))] := hl
  have q2 : 2 < NN ∧ sT 2 = 5 := by decide
  have iX1 : ∀ w ∈ wsX10, w ∈ wsX1_take := by decide +kernel
  have w1 : Cond.fieldLink RX1 40 "TriggerNetwork$Grammar" "sort" "I" ∈ wsX1_take := x_w 1 rfl
  have w2 : Cond.fieldLink RX1 63 "TriggerNetwork$Grammar" "itemCount" "I" ∈ wsX1_take := x_w 2 rfl
  obtain ⟨aITEMS, zITEMS, yITEMS⟩ := X.2.2.1.2.1 _ (x_m 0 rfl)
  have w3 : Cond.fieldLink RX1 66 "TriggerNetwork$Grammar" "ITEMS" "[I" ∈ wsX1_take := x_w 3 rfl
  have w4 : Cond.fieldLink RX1 18 "TriggerNetwork$Grammar" "tokens" "LTriggerNetwork$Tokens;" ∈ wsX1_take := x_w 4 rfl
  have q3 : 3 < NN ∧ sT 3 = 12 := by decide
  have iX8 : ∀ w ∈ wsX80, w ∈ wsX1_take := by decide +kernel
  have w5 : Cond.fieldLink RX1 73 "TriggerNetwork$Tokens" "kinds" "[I" ∈ wsX1_take := x_w 5 rfl
  have q4 : 4 < NN ∧ sT 4 = 100 ∧ sN 4 = 500 := by decide
  unfold f_X1_take at h
  obtain ⟨g1, h⟩ := xgd_of h
  refine lv_aload_n X.1.1 X.1.2.1 dX1_take_0 rfl (lv_at hl 0 rfl) ?_
  refine x_geti X hG 5 4 2 4 (inC := iX1) rfl q2.1 q2.2 ⟨by decide, by decide, by decide, rfl, rfl⟩ w1 dX1_take_1 ?_
  obtain ⟨g2, h⟩ := xgd_of h
  obtain ⟨j3, ej3, h⟩ := xlet_of h
  have Jj3 : ∀ (u4 : uS), j3 u4 = some (r, u') → xG p l e rX1_take s m args below meth c t Q 4 0 0 16 u4 [(0, .ref (t.2.2.1 2)), (1, .int (iI x1)), (2, .ref (t.2.2.1 k2))] [] := by
      intro u4 h H locs ls hG hS hl
      replace h := (congrFun ej3 u4).symm.trans h
      refine lv_aload_n X.1.1 X.1.2.1 dX1_take_16 rfl (lv_at hl 0 rfl) ?_
      refine lv_iload_n X.1.1 X.1.2.1 dX1_take_17 rfl (lv_at hl 1 rfl) ?_
      refine lv_aload_n X.1.1 X.1.2.1 dX1_take_18 rfl (lv_at hl 2 rfl) ?_
      obtain ⟨v5, u6, hf, h⟩ := xbd_of h
      refine x_callVi0 X hG hS (c_X1_begin l t _ _ _ _ _ hf) (cwV 2 X.1.2.2.2.2 gX1_take_X1_begin rfl rfl rfl hd_X1_begin ⟨Nat.le_of_ble_eq_true rfl, Nat.le_of_ble_eq_true rfl⟩) q2.1 q2.2 rfl (by decide) (by rfl) hl.1 (Nat.le_of_ble_eq_true rfl) dX1_take_19 ⟨by decide, by decide⟩ rfl (fun H locs hG hS => ?_)
      cases h
      exact hret _ _ _ _ dX1_take_22 rfl hG hS
  refine x_if_lt (tgt := 16) X g2 dX1_take_4 (by decide) (fun c7 => ?_) (fun c7 => ?_)
  · replace h := xif_t h c7
    exact Jj3 _ h _ _ _ hG hS (lv_sub hl [0, 1, 2] rfl)
  · replace h := xif_f h c7
    refine lv_aload_n X.1.1 X.1.2.1 dX1_take_7 rfl (lv_at hl 0 rfl) ?_
    refine x_geti X hG 5 4 2 4 (inC := iX1) rfl q2.1 q2.2 ⟨by decide, by decide, by decide, rfl, rfl⟩ w1 dX1_take_8 ?_
    refine x_bipush X dX1_take_11 (by decide) ?_
    obtain ⟨g8, h⟩ := xgd_of h
    refine x_icmp_lt (tgt := 23) X g8 ⟨by decide, by decide⟩ dX1_take_13 (by decide) (fun c9 => ?_) (fun c9 => ?_)
    · replace h := xif_t h c9
      refine lv_aload_n X.1.1 X.1.2.1 dX1_take_23 rfl (lv_at hl 0 rfl) ?_
      refine x_geti X hG 5 5 2 5 (inC := iX1) rfl q2.1 q2.2 ⟨by decide, by decide, by decide, rfl, rfl⟩ w2 dX1_take_24 ?_
      refine va_gets X.1.1 X.1.2.1 zITEMS hS X.1.2.2.2.1 (X.1.2.2.2.2 _ w3) (fun _ h9 => h9) dX1_take_27 ?_
      refine lv_aload_n X.1.1 X.1.2.1 dX1_take_30 rfl (lv_at hl 0 rfl) ?_
      refine x_geti X hG 5 4 2 4 (inC := iX1) rfl q2.1 q2.2 ⟨by decide, by decide, by decide, rfl, rfl⟩ w1 dX1_take_31 ?_
      obtain ⟨g10, h⟩ := xgd_of h
      refine x_stld X yITEMS hS (L := gL_ITEMS) g10 (by decide) dX1_take_34 ?_
      obtain ⟨g11, h⟩ := xgd_of h
      obtain ⟨j12, ej12, h⟩ := xlet_of h
      have Jj12 : ∀ (u13 : uS), j12 u13 = some (r, u') → xG p l e rX1_take s m args below meth c t Q 4 0 0 53 u13 [(0, .ref (t.2.2.1 2)), (1, .int (iI x1)), (3, .ref (t.2.2.1 k3))] [] := by
          intro u13 h H locs ls hG hS hl
          replace h := (congrFun ej12 u13).symm.trans h
          refine lv_aload_n X.1.1 X.1.2.1 dX1_take_53 rfl (lv_at hl 0 rfl) ?_
          refine x_getr X hG 5 1 2 1 (inC := iX1) rfl q2.1 q2.2 ⟨by decide, by decide, by decide, rfl, by decide, by decide⟩ w4 dX1_take_54 ?_
          refine x_getr X hG 12 1 3 1 (inC := iX8) rfl q3.1 q3.2 ⟨by decide, by decide, by decide, rfl, by decide, by decide⟩ w5 dX1_take_57 ?_
          refine lv_iload_n X.1.1 X.1.2.1 dX1_take_60 rfl (lv_at hl 1 rfl) ?_
          obtain ⟨g14, h⟩ := xgd_of h
          refine x_iald X hG q4.1 q4.2.1 (n := 500) q4.2.2 g14 (by decide) dX1_take_61 ?_
          refine x_iconst X dX1_take_62 ?_
          obtain ⟨g15, h⟩ := xgd_of h
          refine x_icmp_eq (tgt := 68) X g15 ⟨by decide, by decide⟩ dX1_take_63 (by decide) (fun c16 => ?_) (fun c16 => ?_)
          · replace h := xif_t h c16
            refine lv_aload_n X.1.1 X.1.2.1 dX1_take_68 rfl (lv_at hl 0 rfl) ?_
            refine lv_aload_n X.1.1 X.1.2.1 dX1_take_69 rfl (lv_at hl 2 rfl) ?_
            obtain ⟨v17, u18, hf, h⟩ := xbd_of h
            refine x_callVv0 X hG hS (c_X1_finish l t _ _ _ _ hf) (cwV 1 X.1.2.2.2.2 gX1_take_X1_finish rfl rfl rfl hd_X1_finish ⟨Nat.le_of_ble_eq_true rfl, Nat.le_of_ble_eq_true rfl⟩) q2.1 q2.2 rfl (by decide) (by rfl) hl.1 (Nat.le_of_ble_eq_true rfl) dX1_take_70 ⟨by decide, by decide⟩ rfl (fun H locs hG hS => ?_)
            refine x_iconst X dX1_take_73 ?_
            cases h
            exact hret _ _ _ _ dX1_take_74 rfl hG hS
          · replace h := xif_f h c16
            refine x_iconst X dX1_take_66 ?_
            cases h
            exact hret _ _ _ _ dX1_take_67 rfl hG hS
      refine x_icmp_ge (tgt := 53) X g11.1 g11.2 dX1_take_35 (by decide) (fun c19 => ?_) (fun c19 => ?_)
      · replace h := xif_t h c19
        exact Jj12 _ h _ _ _ hG hS (lv_sub hl [0, 1, 3] rfl)
      · replace h := xif_f h c19
        refine lv_aload_n X.1.1 X.1.2.1 dX1_take_38 rfl (lv_at hl 0 rfl) ?_
        refine x_geti X hG 5 5 2 5 (inC := iX1) rfl q2.1 q2.2 ⟨by decide, by decide, by decide, rfl, rfl⟩ w2 dX1_take_39 ?_
        refine x_iconst X dX1_take_42 ?_
        obtain ⟨g20, h⟩ := xgd_of h
        refine x_icmp_ge (tgt := 53) X g20 ⟨by decide, by decide⟩ dX1_take_43 (by decide) (fun c21 => ?_) (fun c21 => ?_)
        · replace h := xif_t h c21
          exact Jj12 _ h _ _ _ hG hS (lv_sub hl [0, 1, 3] rfl)
        · replace h := xif_f h c21
          refine lv_aload_n X.1.1 X.1.2.1 dX1_take_46 rfl (lv_at hl 0 rfl) ?_
          refine lv_iload_n X.1.1 X.1.2.1 dX1_take_47 rfl (lv_at hl 1 rfl) ?_
          refine lv_aload_n X.1.1 X.1.2.1 dX1_take_48 rfl (lv_at hl 3 rfl) ?_
          obtain ⟨v22, u23, hf, h⟩ := xbd_of h
          refine x_callVi0 X hG hS (c_X1_takeItem l t _ _ _ _ _ hf) (cwV 2 X.1.2.2.2.2 gX1_take_X1_takeItem rfl rfl rfl hd_X1_takeItem ⟨Nat.le_of_ble_eq_true rfl, Nat.le_of_ble_eq_true rfl⟩) q2.1 q2.2 rfl (by decide) (by rfl) hl.1 (Nat.le_of_ble_eq_true rfl) dX1_take_49 ⟨by decide, by decide⟩ rfl (fun H locs hG hS => ?_)
          cases h
          exact hret _ _ _ _ dX1_take_52 rfl hG hS
    · replace h := xif_f h c9
      exact Jj3 _ h _ _ _ hG hS (lv_sub hl [0, 1, 2] rfl)
theorem hd_X1_take : yX1_take.cls = RX1 ∧ yX1_take.cls ≠ "java/lang/invoke/MethodHandle" ∧ yX1_take.cls ≠ "java/lang/invoke/VarHandle" ∧ (parseMethodDescriptor yX1_take.desc).map (fun d => d.parameters.length) = some 3 := by decide +kernel
abbrev rX1_read : Room := { frames := 8, cells := 0, slots := 0, locals := 205 }
set_option maxRecDepth 100000 in
set_option maxHeartbeats 8000000 in
theorem c_X1_read (l : Launch) (t : gP) (k1 : Nat) (x2 : Int) (k3 : Nat) (u : uS) (r : Int) (u' : uS) (h : f_X1_read k1 x2 k3 u = some (r, u')) : xMi l yX1_read wsX1_read rX1_read t [.ref (t.2.2.1 2), .ref (t.2.2.1 k1), .int (iI x2), .ref (t.2.2.1 k3)] u r u' 0 0 := by
  refine x_ofWi (cc := cX1_read) (maxL := 6) (ret := .int) (own := RX1) (by decide) rfl rfl (Nat.le_of_ble_eq_true rfl) ?_
  intro p e s m args below meth c Q X hret H locs ls hG hS hl
  replace hl : lv_has ls 6 [(0, .ref (t.2.2.1 2)), (1, .ref (t.2.2.1 k1)), (2, .int (iI x2)), (3, .ref (t.2.2.1 k3))] := hl
  have q2 : 2 < NN ∧ sT 2 = 5 := by decide
  have iX1 : ∀ w ∈ wsX10, w ∈ wsX1_read := by decide +kernel
  have w1 : Cond.fieldLink RX1 22 "TriggerNetwork$Grammar" "counts" "[I" ∈ wsX1_read := x_w 1 rfl
  have q8 : 8 < NN ∧ sT 8 = 100 ∧ sN 8 = 9 := by decide
  have w2 : Cond.fieldLink RX1 40 "TriggerNetwork$Grammar" "sort" "I" ∈ wsX1_read := x_w 2 rfl
  have w3 : Cond.fieldLink RX1 18 "TriggerNetwork$Grammar" "tokens" "LTriggerNetwork$Tokens;" ∈ wsX1_read := x_w 3 rfl
  have q3 : 3 < NN ∧ sT 3 = 12 := by decide
  have w6 : Cond.fieldLink RX1 9 "TriggerNetwork$Grammar" "errorAt" "I" ∈ wsX1_read := x_w 6 rfl
  have iX8 : ∀ w ∈ wsX80, w ∈ wsX1_read := by decide +kernel
  have w5 : Cond.fieldLink RX1 53 "TriggerNetwork$Tokens" "starts" "[I" ∈ wsX1_read := x_w 5 rfl
  have q5 : 5 < NN ∧ sT 5 = 100 ∧ sN 5 = 500 := by decide
  have w4 : Cond.fieldLink RX1 46 "TriggerNetwork$Tokens" "count" "I" ∈ wsX1_read := x_w 4 rfl
  unfold f_X1_read at h
  obtain ⟨g1, h⟩ := xgd_of h
  refine lv_aload_n X.1.1 X.1.2.1 dX1_read_0 rfl (lv_at hl 3 rfl) ?_
  obtain ⟨v2, u3, hf, h⟩ := xbd_of h
  refine x_callVv0 X hG hS (c_X5_reset l t _ _ _ _ hf) (cwV 0 X.1.2.2.2.2 gX1_read_X5_reset rfl rfl rfl hd_X5_reset ⟨Nat.le_of_ble_eq_true rfl, Nat.le_of_ble_eq_true rfl⟩) g1.2.1 g1.2.2 rfl (by decide) (by rfl) hl.1 (Nat.le_of_ble_eq_true rfl) dX1_read_1 ⟨by decide, by decide⟩ rfl (fun H locs hG hS => ?_)
  refine lv_aload_n X.1.1 X.1.2.1 dX1_read_4 rfl (lv_at hl 0 rfl) ?_
  refine x_getr X hG 5 2 2 6 (inC := iX1) rfl q2.1 q2.2 ⟨by decide, by decide, by decide, rfl, by decide, by decide⟩ w1 dX1_read_5 ?_
  refine x_iconst X dX1_read_8 ?_
  obtain ⟨v4, u5, hf, h⟩ := xbd_of h
  refine x_callSv0 X hG hS (c_J7_fill_53178 l t _ _ _ _ _ hf) (va_cwS 2 X.1.2.2.2.2 gX1_read_J7_fill_53178 rfl rfl rfl hds_J7_fill_53178 ⟨Nat.le_of_ble_eq_true rfl, Nat.le_of_ble_eq_true rfl⟩) (by rfl) hl.1 (Nat.le_of_ble_eq_true rfl) dX1_read_9 ⟨by decide, by decide⟩ rfl (fun H locs hG hS => ?_)
  refine lv_aload_n X.1.1 X.1.2.1 dX1_read_12 rfl (lv_at hl 0 rfl) ?_
  refine x_iconst X dX1_read_13 ?_
  refine x_puti X hG hS 5 4 2 4 _ tyX1 tyX1_ok nmX1 (inC := iX1) rfl q2.1 q2.2 ⟨by decide, by decide, by decide, rfl, rfl⟩ rfl (by decide +kernel) w2 dX1_read_14 (fun H locs hG hS => ?_)
  obtain ⟨u6, eu6, h⟩ := xlet_of h
  replace hG : G t u6 H := by rw [eu6]; exact hG
  refine lv_aload_n X.1.1 X.1.2.1 dX1_read_17 rfl (lv_at hl 0 rfl) ?_
  refine x_getr X hG 5 1 2 1 (inC := iX1) rfl q2.1 q2.2 ⟨by decide, by decide, by decide, rfl, by decide, by decide⟩ w3 dX1_read_18 ?_
  refine lv_aload_n X.1.1 X.1.2.1 dX1_read_21 rfl (lv_at hl 1 rfl) ?_
  refine lv_iload_n X.1.1 X.1.2.1 dX1_read_22 rfl (lv_at hl 2 rfl) ?_
  obtain ⟨v7, u8, hf, h⟩ := xbd_of h
  refine x_callVv0 X hG hS (c_X8_split l t _ _ _ _ _ hf) (cwV 2 X.1.2.2.2.2 gX1_read_X8_split rfl rfl rfl hd_X8_split ⟨Nat.le_of_ble_eq_true rfl, Nat.le_of_ble_eq_true rfl⟩) q3.1 q3.2 rfl (by decide) (by rfl) hl.1 (Nat.le_of_ble_eq_true rfl) dX1_read_23 ⟨by decide, by decide⟩ rfl (fun H locs hG hS => ?_)
  refine x_iconst X dX1_read_26 ?_
  refine lv_istore (lv' := [(4, .int (iI 0)), (0, .ref (t.2.2.1 2)), (1, .ref (t.2.2.1 k1)), (2, .int (iI x2)), (3, .ref (t.2.2.1 k3))]) X.1.1 X.1.2.1 dX1_read_27 hl (by decide) rfl (fun ls hl => ?_)
  obtain ⟨j9, ej9, h⟩ := xlet_of h
  have Jj9 : ∀ (u10 : uS), j9 u10 = some (r, u') → xG p l e rX1_read s m args below meth c t Q 6 0 0 87 u10 [(0, .ref (t.2.2.1 2)), (2, .int (iI x2)), (3, .ref (t.2.2.1 k3))] [] := by
      intro u10 h H locs ls hG hS hl
      replace h := (congrFun ej9 u10).symm.trans h
      refine lv_aload_n X.1.1 X.1.2.1 dX1_read_87 rfl (lv_at hl 0 rfl) ?_
      refine x_geti X hG 5 4 2 4 (inC := iX1) rfl q2.1 q2.2 ⟨by decide, by decide, by decide, rfl, rfl⟩ w2 dX1_read_88 ?_
      refine x_iconst X dX1_read_91 ?_
      obtain ⟨g11, h⟩ := xgd_of h
      refine x_icmp_eq (tgt := 102) X g11 ⟨by decide, by decide⟩ dX1_read_92 (by decide) (fun c12 => ?_) (fun c12 => ?_)
      · replace h := xif_t h c12
        refine lv_aload_n X.1.1 X.1.2.1 dX1_read_102 rfl (lv_at hl 0 rfl) ?_
        refine x_iconst X dX1_read_103 ?_
        refine x_puti X hG hS 5 0 2 0 _ tyX1 tyX1_ok nmX1 (inC := iX1) rfl q2.1 q2.2 ⟨by decide, by decide, by decide, rfl, rfl⟩ rfl (by decide +kernel) w6 dX1_read_104 (fun H locs hG hS => ?_)
        obtain ⟨u13, eu13, h⟩ := xlet_of h
        replace hG : G t u13 H := by rw [eu13]; exact hG
        refine lv_aload_n X.1.1 X.1.2.1 dX1_read_107 rfl (lv_at hl 2 rfl) ?_
        obtain ⟨v14, u15, hf, h⟩ := xbd_of h
        refine x_callVv0 X hG hS (c_X5_measure l t _ _ _ _ hf) (cwV 0 X.1.2.2.2.2 gX1_read_X5_measure rfl rfl rfl hd_X5_measure ⟨Nat.le_of_ble_eq_true rfl, Nat.le_of_ble_eq_true rfl⟩) g1.2.1 g1.2.2 rfl (by decide) (by rfl) hl.1 (Nat.le_of_ble_eq_true rfl) dX1_read_108 ⟨by decide, by decide⟩ rfl (fun H locs hG hS => ?_)
        refine x_iconst X dX1_read_111 ?_
        cases h
        exact hret _ _ _ _ dX1_read_112 rfl hG hS
      · replace h := xif_f h c12
        refine lv_aload_n X.1.1 X.1.2.1 dX1_read_95 rfl (lv_at hl 0 rfl) ?_
        refine lv_iload_n X.1.1 X.1.2.1 dX1_read_96 rfl (lv_at hl 1 rfl) ?_
        refine x_puti X hG hS 5 0 2 0 _ tyX1 tyX1_ok nmX1 (inC := iX1) rfl q2.1 q2.2 ⟨by decide, by decide, by decide, rfl, rfl⟩ rfl (by decide +kernel) w6 dX1_read_97 (fun H locs hG hS => ?_)
        obtain ⟨u16, eu16, h⟩ := xlet_of h
        replace hG : G t u16 H := by rw [eu16]; exact hG
        refine x_iconst X dX1_read_100 ?_
        cases h
        exact hret _ _ _ _ dX1_read_101 rfl hG hS
  obtain ⟨j17, ej17, h⟩ := xlet_of h
  have Jj17 : ∀ (x4_18 : Int) (x5_19 : Int) (u20 : uS), j17 x4_18 x5_19 u20 = some (r, u') → xG p l e rX1_read s m args below meth c t Q 6 0 0 64 u20 [(0, .ref (t.2.2.1 2)), (4, .int (iI x4_18)), (5, .int (iI x5_19))] [] := by
      intro x4_18 x5_19 u20 h H locs ls hG hS hl
      replace h := (congrFun (congrFun (congrFun ej17 x4_18) x5_19) u20).symm.trans h
      refine lv_aload_n X.1.1 X.1.2.1 dX1_read_64 rfl (lv_at hl 0 rfl) ?_
      refine lv_aload_n X.1.1 X.1.2.1 dX1_read_65 rfl (lv_at hl 0 rfl) ?_
      refine x_getr X hG 5 1 2 1 (inC := iX1) rfl q2.1 q2.2 ⟨by decide, by decide, by decide, rfl, by decide, by decide⟩ w3 dX1_read_66 ?_
      refine x_getr X hG 12 2 3 2 (inC := iX8) rfl q3.1 q3.2 ⟨by decide, by decide, by decide, rfl, by decide, by decide⟩ w5 dX1_read_69 ?_
      refine lv_iload X.1.1 X.1.2.1 dX1_read_72 (lv_at hl 1 rfl) ?_
      obtain ⟨g21, h⟩ := xgd_of h
      refine x_iald X hG q5.1 q5.2.1 (n := 500) q5.2.2 g21 (by decide) dX1_read_74 ?_
      refine x_puti X hG hS 5 0 2 0 _ tyX1 tyX1_ok nmX1 (inC := iX1) rfl q2.1 q2.2 ⟨by decide, by decide, by decide, rfl, rfl⟩ rfl (by decide +kernel) w6 dX1_read_75 (fun H locs hG hS => ?_)
      obtain ⟨u22, eu22, h⟩ := xlet_of h
      replace hG : G t u22 H := by rw [eu22]; exact hG
      refine lv_iload X.1.1 X.1.2.1 dX1_read_78 (lv_at hl 2 rfl) ?_
      cases h
      exact hret _ _ _ _ dX1_read_80 rfl hG hS
  have Lgo23 : ∀ (n : Nat) (x4_24 : Int) (u25 : uS), xl2 (s_X1_read_29 j9 k1 k3 j17) n x4_24 u25 = some (r, u') → xG p l e rX1_read s m args below meth c t Q 6 0 0 29 u25 [(4, .int (iI x4_24)), (0, .ref (t.2.2.1 2)), (1, .ref (t.2.2.1 k1)), (2, .int (iI x2)), (3, .ref (t.2.2.1 k3))] [] := by
    intro n x4_24 u25 h
    refine xl2_W (F := s_X1_read_29 j9 k1 k3 j17) (fun x4_24 u25 q => q = (r, u') → xG p l e rX1_read s m args below meth c t Q 6 0 0 29 u25 [(4, .int (iI x4_24)), (0, .ref (t.2.2.1 2)), (1, .ref (t.2.2.1 k1)), (2, .int (iI x2)), (3, .ref (t.2.2.1 k3))] []) ?_ n x4_24 u25 _ h rfl
    intro go23 igo23 x4_24 u25 q h hq H locs ls hG hS hl
    subst hq
    unfold s_X1_read_29 at h
    refine lv_iload X.1.1 X.1.2.1 dX1_read_29 (lv_at hl 0 rfl) ?_
    refine lv_aload_n X.1.1 X.1.2.1 dX1_read_31 rfl (lv_at hl 1 rfl) ?_
    refine x_getr X hG 5 1 2 1 (inC := iX1) rfl q2.1 q2.2 ⟨by decide, by decide, by decide, rfl, by decide, by decide⟩ w3 dX1_read_32 ?_
    refine x_geti X hG 12 0 3 0 (inC := iX8) rfl q3.1 q3.2 ⟨by decide, by decide, by decide, rfl, rfl⟩ w4 dX1_read_35 ?_
    obtain ⟨g26, h⟩ := xgd_of h
    refine x_icmp_ge (tgt := 87) X g26.1 g26.2 dX1_read_38 (by decide) (fun c27 => ?_) (fun c27 => ?_)
    · replace h := xif_t h c27
      exact Jj9 _ h _ _ _ hG hS (lv_sub hl [1, 3, 4] rfl)
    · replace h := xif_f h c27
      refine lv_iload X.1.1 X.1.2.1 dX1_read_41 (lv_at hl 0 rfl) ?_
      refine x_sipush X dX1_read_43 (by decide) ?_
      obtain ⟨g28, h⟩ := xgd_of h
      refine x_icmp_ge (tgt := 87) X g28 ⟨by decide, by decide⟩ dX1_read_46 (by decide) (fun c29 => ?_) (fun c29 => ?_)
      · replace h := xif_t h c29
        exact Jj9 _ h _ _ _ hG hS (lv_sub hl [1, 3, 4] rfl)
      · replace h := xif_f h c29
        refine lv_aload_n X.1.1 X.1.2.1 dX1_read_49 rfl (lv_at hl 1 rfl) ?_
        refine lv_iload X.1.1 X.1.2.1 dX1_read_50 (lv_at hl 0 rfl) ?_
        refine lv_aload_n X.1.1 X.1.2.1 dX1_read_52 rfl (lv_at hl 2 rfl) ?_
        refine lv_aload_n X.1.1 X.1.2.1 dX1_read_53 rfl (lv_at hl 4 rfl) ?_
        obtain ⟨v30, u31, hf, h⟩ := xbd_of h
        refine x_callVi0 X hG hS (c_X1_take l t _ _ _ _ _ _ hf) (cwV 3 X.1.2.2.2.2 gX1_read_X1_take rfl rfl rfl hd_X1_take ⟨Nat.le_of_ble_eq_true rfl, Nat.le_of_ble_eq_true rfl⟩) q2.1 q2.2 rfl (by decide) (by rfl) hl.1 (Nat.le_of_ble_eq_true rfl) dX1_read_54 ⟨by decide, by decide⟩ rfl (fun H locs hG hS => ?_)
        refine lv_istore (lv' := [(5, .int (iI v30)), (4, .int (iI x4_24)), (0, .ref (t.2.2.1 2)), (1, .ref (t.2.2.1 k1)), (2, .int (iI x2)), (3, .ref (t.2.2.1 k3))]) X.1.1 X.1.2.1 dX1_read_57 hl (by decide) rfl (fun ls hl => ?_)
        refine lv_iload X.1.1 X.1.2.1 dX1_read_59 (lv_at hl 0 rfl) ?_
        obtain ⟨g32, h⟩ := xgd_of h
        refine x_if_eq (tgt := 81) X g32 dX1_read_61 (by decide) (fun c33 => ?_) (fun c33 => ?_)
        · replace h := xif_t h c33
          refine lv_iinc (v := (iI (x4_24 + 1))) (lv' := [(4, .int (iI (x4_24 + 1))), (5, .int (iI v30)), (0, .ref (t.2.2.1 2)), (1, .ref (t.2.2.1 k1)), (2, .int (iI x2)), (3, .ref (t.2.2.1 k3))]) X.1.1 X.1.2.1 dX1_read_81 hl (k := 1) rfl (iI_add _ _) (by decide) rfl (fun ls hl => ?_)
          refine lv_goto (tgt := 29) X.1.1 X.1.2.1 dX1_read_84 (by decide) ?_
          exact igo23 _ _ _ h rfl _ _ _ hG hS (lv_sub hl [0, 2, 3, 4, 5] rfl)
        · replace h := xif_f h c33
          exact Jj17 _ _ _ h _ _ _ hG hS (lv_sub hl [2, 1, 0] rfl)
  exact Lgo23 FU _ _ h _ _ _ hG hS (lv_sub hl [0, 1, 2, 3, 4] rfl)
theorem hd_X1_read : yX1_read.cls = RX1 ∧ yX1_read.cls ≠ "java/lang/invoke/MethodHandle" ∧ yX1_read.cls ≠ "java/lang/invoke/VarHandle" ∧ (parseMethodDescriptor yX1_read.desc).map (fun d => d.parameters.length) = some 3 := by decide +kernel
abbrev rX7_clear : Room := { frames := 1, cells := 0, slots := 0, locals := 23 }
set_option maxRecDepth 100000 in
set_option maxHeartbeats 8000000 in
theorem c_X7_clear (l : Launch) (t : gP) (k0 : Nat) (u : uS) (r : Int) (u' : uS) (h : f_X7_clear k0 u = some (r, u')) : xMv l yX7_clear wsX7_clear rX7_clear t [.ref (t.2.2.1 k0)] u u' 0 0 := by
  refine x_ofWv (cc := cX7_clear) (maxL := 1) (own := RX7) (by decide) rfl rfl (Nat.le_of_ble_eq_true rfl) ?_
  intro p e s m args below meth c Q X hret H locs ls hG hS hl
  replace hl : lv_has ls 1 [(0, .ref (t.2.2.1 k0))] := hl
  have iX7 : ∀ w ∈ wsX70, w ∈ wsX7_clear := by decide +kernel
  have w1 : Cond.fieldLink RX7 54 "TriggerNetwork$Situation" "tick" "I" ∈ wsX7_clear := x_w 1 rfl
  have w2 : Cond.fieldLink RX7 58 "TriggerNetwork$Situation" "pickCount" "I" ∈ wsX7_clear := x_w 2 rfl
  have w3 : Cond.fieldLink RX7 61 "TriggerNetwork$Situation" "eventCount" "I" ∈ wsX7_clear := x_w 3 rfl
  have w4 : Cond.fieldLink RX7 9 "TriggerNetwork$Situation" "levels" "[I" ∈ wsX7_clear := x_w 4 rfl
  have w5 : Cond.fieldLink RX7 15 "TriggerNetwork$Situation" "samples" "[I" ∈ wsX7_clear := x_w 5 rfl
  have w6 : Cond.fieldLink RX7 18 "TriggerNetwork$Situation" "shortSums" "[I" ∈ wsX7_clear := x_w 6 rfl
  have w7 : Cond.fieldLink RX7 21 "TriggerNetwork$Situation" "longSums" "[I" ∈ wsX7_clear := x_w 7 rfl
  have w8 : Cond.fieldLink RX7 24 "TriggerNetwork$Situation" "triggered" "[I" ∈ wsX7_clear := x_w 8 rfl
  have w9 : Cond.fieldLink RX7 27 "TriggerNetwork$Situation" "muted" "[I" ∈ wsX7_clear := x_w 9 rfl
  have w10 : Cond.fieldLink RX7 30 "TriggerNetwork$Situation" "latestPicks" "[I" ∈ wsX7_clear := x_w 10 rfl
  unfold f_X7_clear at h
  obtain ⟨g1, h⟩ := xgd_of h
  refine lv_aload_n X.1.1 X.1.2.1 dX7_clear_0 rfl (lv_at hl 0 rfl) ?_
  refine x_iconst X dX7_clear_1 ?_
  refine x_puti X hG hS 11 0 k0 0 _ tyX7 tyX7_ok nmX7 (inC := iX7) rfl g1.1 g1.2 ⟨by decide, by decide, by decide, rfl, rfl⟩ rfl (by decide +kernel) w1 dX7_clear_2 (fun H locs hG hS => ?_)
  obtain ⟨u2, eu2, h⟩ := xlet_of h
  replace hG : G t u2 H := by rw [eu2]; exact hG
  refine lv_aload_n X.1.1 X.1.2.1 dX7_clear_5 rfl (lv_at hl 0 rfl) ?_
  refine x_iconst X dX7_clear_6 ?_
  refine x_puti X hG hS 11 1 k0 1 _ tyX7 tyX7_ok nmX7 (inC := iX7) rfl g1.1 g1.2 ⟨by decide, by decide, by decide, rfl, rfl⟩ rfl (by decide +kernel) w2 dX7_clear_7 (fun H locs hG hS => ?_)
  obtain ⟨u3, eu3, h⟩ := xlet_of h
  replace hG : G t u3 H := by rw [eu3]; exact hG
  refine lv_aload_n X.1.1 X.1.2.1 dX7_clear_10 rfl (lv_at hl 0 rfl) ?_
  refine x_iconst X dX7_clear_11 ?_
  refine x_puti X hG hS 11 2 k0 2 _ tyX7 tyX7_ok nmX7 (inC := iX7) rfl g1.1 g1.2 ⟨by decide, by decide, by decide, rfl, rfl⟩ rfl (by decide +kernel) w3 dX7_clear_12 (fun H locs hG hS => ?_)
  obtain ⟨u4, eu4, h⟩ := xlet_of h
  replace hG : G t u4 H := by rw [eu4]; exact hG
  refine lv_aload_n X.1.1 X.1.2.1 dX7_clear_15 rfl (lv_at hl 0 rfl) ?_
  refine x_getr X hG 11 3 k0 1 (inC := iX7) rfl g1.1 g1.2 ⟨by decide, by decide, by decide, rfl, by decide, by decide⟩ w4 dX7_clear_16 ?_
  refine x_iconst X dX7_clear_19 ?_
  obtain ⟨v5, u6, hf, h⟩ := xbd_of h
  refine x_callSv0 X hG hS (c_J7_fill_53178 l t _ _ _ _ _ hf) (va_cwS 2 X.1.2.2.2.2 gX7_clear_J7_fill_53178 rfl rfl rfl hds_J7_fill_53178 ⟨Nat.le_of_ble_eq_true rfl, Nat.le_of_ble_eq_true rfl⟩) (by rfl) hl.1 (Nat.le_of_ble_eq_true rfl) dX7_clear_20 ⟨by decide, by decide⟩ rfl (fun H locs hG hS => ?_)
  refine lv_aload_n X.1.1 X.1.2.1 dX7_clear_23 rfl (lv_at hl 0 rfl) ?_
  refine x_getr X hG 11 4 k0 2 (inC := iX7) rfl g1.1 g1.2 ⟨by decide, by decide, by decide, rfl, by decide, by decide⟩ w5 dX7_clear_24 ?_
  refine x_iconst X dX7_clear_27 ?_
  obtain ⟨v7, u8, hf, h⟩ := xbd_of h
  refine x_callSv0 X hG hS (c_J7_fill_53178 l t _ _ _ _ _ hf) (va_cwS 2 X.1.2.2.2.2 gX7_clear_J7_fill_53178 rfl rfl rfl hds_J7_fill_53178 ⟨Nat.le_of_ble_eq_true rfl, Nat.le_of_ble_eq_true rfl⟩) (by rfl) hl.1 (Nat.le_of_ble_eq_true rfl) dX7_clear_28 ⟨by decide, by decide⟩ rfl (fun H locs hG hS => ?_)
  refine lv_aload_n X.1.1 X.1.2.1 dX7_clear_31 rfl (lv_at hl 0 rfl) ?_
  refine x_getr X hG 11 5 k0 3 (inC := iX7) rfl g1.1 g1.2 ⟨by decide, by decide, by decide, rfl, by decide, by decide⟩ w6 dX7_clear_32 ?_
  refine x_iconst X dX7_clear_35 ?_
  obtain ⟨v9, u10, hf, h⟩ := xbd_of h
  refine x_callSv0 X hG hS (c_J7_fill_53178 l t _ _ _ _ _ hf) (va_cwS 2 X.1.2.2.2.2 gX7_clear_J7_fill_53178 rfl rfl rfl hds_J7_fill_53178 ⟨Nat.le_of_ble_eq_true rfl, Nat.le_of_ble_eq_true rfl⟩) (by rfl) hl.1 (Nat.le_of_ble_eq_true rfl) dX7_clear_36 ⟨by decide, by decide⟩ rfl (fun H locs hG hS => ?_)
  refine lv_aload_n X.1.1 X.1.2.1 dX7_clear_39 rfl (lv_at hl 0 rfl) ?_
  refine x_getr X hG 11 6 k0 4 (inC := iX7) rfl g1.1 g1.2 ⟨by decide, by decide, by decide, rfl, by decide, by decide⟩ w7 dX7_clear_40 ?_
  refine x_iconst X dX7_clear_43 ?_
  obtain ⟨v11, u12, hf, h⟩ := xbd_of h
  refine x_callSv0 X hG hS (c_J7_fill_53178 l t _ _ _ _ _ hf) (va_cwS 2 X.1.2.2.2.2 gX7_clear_J7_fill_53178 rfl rfl rfl hds_J7_fill_53178 ⟨Nat.le_of_ble_eq_true rfl, Nat.le_of_ble_eq_true rfl⟩) (by rfl) hl.1 (Nat.le_of_ble_eq_true rfl) dX7_clear_44 ⟨by decide, by decide⟩ rfl (fun H locs hG hS => ?_)
  refine lv_aload_n X.1.1 X.1.2.1 dX7_clear_47 rfl (lv_at hl 0 rfl) ?_
  refine x_getr X hG 11 7 k0 5 (inC := iX7) rfl g1.1 g1.2 ⟨by decide, by decide, by decide, rfl, by decide, by decide⟩ w8 dX7_clear_48 ?_
  refine x_iconst X dX7_clear_51 ?_
  obtain ⟨v13, u14, hf, h⟩ := xbd_of h
  refine x_callSv0 X hG hS (c_J7_fill_53178 l t _ _ _ _ _ hf) (va_cwS 2 X.1.2.2.2.2 gX7_clear_J7_fill_53178 rfl rfl rfl hds_J7_fill_53178 ⟨Nat.le_of_ble_eq_true rfl, Nat.le_of_ble_eq_true rfl⟩) (by rfl) hl.1 (Nat.le_of_ble_eq_true rfl) dX7_clear_52 ⟨by decide, by decide⟩ rfl (fun H locs hG hS => ?_)
  refine lv_aload_n X.1.1 X.1.2.1 dX7_clear_55 rfl (lv_at hl 0 rfl) ?_
  refine x_getr X hG 11 8 k0 6 (inC := iX7) rfl g1.1 g1.2 ⟨by decide, by decide, by decide, rfl, by decide, by decide⟩ w9 dX7_clear_56 ?_
  refine x_iconst X dX7_clear_59 ?_
  obtain ⟨v15, u16, hf, h⟩ := xbd_of h
  refine x_callSv0 X hG hS (c_J7_fill_53178 l t _ _ _ _ _ hf) (va_cwS 2 X.1.2.2.2.2 gX7_clear_J7_fill_53178 rfl rfl rfl hds_J7_fill_53178 ⟨Nat.le_of_ble_eq_true rfl, Nat.le_of_ble_eq_true rfl⟩) (by rfl) hl.1 (Nat.le_of_ble_eq_true rfl) dX7_clear_60 ⟨by decide, by decide⟩ rfl (fun H locs hG hS => ?_)
  refine lv_aload_n X.1.1 X.1.2.1 dX7_clear_63 rfl (lv_at hl 0 rfl) ?_
  refine x_getr X hG 11 9 k0 7 (inC := iX7) rfl g1.1 g1.2 ⟨by decide, by decide, by decide, rfl, by decide, by decide⟩ w10 dX7_clear_64 ?_
  refine x_iconst X dX7_clear_67 ?_
  obtain ⟨v17, u18, hf, h⟩ := xbd_of h
  refine x_callSv0 X hG hS (c_J7_fill_53178 l t _ _ _ _ _ hf) (va_cwS 2 X.1.2.2.2.2 gX7_clear_J7_fill_53178 rfl rfl rfl hds_J7_fill_53178 ⟨Nat.le_of_ble_eq_true rfl, Nat.le_of_ble_eq_true rfl⟩) (by rfl) hl.1 (Nat.le_of_ble_eq_true rfl) dX7_clear_68 ⟨by decide, by decide⟩ rfl (fun H locs hG hS => ?_)
  cases h
  exact hret _ _ _ _ dX7_clear_71 hG hS
theorem hd_X7_clear : yX7_clear.cls = RX7 ∧ yX7_clear.cls ≠ "java/lang/invoke/MethodHandle" ∧ yX7_clear.cls ≠ "java/lang/invoke/VarHandle" ∧ (parseMethodDescriptor yX7_clear.desc).map (fun d => d.parameters.length) = some 0 := by decide +kernel
abbrev rX9_adoptSpare : Room := { frames := 2, cells := 0, slots := 0, locals := 43 }
set_option maxRecDepth 100000 in
set_option maxHeartbeats 8000000 in
theorem c_X9_adoptSpare (l : Launch) (t : gP) (u : uS) (r : Int) (u' : uS) (h : f_X9_adoptSpare u = some (r, u')) : xMv l yX9_adoptSpare wsX9_adoptSpare rX9_adoptSpare t [.ref (t.2.2.1 0)] u u' 0 0 := by
  refine x_ofWv (cc := cX9_adoptSpare) (maxL := 2) (own := RX9) (by decide) rfl rfl (Nat.le_of_ble_eq_true rfl) ?_
  intro p e s m args below meth c Q X hret H locs ls hG hS hl
  replace hl : lv_has ls 2 [(0, .ref (t.2.2.1 0))] := hl
  have q0 : 0 < NN ∧ sT 0 = 13 := by decide
  have iX9 : ∀ w ∈ wsX90, w ∈ wsX9_adoptSpare := by decide +kernel
  have w1 : Cond.fieldLink RX9 34 "TriggerNetwork" "spare" "LTriggerNetwork$Network;" ∈ wsX9_adoptSpare := x_w 1 rfl
  have w2 : Cond.fieldLink RX9 30 "TriggerNetwork" "network" "LTriggerNetwork$Network;" ∈ wsX9_adoptSpare := x_w 2 rfl
  have w3 : Cond.fieldLink RX9 40 "TriggerNetwork" "now" "LTriggerNetwork$Situation;" ∈ wsX9_adoptSpare := x_w 3 rfl
  have q54 : 54 < NN ∧ sT 54 = 11 := by decide
  have w4 : Cond.fieldLink RX9 50 "TriggerNetwork" "memory" "LTriggerNetwork$Memory;" ∈ wsX9_adoptSpare := x_w 4 rfl
  have q33 : 33 < NN ∧ sT 33 = 8 := by decide
  unfold f_X9_adoptSpare at h
  refine lv_aload_n X.1.1 X.1.2.1 dX9_adoptSpare_0 rfl (lv_at hl 0 rfl) ?_
  obtain ⟨n1, en1, h⟩ := xlet_of h
  refine x_getd X hG 13 5 0 5 (inC := iX9) rfl q0.1 q0.2 ⟨by decide, by decide, by decide, rfl, rfl⟩ en1 w1 dX9_adoptSpare_1 ?_
  obtain ⟨g2, h⟩ := xgd_of h
  refine lv_astore_n (lv' := [(1, .ref (t.2.2.1 n1)), (0, .ref (t.2.2.1 0))]) X.1.1 X.1.2.1 dX9_adoptSpare_4 rfl hl (by decide) rfl (fun ls hl => ?_)
  refine lv_aload_n X.1.1 X.1.2.1 dX9_adoptSpare_5 rfl (lv_at hl 1 rfl) ?_
  refine lv_aload_n X.1.1 X.1.2.1 dX9_adoptSpare_6 rfl (lv_at hl 1 rfl) ?_
  obtain ⟨n3, en3, h⟩ := xlet_of h
  refine x_getd X hG 13 4 0 4 (inC := iX9) rfl q0.1 q0.2 ⟨by decide, by decide, by decide, rfl, rfl⟩ en3 w2 dX9_adoptSpare_7 ?_
  obtain ⟨g4, h⟩ := xgd_of h
  refine x_putd (E := "TriggerNetwork$Network") X hG hS 13 5 0 _ 5 tyX9 tyX9_ok nmX9 (inC := iX9) rfl q0.1 q0.2 ⟨by decide, by decide, by decide, rfl, rfl⟩ rfl (by decide +kernel) w1 dX9_adoptSpare_10 (fun H locs hG hS => ?_)
  obtain ⟨u5, eu5, h⟩ := xlet_of h
  replace hG : G t u5 H := by rw [eu5]; exact hG
  refine lv_aload_n X.1.1 X.1.2.1 dX9_adoptSpare_13 rfl (lv_at hl 1 rfl) ?_
  refine lv_aload_n X.1.1 X.1.2.1 dX9_adoptSpare_14 rfl (lv_at hl 0 rfl) ?_
  refine x_putd (E := "TriggerNetwork$Network") X hG hS 13 4 0 _ 4 tyX9 tyX9_ok nmX9 (inC := iX9) rfl q0.1 q0.2 ⟨by decide, by decide, by decide, rfl, rfl⟩ rfl (by decide +kernel) w2 dX9_adoptSpare_15 (fun H locs hG hS => ?_)
  obtain ⟨u6, eu6, h⟩ := xlet_of h
  replace hG : G t u6 H := by rw [eu6]; exact hG
  refine lv_aload_n X.1.1 X.1.2.1 dX9_adoptSpare_18 rfl (lv_at hl 1 rfl) ?_
  refine x_getr X hG 13 6 0 54 (inC := iX9) rfl q0.1 q0.2 ⟨by decide, by decide, by decide, rfl, by decide, by decide⟩ w3 dX9_adoptSpare_19 ?_
  obtain ⟨v7, u8, hf, h⟩ := xbd_of h
  refine x_callVv0 X hG hS (c_X7_clear l t _ _ _ _ hf) (cwV 0 X.1.2.2.2.2 gX9_adoptSpare_X7_clear rfl rfl rfl hd_X7_clear ⟨Nat.le_of_ble_eq_true rfl, Nat.le_of_ble_eq_true rfl⟩) q54.1 q54.2 rfl (by decide) (by rfl) hl.1 (Nat.le_of_ble_eq_true rfl) dX9_adoptSpare_22 ⟨by decide, by decide⟩ rfl (fun H locs hG hS => ?_)
  refine lv_aload_n X.1.1 X.1.2.1 dX9_adoptSpare_25 rfl (lv_at hl 1 rfl) ?_
  refine x_getr X hG 13 8 0 33 (inC := iX9) rfl q0.1 q0.2 ⟨by decide, by decide, by decide, rfl, by decide, by decide⟩ w4 dX9_adoptSpare_26 ?_
  obtain ⟨v9, u10, hf, h⟩ := xbd_of h
  refine x_callVv0 X hG hS (c_X4_forget l t  _ _ _ hf) (cwV 0 X.1.2.2.2.2 gX9_adoptSpare_X4_forget rfl rfl rfl hd_X4_forget ⟨Nat.le_of_ble_eq_true rfl, Nat.le_of_ble_eq_true rfl⟩) q33.1 q33.2 rfl (by decide) (by rfl) hl.1 (Nat.le_of_ble_eq_true rfl) dX9_adoptSpare_29 ⟨by decide, by decide⟩ rfl (fun H locs hG hS => ?_)
  cases h
  exact hret _ _ _ _ dX9_adoptSpare_32 hG hS
theorem hd_X9_adoptSpare : yX9_adoptSpare.cls = RX9 ∧ yX9_adoptSpare.cls ≠ "java/lang/invoke/MethodHandle" ∧ yX9_adoptSpare.cls ≠ "java/lang/invoke/VarHandle" ∧ (parseMethodDescriptor yX9_adoptSpare.desc).map (fun d => d.parameters.length) = some 0 := by decide +kernel
abbrev rX9_parse : Room := { frames := 9, cells := 1, slots := 6, locals := 230 }
set_option maxRecDepth 100000 in
set_option maxHeartbeats 8000000 in
theorem c_X9_parse (l : Launch) (hfl : l.stackTraces = false) (t : gP) (x1 : Int) (u : uS) (g : Nat) (r : Int) (u' : uS) (h : f_X9_parse x1 u = some (g, r, u')) : xTi l yX9_parse wsX9_parse rX9_parse t [.ref (t.2.2.1 0), .int (iI x1)] u g r u' 1 6 := by
  refine x_ofTi (cc := cX9_parse) (maxL := 3) (ret := .int) (own := RX9) (by decide) rfl rfl (Nat.le_of_ble_eq_true rfl) ?_
  intro p e s m args below meth c Q hQ X hlk htab hret hxo H locs ls hG hS hl
  replace hl : lv_has ls 3 [(0, .ref (t.2.2.1 0)), (1, .int (iI x1))] := hl
  have q0 : 0 < NN ∧ sT 0 = 13 := by decide
  have w1 : Cond.classLink RX9 79 "java/lang/IllegalArgumentException" ∈ wsX9_parse := x_w 1 rfl
  have w2 : Cond.initialized "java/lang/IllegalArgumentException" ∈ wsX9_parse := x_w 2 rfl
  have iX9 : ∀ w ∈ wsX90, w ∈ wsX9_parse := by decide +kernel
  have w3 : Cond.fieldLink RX9 13 "TriggerNetwork" "bufferLength" "I" ∈ wsX9_parse := x_w 3 rfl
  have w4 : Cond.fieldLink RX9 23 "TriggerNetwork" "grammar" "LTriggerNetwork$Grammar;" ∈ wsX9_parse := x_w 4 rfl
  have q2 : 2 < NN ∧ sT 2 = 5 := by decide
  have w5 : Cond.fieldLink RX9 9 "TriggerNetwork" "buffer" "[I" ∈ wsX9_parse := x_w 5 rfl
  have q1 : 1 < NN ∧ sT 1 = 100 ∧ sN 1 = 500 := by decide
  have w6 : Cond.fieldLink RX9 34 "TriggerNetwork" "spare" "LTriggerNetwork$Network;" ∈ wsX9_parse := x_w 6 rfl
  have iX1 : ∀ w ∈ wsX10, w ∈ wsX9_parse := by decide +kernel
  have w7 : Cond.fieldLink RX9 90 "TriggerNetwork$Grammar" "errorAt" "I" ∈ wsX9_parse := x_w 7 rfl
  have w8 : Cond.fieldLink RX9 17 "TriggerNetwork" "errorAt" "I" ∈ wsX9_parse := x_w 8 rfl
  unfold f_X9_parse at h
  refine lv_iload_n X.1.1 X.1.2.1 dX9_parse_0 rfl (lv_at hl 1 rfl) ?_
  obtain ⟨g1, h⟩ := xgd_of h
  obtain ⟨j2, ej2, h⟩ := xlet_of h
  have Jj2 : ∀ (u3 : uS), j2 u3 = some (g, r, u') → xG p l e rX9_parse s m args below meth c t Q 3 0 0 12 u3 [] [] := by
      intro u3 h H locs ls hG hS hl
      replace h := (congrFun ej2 u3).symm.trans h
      cases h
      exact x_thrS X hG hS hfl hlk htab hl.1 (g := 2) (by decide) hQ (by decide) w1 w2 (x_m 0 rfl) (fun w q => List.mem_cons_of_mem _ (List.mem_append_right _ q)) xng_2 xot_2 dX9_parse_12 dX9_parse_15 dX9_parse_16 dX9_parse_18 dX9_parse_21 (by decide) (by decide) (by decide) (by decide) (by decide) (by decide)
  refine x_if_lt (tgt := 12) X g1 dX9_parse_1 (by decide) (fun c4 => ?_) (fun c4 => ?_)
  · replace h := xif_t h c4
    exact Jj2 _ h _ _ _ hG hS (lv_sub hl [] rfl)
  · replace h := xif_f h c4
    refine lv_iload_n X.1.1 X.1.2.1 dX9_parse_4 rfl (lv_at hl 1 rfl) ?_
    refine lv_aload_n X.1.1 X.1.2.1 dX9_parse_5 rfl (lv_at hl 0 rfl) ?_
    refine x_geti X hG 13 1 0 1 (inC := iX9) rfl q0.1 q0.2 ⟨by decide, by decide, by decide, rfl, rfl⟩ w3 dX9_parse_6 ?_
    obtain ⟨g5, h⟩ := xgd_of h
    refine x_icmp_le (tgt := 22) X g5.1 g5.2 dX9_parse_9 (by decide) (fun c6 => ?_) (fun c6 => ?_)
    · replace h := xif_t h c6
      refine lv_aload_n X.1.1 X.1.2.1 dX9_parse_22 rfl (lv_at hl 0 rfl) ?_
      refine x_iconst X dX9_parse_23 ?_
      refine x_puti X hG hS 13 1 0 1 _ tyX9 tyX9_ok nmX9 (inC := iX9) rfl q0.1 q0.2 ⟨by decide, by decide, by decide, rfl, rfl⟩ rfl (by decide +kernel) w3 dX9_parse_24 (fun H locs hG hS => ?_)
      obtain ⟨u7, eu7, h⟩ := xlet_of h
      replace hG : G t u7 H := by rw [eu7]; exact hG
      refine lv_aload_n X.1.1 X.1.2.1 dX9_parse_27 rfl (lv_at hl 0 rfl) ?_
      refine x_getr X hG 13 3 0 2 (inC := iX9) rfl q0.1 q0.2 ⟨by decide, by decide, by decide, rfl, by decide, by decide⟩ w4 dX9_parse_28 ?_
      refine lv_aload_n X.1.1 X.1.2.1 dX9_parse_31 rfl (lv_at hl 0 rfl) ?_
      refine x_getr X hG 13 0 0 1 (inC := iX9) rfl q0.1 q0.2 ⟨by decide, by decide, by decide, rfl, by decide, by decide⟩ w5 dX9_parse_32 ?_
      refine lv_iload_n X.1.1 X.1.2.1 dX9_parse_35 rfl (lv_at hl 1 rfl) ?_
      refine lv_aload_n X.1.1 X.1.2.1 dX9_parse_36 rfl (lv_at hl 0 rfl) ?_
      obtain ⟨n8, en8, h⟩ := xlet_of h
      refine x_getd X hG 13 5 0 5 (inC := iX9) rfl q0.1 q0.2 ⟨by decide, by decide, by decide, rfl, rfl⟩ en8 w6 dX9_parse_37 ?_
      obtain ⟨g9, h⟩ := xgd_of h
      obtain ⟨v10, u11, hf, h⟩ := xbd_of h
      refine x_callVi0 X hG hS (c_X1_read l t _ _ _ _ _ _ hf) (cwV 3 X.1.2.2.2.2 gX9_parse_X1_read rfl rfl rfl hd_X1_read ⟨Nat.le_of_ble_eq_true rfl, Nat.le_of_ble_eq_true rfl⟩) q2.1 q2.2 rfl (by decide) (by rfl) hl.1 (Nat.le_of_ble_eq_true rfl) dX9_parse_40 ⟨by decide, by decide⟩ rfl (fun H locs hG hS => ?_)
      refine lv_istore_n (lv' := [(2, .int (iI v10)), (0, .ref (t.2.2.1 0)), (1, .int (iI x1))]) X.1.1 X.1.2.1 dX9_parse_43 rfl hl (by decide) rfl (fun ls hl => ?_)
      refine lv_aload_n X.1.1 X.1.2.1 dX9_parse_44 rfl (lv_at hl 1 rfl) ?_
      refine lv_aload_n X.1.1 X.1.2.1 dX9_parse_45 rfl (lv_at hl 1 rfl) ?_
      refine x_getr X hG 13 3 0 2 (inC := iX9) rfl q0.1 q0.2 ⟨by decide, by decide, by decide, rfl, by decide, by decide⟩ w4 dX9_parse_46 ?_
      refine x_geti X hG 5 0 2 0 (inC := iX1) rfl q2.1 q2.2 ⟨by decide, by decide, by decide, rfl, rfl⟩ w7 dX9_parse_49 ?_
      refine x_puti X hG hS 13 2 0 2 _ tyX9 tyX9_ok nmX9 (inC := iX9) rfl q0.1 q0.2 ⟨by decide, by decide, by decide, rfl, rfl⟩ rfl (by decide +kernel) w8 dX9_parse_52 (fun H locs hG hS => ?_)
      obtain ⟨u12, eu12, h⟩ := xlet_of h
      replace hG : G t u12 H := by rw [eu12]; exact hG
      refine lv_iload_n X.1.1 X.1.2.1 dX9_parse_55 rfl (lv_at hl 0 rfl) ?_
      obtain ⟨g13, h⟩ := xgd_of h
      refine x_if_ne (tgt := 63) X g13 dX9_parse_56 (by decide) (fun c14 => ?_) (fun c14 => ?_)
      · replace h := xif_f h c14
        refine lv_iload_n X.1.1 X.1.2.1 dX9_parse_63 rfl (lv_at hl 0 rfl) ?_
        cases h
        exact hret _ _ _ _ _ _ (by decide) (by decide) rfl dX9_parse_64 rfl hG hS
      · replace h := xif_t h c14
        refine lv_aload_n X.1.1 X.1.2.1 dX9_parse_59 rfl (lv_at hl 1 rfl) ?_
        obtain ⟨v15, u16, hf, h⟩ := xbd_of h
        refine x_callVv0 X hG hS (c_X9_adoptSpare l t  _ _ _ hf) (cwV 0 X.1.2.2.2.2 gX9_parse_X9_adoptSpare rfl rfl rfl hd_X9_adoptSpare ⟨Nat.le_of_ble_eq_true rfl, Nat.le_of_ble_eq_true rfl⟩) q0.1 q0.2 rfl (by decide) (by rfl) hl.1 (Nat.le_of_ble_eq_true rfl) dX9_parse_60 ⟨by decide, by decide⟩ rfl (fun H locs hG hS => ?_)
        refine lv_iload_n X.1.1 X.1.2.1 dX9_parse_63 rfl (lv_at hl 0 rfl) ?_
        cases h
        exact hret _ _ _ _ _ _ (by decide) (by decide) rfl dX9_parse_64 rfl hG hS
    · replace h := xif_f h c6
      exact Jj2 _ h _ _ _ hG hS (lv_sub hl [] rfl)
theorem hd_X9_parse : yX9_parse.cls = RX9 ∧ yX9_parse.cls ≠ "java/lang/invoke/MethodHandle" ∧ yX9_parse.cls ≠ "java/lang/invoke/VarHandle" ∧ (parseMethodDescriptor yX9_parse.desc).map (fun d => d.parameters.length) = some 1 := by decide +kernel
