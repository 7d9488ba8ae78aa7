abbrev rX3_gather : Room := { frames := 0, cells := 0, slots := 0, locals := 0 }
set_option maxRecDepth 100000 in
set_option maxHeartbeats 8000000 in
theorem c_X3_gather (l : Launch) (t : gP) (k1 : Nat) (x2 : Int) (u : uS) (r : Int) (u' : uS) (h : f_X3_gather k1 x2 u = some (r, u')) : xMv l yX3_gather wsX3_gather rX3_gather t [.ref (t.2.2.1 30), .ref (t.2.2.1 k1), .int (iI x2)] u u' 0 0 := by
  refine x_ofWv (cc := cX3_gather) (maxL := 4) (own := RX3) (by decide) rfl rfl (Nat.le_of_ble_eq_true rfl) ?_
  intro p e s m args below meth c Q X hret H locs ls hG hS hl
  replace hl : lv_has ls 4 [(0, .ref (t.2.2.1 30)), (1, .ref (t.2.2.1 k1)), (2, .int (iI x2))] := hl
  have q30 : 30 < NN ∧ sT 30 = 7 := by decide
  have iX3 : ∀ w ∈ wsX30, w ∈ wsX3_gather := by decide +kernel
  have w1 : Cond.fieldLink RX3 18 "TriggerNetwork$Locator" "count" "I" ∈ wsX3_gather := x_w 1 rfl
  have iX7 : ∀ w ∈ wsX70, w ∈ wsX3_gather := by decide +kernel
  have w2 : Cond.fieldLink RX3 22 "TriggerNetwork$Situation" "pickCount" "I" ∈ wsX3_gather := x_w 2 rfl
  have w3 : Cond.fieldLink RX3 27 "TriggerNetwork$Situation" "pickEvents" "[I" ∈ wsX3_gather := x_w 3 rfl
  have w4 : Cond.fieldLink RX3 9 "TriggerNetwork$Locator" "members" "[I" ∈ wsX3_gather := x_w 4 rfl
  have q31 : 31 < NN ∧ sT 31 = 100 ∧ sN 31 = 60 := by decide
  unfold f_X3_gather at h
  obtain ⟨g1, h⟩ := xgd_of h
  refine lv_aload_n X.1.1 X.1.2.1 dX3_gather_0 rfl (lv_at hl 0 rfl) ?_
  refine x_iconst X dX3_gather_1 ?_
  refine x_puti X hG hS 7 0 30 0 _ tyX3 tyX3_ok nmX3 (inC := iX3) rfl q30.1 q30.2 ⟨by decide, by decide, by decide, rfl, rfl⟩ rfl (by decide +kernel) w1 dX3_gather_2 (fun H locs hG hS => ?_)
  obtain ⟨u2, eu2, h⟩ := xlet_of h
  replace hG : G t u2 H := by rw [eu2]; exact hG
  refine x_iconst X dX3_gather_5 ?_
  refine lv_istore_n (lv' := [(3, .int (iI 0)), (0, .ref (t.2.2.1 30)), (1, .ref (t.2.2.1 k1)), (2, .int (iI x2))]) X.1.1 X.1.2.1 dX3_gather_6 rfl hl (by decide) rfl (fun ls hl => ?_)
  have Lgo3 : ∀ (n : Nat) (x3_4 : Int) (u5 : uS), xl2 (s_X3_gather_7 k1 x2) n x3_4 u5 = some (r, u') → xG p l e rX3_gather s m args below meth c t Q 4 0 0 7 u5 [(3, .int (iI x3_4)), (0, .ref (t.2.2.1 30)), (1, .ref (t.2.2.1 k1)), (2, .int (iI x2))] [] := by
    intro n x3_4 u5 h
    refine xl2_W (F := s_X3_gather_7 k1 x2) (fun x3_4 u5 q => q = (r, u') → xG p l e rX3_gather s m args below meth c t Q 4 0 0 7 u5 [(3, .int (iI x3_4)), (0, .ref (t.2.2.1 30)), (1, .ref (t.2.2.1 k1)), (2, .int (iI x2))] []) ?_ n x3_4 u5 _ h rfl
    intro go3 igo3 x3_4 u5 q h hq H locs ls hG hS hl
    subst hq
    unfold s_X3_gather_7 at h
    refine lv_iload_n X.1.1 X.1.2.1 dX3_gather_7 rfl (lv_at hl 0 rfl) ?_
    refine lv_aload_n X.1.1 X.1.2.1 dX3_gather_8 rfl (lv_at hl 2 rfl) ?_
    refine x_geti X hG 11 1 k1 1 (inC := iX7) rfl g1.1 g1.2 ⟨by decide, by decide, by decide, rfl, rfl⟩ w2 dX3_gather_9 ?_
    obtain ⟨g6, h⟩ := xgd_of h
    refine x_icmp_ge (tgt := 66) X g6.1 g6.2 dX3_gather_12 (by decide) (fun c7 => ?_) (fun c7 => ?_)
    · replace h := xif_t h c7
      cases h
      exact hret _ _ _ _ dX3_gather_66 hG hS
    · replace h := xif_f h c7
      refine lv_iload_n X.1.1 X.1.2.1 dX3_gather_15 rfl (lv_at hl 0 rfl) ?_
      refine x_bipush X dX3_gather_16 (by decide) ?_
      obtain ⟨g8, h⟩ := xgd_of h
      refine x_icmp_ge (tgt := 66) X g8 ⟨by decide, by decide⟩ dX3_gather_18 (by decide) (fun c9 => ?_) (fun c9 => ?_)
      · replace h := xif_t h c9
        cases h
        exact hret _ _ _ _ dX3_gather_66 hG hS
      · replace h := xif_f h c9
        refine lv_aload_n X.1.1 X.1.2.1 dX3_gather_21 rfl (lv_at hl 2 rfl) ?_
        refine x_getr X hG 11 13 k1 11 (inC := iX7) rfl g1.1 g1.2 ⟨by decide, by decide, by decide, rfl, by decide, by decide⟩ w3 dX3_gather_22 ?_
        refine lv_iload_n X.1.1 X.1.2.1 dX3_gather_25 rfl (lv_at hl 0 rfl) ?_
        obtain ⟨g10, h⟩ := xgd_of h
        refine x_iald X hG (fx_11_13 g1).1 (fx_11_13 g1).2.1 (n := 60) (fx_11_13 g1).2.2 g10 (by decide) dX3_gather_26 ?_
        refine lv_iload_n X.1.1 X.1.2.1 dX3_gather_27 rfl (lv_at hl 3 rfl) ?_
        obtain ⟨g11, h⟩ := xgd_of h
        refine x_icmp_ne (tgt := 60) X g11.1 g11.2 dX3_gather_28 (by decide) (fun c12 => ?_) (fun c12 => ?_)
        · replace h := xif_f h c12
          refine lv_iinc (v := (iI (x3_4 + 1))) (lv' := [(3, .int (iI (x3_4 + 1))), (0, .ref (t.2.2.1 30)), (1, .ref (t.2.2.1 k1)), (2, .int (iI x2))]) X.1.1 X.1.2.1 dX3_gather_60 hl (k := 0) rfl (iI_add _ _) (by decide) rfl (fun ls hl => ?_)
          refine lv_goto (tgt := 7) X.1.1 X.1.2.1 dX3_gather_63 (by decide) ?_
          exact igo3 _ _ _ h rfl _ _ _ hG hS (lv_sub hl [0, 1, 2, 3] rfl)
        · replace h := xif_t h c12
          refine lv_aload_n X.1.1 X.1.2.1 dX3_gather_31 rfl (lv_at hl 1 rfl) ?_
          refine x_geti X hG 7 0 30 0 (inC := iX3) rfl q30.1 q30.2 ⟨by decide, by decide, by decide, rfl, rfl⟩ w1 dX3_gather_32 ?_
          refine x_bipush X dX3_gather_35 (by decide) ?_
          obtain ⟨g13, h⟩ := xgd_of h
          refine x_icmp_ge (tgt := 60) X g13 ⟨by decide, by decide⟩ dX3_gather_37 (by decide) (fun c14 => ?_) (fun c14 => ?_)
          · replace h := xif_t h c14
            refine lv_iinc (v := (iI (x3_4 + 1))) (lv' := [(3, .int (iI (x3_4 + 1))), (0, .ref (t.2.2.1 30)), (1, .ref (t.2.2.1 k1)), (2, .int (iI x2))]) X.1.1 X.1.2.1 dX3_gather_60 hl (k := 0) rfl (iI_add _ _) (by decide) rfl (fun ls hl => ?_)
            refine lv_goto (tgt := 7) X.1.1 X.1.2.1 dX3_gather_63 (by decide) ?_
            exact igo3 _ _ _ h rfl _ _ _ hG hS (lv_sub hl [0, 1, 2, 3] rfl)
          · replace h := xif_f h c14
            refine lv_aload_n X.1.1 X.1.2.1 dX3_gather_40 rfl (lv_at hl 1 rfl) ?_
            refine x_getr X hG 7 4 30 1 (inC := iX3) rfl q30.1 q30.2 ⟨by decide, by decide, by decide, rfl, by decide, by decide⟩ w4 dX3_gather_41 ?_
            refine lv_aload_n X.1.1 X.1.2.1 dX3_gather_44 rfl (lv_at hl 1 rfl) ?_
            refine x_geti X hG 7 0 30 0 (inC := iX3) rfl q30.1 q30.2 ⟨by decide, by decide, by decide, rfl, rfl⟩ w1 dX3_gather_45 ?_
            refine lv_iload_n X.1.1 X.1.2.1 dX3_gather_48 rfl (lv_at hl 0 rfl) ?_
            obtain ⟨g15, h⟩ := xgd_of h
            refine x_iast X hG hS q31.1 q31.2.1 (n := 60) q31.2.2 g15 (by decide) dX3_gather_49 (fun H locs hG hS => ?_)
            obtain ⟨u16, eu16, h⟩ := xlet_of h
            replace hG : G t u16 H := by rw [eu16]; exact hG
            refine lv_aload_n X.1.1 X.1.2.1 dX3_gather_50 rfl (lv_at hl 1 rfl) ?_
            refine lv_dup X.1.1 X.1.2.1 dX3_gather_51 rfl ?_
            refine x_geti X hG 7 0 30 0 (inC := iX3) rfl q30.1 q30.2 ⟨by decide, by decide, by decide, rfl, rfl⟩ w1 dX3_gather_52 ?_
            refine x_iconst X dX3_gather_55 ?_
            refine x_iadd X dX3_gather_56 ?_
            refine x_puti X hG hS 7 0 30 0 _ tyX3 tyX3_ok nmX3 (inC := iX3) rfl q30.1 q30.2 ⟨by decide, by decide, by decide, rfl, rfl⟩ rfl (by decide +kernel) w1 dX3_gather_57 (fun H locs hG hS => ?_)
            obtain ⟨u17, eu17, h⟩ := xlet_of h
            replace hG : G t u17 H := by rw [eu17]; exact hG
            refine lv_iinc (v := (iI (x3_4 + 1))) (lv' := [(3, .int (iI (x3_4 + 1))), (0, .ref (t.2.2.1 30)), (1, .ref (t.2.2.1 k1)), (2, .int (iI x2))]) X.1.1 X.1.2.1 dX3_gather_60 hl (k := 0) rfl (iI_add _ _) (by decide) rfl (fun ls hl => ?_)
            refine lv_goto (tgt := 7) X.1.1 X.1.2.1 dX3_gather_63 (by decide) ?_
            exact igo3 _ _ _ h rfl _ _ _ hG hS (lv_sub hl [0, 1, 2, 3] rfl)
  exact Lgo3 FU _ _ h _ _ _ hG hS (lv_sub hl [0, 1, 2, 3] rfl)
theorem hd_X3_gather : yX3_gather.cls = RX3 ∧ yX3_gather.cls ≠ "java/lang/invoke/MethodHandle" ∧ yX3_gather.cls ≠ "java/lang/invoke/VarHandle" ∧ (parseMethodDescriptor yX3_gather.desc).map (fun d => d.parameters.length) = some 2 := by decide +kernel
abbrev rX3_delay : Room := { frames := 2, cells := 0, slots := 0, locals := 45 }
set_option maxRecDepth 100000 in
set_option maxHeartbeats 8000000 in
theorem c_X3_delay (l : Launch) (t : gP) (k1 : Nat) (k2 : Nat) (x3 : Int) (u : uS) (r : Int) (u' : uS) (h : f_X3_delay k1 k2 x3 u = some (r, u')) : xMi l yX3_delay wsX3_delay rX3_delay t [.ref (t.2.2.1 30), .ref (t.2.2.1 k1), .ref (t.2.2.1 k2), .int (iI x3)] u r u' 0 0 := by
  refine x_ofWi (cc := cX3_delay) (maxL := 4) (ret := .int) (own := RX3) (by decide) rfl rfl (Nat.le_of_ble_eq_true rfl) ?_
  intro p e s m args below meth c Q X hret H locs ls hG hS hl
  replace hl : lv_has ls 4 [(0, .ref (t.2.2.1 30)), (1, .ref (t.2.2.1 k1)), (2, .ref (t.2.2.1 k2)), (3, .int (iI x3))] := hl
  have q30 : 30 < NN ∧ sT 30 = 7 := by decide
  have iX7 : ∀ w ∈ wsX70, w ∈ wsX3_delay := by decide +kernel
  have w1 : Cond.fieldLink RX3 69 "TriggerNetwork$Situation" "pickTimes" "[I" ∈ wsX3_delay := x_w 1 rfl
  have iX3 : ∀ w ∈ wsX30, w ∈ wsX3_delay := by decide +kernel
  have w2 : Cond.fieldLink RX3 53 "TriggerNetwork$Locator" "node" "I" ∈ wsX3_delay := x_w 2 rfl
  have w3 : Cond.fieldLink RX3 72 "TriggerNetwork$Situation" "pickStations" "[I" ∈ wsX3_delay := x_w 3 rfl
  unfold f_X3_delay at h
  obtain ⟨g1, h⟩ := xgd_of h
  refine lv_iload_n X.1.1 X.1.2.1 dX3_delay_0 rfl (lv_at hl 3 rfl) ?_
  obtain ⟨g2, h⟩ := xgd_of h
  refine x_if_lt (tgt := 10) X g2 dX3_delay_1 (by decide) (fun c3 => ?_) (fun c3 => ?_)
  · replace h := xif_t h c3
    refine x_iconst X dX3_delay_10 ?_
    cases h
    exact hret _ _ _ _ dX3_delay_11 rfl hG hS
  · replace h := xif_f h c3
    refine lv_iload_n X.1.1 X.1.2.1 dX3_delay_4 rfl (lv_at hl 3 rfl) ?_
    refine x_bipush X dX3_delay_5 (by decide) ?_
    obtain ⟨g4, h⟩ := xgd_of h
    refine x_icmp_lt (tgt := 12) X g4 ⟨by decide, by decide⟩ dX3_delay_7 (by decide) (fun c5 => ?_) (fun c5 => ?_)
    · replace h := xif_t h c5
      refine lv_aload_n X.1.1 X.1.2.1 dX3_delay_12 rfl (lv_at hl 2 rfl) ?_
      refine x_getr X hG 11 11 k2 9 (inC := iX7) rfl g1.2.1 g1.2.2 ⟨by decide, by decide, by decide, rfl, by decide, by decide⟩ w1 dX3_delay_13 ?_
      refine lv_iload_n X.1.1 X.1.2.1 dX3_delay_16 rfl (lv_at hl 3 rfl) ?_
      obtain ⟨g6, h⟩ := xgd_of h
      refine x_iald X hG (fx_11_11 g1.2).1 (fx_11_11 g1.2).2.1 (n := 60) (fx_11_11 g1.2).2.2 g6 (by decide) dX3_delay_17 ?_
      refine lv_aload_n X.1.1 X.1.2.1 dX3_delay_18 rfl (lv_at hl 1 rfl) ?_
      refine lv_aload_n X.1.1 X.1.2.1 dX3_delay_19 rfl (lv_at hl 0 rfl) ?_
      refine x_geti X hG 7 1 30 1 (inC := iX3) rfl q30.1 q30.2 ⟨by decide, by decide, by decide, rfl, rfl⟩ w2 dX3_delay_20 ?_
      refine lv_aload_n X.1.1 X.1.2.1 dX3_delay_23 rfl (lv_at hl 2 rfl) ?_
      refine x_getr X hG 11 10 k2 8 (inC := iX7) rfl g1.2.1 g1.2.2 ⟨by decide, by decide, by decide, rfl, by decide, by decide⟩ w3 dX3_delay_24 ?_
      refine lv_iload_n X.1.1 X.1.2.1 dX3_delay_27 rfl (lv_at hl 3 rfl) ?_
      obtain ⟨g7, h⟩ := xgd_of h
      refine x_iald X hG (fx_11_10 g1.2).1 (fx_11_10 g1.2).2.1 (n := 60) (fx_11_10 g1.2).2.2 g7 (by decide) dX3_delay_28 ?_
      obtain ⟨v8, u9, hf, h⟩ := xbd_of h
      refine x_callVi0 X hG hS (c_X5_travelFromNode l t _ _ _ _ _ _ hf) (cwV 2 X.1.2.2.2.2 gX3_delay_X5_travelFromNode rfl rfl rfl hd_X5_travelFromNode ⟨Nat.le_of_ble_eq_true rfl, Nat.le_of_ble_eq_true rfl⟩) g1.1.1 g1.1.2 rfl (by decide) (by rfl) hl.1 (Nat.le_of_ble_eq_true rfl) dX3_delay_29 ⟨by decide, by decide⟩ rfl (fun H locs hG hS => ?_)
      refine x_isub X dX3_delay_32 ?_
      cases h
      exact hret _ _ _ _ dX3_delay_33 rfl hG hS
    · replace h := xif_f h c5
      refine x_iconst X dX3_delay_10 ?_
      cases h
      exact hret _ _ _ _ dX3_delay_11 rfl hG hS
theorem hd_X3_delay : yX3_delay.cls = RX3 ∧ yX3_delay.cls ≠ "java/lang/invoke/MethodHandle" ∧ yX3_delay.cls ≠ "java/lang/invoke/VarHandle" ∧ (parseMethodDescriptor yX3_delay.desc).map (fun d => d.parameters.length) = some 3 := by decide +kernel
abbrev rX3_weigh : Room := { frames := 3, cells := 0, slots := 0, locals := 68 }
set_option maxRecDepth 100000 in
set_option maxHeartbeats 8000000 in
theorem c_X3_weigh (l : Launch) (t : gP) (k1 : Nat) (k2 : Nat) (x3 : Int) (u : uS) (r : Int) (u' : uS) (h : f_X3_weigh k1 k2 x3 u = some (r, u')) : xMv l yX3_weigh wsX3_weigh rX3_weigh t [.ref (t.2.2.1 30), .ref (t.2.2.1 k1), .ref (t.2.2.1 k2), .int (iI x3)] u u' 0 0 := by
  refine x_ofWv (cc := cX3_weigh) (maxL := 6) (own := RX3) (by decide) rfl rfl (Nat.le_of_ble_eq_true rfl) ?_
  intro p e s m args below meth c Q X hret H locs ls hG hS hl
  replace hl : lv_has ls 6 [(0, .ref (t.2.2.1 30)), (1, .ref (t.2.2.1 k1)), (2, .ref (t.2.2.1 k2)), (3, .int (iI x3))] := hl
  have q30 : 30 < NN ∧ sT 30 = 7 := by decide
  have iX3 : ∀ w ∈ wsX30, w ∈ wsX3_weigh := by decide +kernel
  have w1 : Cond.fieldLink RX3 53 "TriggerNetwork$Locator" "node" "I" ∈ wsX3_weigh := x_w 1 rfl
  have w2 : Cond.fieldLink RX3 18 "TriggerNetwork$Locator" "count" "I" ∈ wsX3_weigh := x_w 2 rfl
  have w4 : Cond.fieldLink RX3 60 "TriggerNetwork$Locator" "origin" "I" ∈ wsX3_weigh := x_w 4 rfl
  have w5 : Cond.fieldLink RX3 38 "TriggerNetwork$Locator" "misfit" "I" ∈ wsX3_weigh := x_w 5 rfl
  have w3 : Cond.fieldLink RX3 9 "TriggerNetwork$Locator" "members" "[I" ∈ wsX3_weigh := x_w 3 rfl
  have q31 : 31 < NN ∧ sT 31 = 100 ∧ sN 31 = 60 := by decide
  have w6 : Cond.methodLink RX3 63 Lib.Math.abs.name ∈ wsX3_weigh := x_w 6 rfl
  have w7 : Cond.static Lib.Math.abs.name ∈ wsX3_weigh := x_w 7 rfl
  have w8 : Cond.initialized "java/lang/Math" ∈ wsX3_weigh := x_w 8 rfl
  have w9 : Cond.code Lib.Math.abs.name Lib.Math.abs.code 1 (some .int) ∈ wsX3_weigh := x_w 9 rfl
  unfold f_X3_weigh at h
  obtain ⟨g1, h⟩ := xgd_of h
  refine lv_aload_n X.1.1 X.1.2.1 dX3_weigh_0 rfl (lv_at hl 0 rfl) ?_
  refine lv_iload_n X.1.1 X.1.2.1 dX3_weigh_1 rfl (lv_at hl 3 rfl) ?_
  refine x_puti X hG hS 7 1 30 1 _ tyX3 tyX3_ok nmX3 (inC := iX3) rfl q30.1 q30.2 ⟨by decide, by decide, by decide, rfl, rfl⟩ rfl (by decide +kernel) w1 dX3_weigh_2 (fun H locs hG hS => ?_)
  obtain ⟨u2, eu2, h⟩ := xlet_of h
  replace hG : G t u2 H := by rw [eu2]; exact hG
  refine x_iconst X dX3_weigh_5 ?_
  refine lv_istore (lv' := [(4, .int (iI 0)), (0, .ref (t.2.2.1 30)), (1, .ref (t.2.2.1 k1)), (2, .ref (t.2.2.1 k2)), (3, .int (iI x3))]) X.1.1 X.1.2.1 dX3_weigh_6 hl (by decide) rfl (fun ls hl => ?_)
  refine x_iconst X dX3_weigh_8 ?_
  refine lv_istore (lv' := [(5, .int (iI 0)), (4, .int (iI 0)), (0, .ref (t.2.2.1 30)), (1, .ref (t.2.2.1 k1)), (2, .ref (t.2.2.1 k2)), (3, .int (iI x3))]) X.1.1 X.1.2.1 dX3_weigh_9 hl (by decide) rfl (fun ls hl => ?_)
  obtain ⟨j3, ej3, h⟩ := xlet_of h
  have Jj3 : ∀ (x4_4 : Int) (u5 : uS), j3 x4_4 u5 = some (r, u') → xG p l e rX3_weigh s m args below meth c t Q 6 0 0 51 u5 [(0, .ref (t.2.2.1 30)), (1, .ref (t.2.2.1 k1)), (2, .ref (t.2.2.1 k2)), (4, .int (iI x4_4))] [] := by
      intro x4_4 u5 h H locs ls hG hS hl
      replace h := (congrFun (congrFun ej3 x4_4) u5).symm.trans h
      refine lv_aload_n X.1.1 X.1.2.1 dX3_weigh_51 rfl (lv_at hl 0 rfl) ?_
      refine lv_aload_n X.1.1 X.1.2.1 dX3_weigh_52 rfl (lv_at hl 0 rfl) ?_
      refine x_geti X hG 7 0 30 0 (inC := iX3) rfl q30.1 q30.2 ⟨by decide, by decide, by decide, rfl, rfl⟩ w2 dX3_weigh_53 ?_
      obtain ⟨g6, h⟩ := xgd_of h
      obtain ⟨j7, ej7, h⟩ := xlet_of h
      have Jj7 : ∀ (s8 : Int) (u9 : uS), j7 s8 u9 = some (r, u') → xG p l e rX3_weigh s m args below meth c t Q 6 0 0 70 u9 [(0, .ref (t.2.2.1 30)), (1, .ref (t.2.2.1 k1)), (2, .ref (t.2.2.1 k2))] [.int (iI s8), .ref (t.2.2.1 30)] := by
          intro s8 u9 h H locs ls hG hS hl
          replace h := (congrFun (congrFun ej7 s8) u9).symm.trans h
          refine x_puti X hG hS 7 2 30 2 _ tyX3 tyX3_ok nmX3 (inC := iX3) rfl q30.1 q30.2 ⟨by decide, by decide, by decide, rfl, rfl⟩ rfl (by decide +kernel) w4 dX3_weigh_70 (fun H locs hG hS => ?_)
          obtain ⟨u10, eu10, h⟩ := xlet_of h
          replace hG : G t u10 H := by rw [eu10]; exact hG
          refine lv_aload_n X.1.1 X.1.2.1 dX3_weigh_73 rfl (lv_at hl 0 rfl) ?_
          refine x_iconst X dX3_weigh_74 ?_
          refine x_puti X hG hS 7 3 30 3 _ tyX3 tyX3_ok nmX3 (inC := iX3) rfl q30.1 q30.2 ⟨by decide, by decide, by decide, rfl, rfl⟩ rfl (by decide +kernel) w5 dX3_weigh_75 (fun H locs hG hS => ?_)
          obtain ⟨u11, eu11, h⟩ := xlet_of h
          replace hG : G t u11 H := by rw [eu11]; exact hG
          refine x_iconst X dX3_weigh_78 ?_
          refine lv_istore (lv' := [(5, .int (iI 0)), (0, .ref (t.2.2.1 30)), (1, .ref (t.2.2.1 k1)), (2, .ref (t.2.2.1 k2))]) X.1.1 X.1.2.1 dX3_weigh_79 hl (by decide) rfl (fun ls hl => ?_)
          have Lgo12 : ∀ (n : Nat) (x5_13 : Int) (u14 : uS), xl2 (s_X3_weigh_81 k1 k2) n x5_13 u14 = some (r, u') → xG p l e rX3_weigh s m args below meth c t Q 6 0 0 81 u14 [(5, .int (iI x5_13)), (0, .ref (t.2.2.1 30)), (1, .ref (t.2.2.1 k1)), (2, .ref (t.2.2.1 k2))] [] := by
            intro n x5_13 u14 h
            refine xl2_W (F := s_X3_weigh_81 k1 k2) (fun x5_13 u14 q => q = (r, u') → xG p l e rX3_weigh s m args below meth c t Q 6 0 0 81 u14 [(5, .int (iI x5_13)), (0, .ref (t.2.2.1 30)), (1, .ref (t.2.2.1 k1)), (2, .ref (t.2.2.1 k2))] []) ?_ n x5_13 u14 _ h rfl
            intro go12 igo12 x5_13 u14 q h hq H locs ls hG hS hl
            subst hq
            unfold s_X3_weigh_81 at h
            refine lv_iload X.1.1 X.1.2.1 dX3_weigh_81 (lv_at hl 0 rfl) ?_
            refine lv_aload_n X.1.1 X.1.2.1 dX3_weigh_83 rfl (lv_at hl 1 rfl) ?_
            refine x_geti X hG 7 0 30 0 (inC := iX3) rfl q30.1 q30.2 ⟨by decide, by decide, by decide, rfl, rfl⟩ w2 dX3_weigh_84 ?_
            obtain ⟨g15, h⟩ := xgd_of h
            refine x_icmp_ge (tgt := 133) X g15.1 g15.2 dX3_weigh_87 (by decide) (fun c16 => ?_) (fun c16 => ?_)
            · replace h := xif_t h c16
              cases h
              exact hret _ _ _ _ dX3_weigh_133 hG hS
            · replace h := xif_f h c16
              refine lv_iload X.1.1 X.1.2.1 dX3_weigh_90 (lv_at hl 0 rfl) ?_
              refine x_bipush X dX3_weigh_92 (by decide) ?_
              obtain ⟨g17, h⟩ := xgd_of h
              refine x_icmp_ge (tgt := 133) X g17 ⟨by decide, by decide⟩ dX3_weigh_94 (by decide) (fun c18 => ?_) (fun c18 => ?_)
              · replace h := xif_t h c18
                cases h
                exact hret _ _ _ _ dX3_weigh_133 hG hS
              · replace h := xif_f h c18
                refine lv_aload_n X.1.1 X.1.2.1 dX3_weigh_97 rfl (lv_at hl 1 rfl) ?_
                refine lv_dup X.1.1 X.1.2.1 dX3_weigh_98 rfl ?_
                refine x_geti X hG 7 3 30 3 (inC := iX3) rfl q30.1 q30.2 ⟨by decide, by decide, by decide, rfl, rfl⟩ w5 dX3_weigh_99 ?_
                refine lv_aload_n X.1.1 X.1.2.1 dX3_weigh_102 rfl (lv_at hl 1 rfl) ?_
                refine lv_aload_n X.1.1 X.1.2.1 dX3_weigh_103 rfl (lv_at hl 2 rfl) ?_
                refine lv_aload_n X.1.1 X.1.2.1 dX3_weigh_104 rfl (lv_at hl 3 rfl) ?_
                refine lv_aload_n X.1.1 X.1.2.1 dX3_weigh_105 rfl (lv_at hl 1 rfl) ?_
                refine x_getr X hG 7 4 30 1 (inC := iX3) rfl q30.1 q30.2 ⟨by decide, by decide, by decide, rfl, by decide, by decide⟩ w3 dX3_weigh_106 ?_
                refine lv_iload X.1.1 X.1.2.1 dX3_weigh_109 (lv_at hl 0 rfl) ?_
                obtain ⟨g19, h⟩ := xgd_of h
                refine x_iald X hG q31.1 q31.2.1 (n := 60) q31.2.2 g19 (by decide) dX3_weigh_111 ?_
                obtain ⟨v20, u21, hf, h⟩ := xbd_of h
                refine x_callVi0 X hG hS (c_X3_delay l t _ _ _ _ _ _ hf) (cwV 3 X.1.2.2.2.2 gX3_weigh_X3_delay rfl rfl rfl hd_X3_delay ⟨Nat.le_of_ble_eq_true rfl, Nat.le_of_ble_eq_true rfl⟩) q30.1 q30.2 rfl (by decide) (by rfl) hl.1 (Nat.le_of_ble_eq_true rfl) dX3_weigh_112 ⟨by decide, by decide⟩ rfl (fun H locs hG hS => ?_)
                refine lv_aload_n X.1.1 X.1.2.1 dX3_weigh_115 rfl (lv_at hl 1 rfl) ?_
                refine x_geti X hG 7 2 30 2 (inC := iX3) rfl q30.1 q30.2 ⟨by decide, by decide, by decide, rfl, rfl⟩ w4 dX3_weigh_116 ?_
                refine x_isub X dX3_weigh_119 ?_
                obtain ⟨g22, h⟩ := xgd_of h
                refine x_mabs (R := rX3_weigh) X g22 hl.1 w6 w7 w8 w9 (by decide) (by decide) dX3_weigh_120 (Nat.le_of_ble_eq_true rfl) ⟨by decide, by decide⟩ ?_
                refine x_iadd X dX3_weigh_123 ?_
                refine x_puti X hG hS 7 3 30 3 _ tyX3 tyX3_ok nmX3 (inC := iX3) rfl q30.1 q30.2 ⟨by decide, by decide, by decide, rfl, rfl⟩ rfl (by decide +kernel) w5 dX3_weigh_124 (fun H locs hG hS => ?_)
                obtain ⟨u23, eu23, h⟩ := xlet_of h
                replace hG : G t u23 H := by rw [eu23]; exact hG
                refine lv_iinc (v := (iI (x5_13 + 1))) (lv' := [(5, .int (iI (x5_13 + 1))), (0, .ref (t.2.2.1 30)), (1, .ref (t.2.2.1 k1)), (2, .ref (t.2.2.1 k2))]) X.1.1 X.1.2.1 dX3_weigh_127 hl (k := 0) rfl (iI_add _ _) (by decide) rfl (fun ls hl => ?_)
                refine lv_goto (tgt := 81) X.1.1 X.1.2.1 dX3_weigh_130 (by decide) ?_
                exact igo12 _ _ _ h rfl _ _ _ hG hS (lv_sub hl [0, 1, 2, 3] rfl)
          exact Lgo12 FU _ _ h _ _ _ hG hS (lv_sub hl [0, 1, 2, 3] rfl)
      refine x_if_ne (tgt := 63) X g6 dX3_weigh_56 (by decide) (fun c24 => ?_) (fun c24 => ?_)
      · replace h := xif_f h c24
        refine lv_iload X.1.1 X.1.2.1 dX3_weigh_63 (lv_at hl 3 rfl) ?_
        refine lv_aload_n X.1.1 X.1.2.1 dX3_weigh_65 rfl (lv_at hl 0 rfl) ?_
        refine x_geti X hG 7 0 30 0 (inC := iX3) rfl q30.1 q30.2 ⟨by decide, by decide, by decide, rfl, rfl⟩ w2 dX3_weigh_66 ?_
        obtain ⟨g25, h⟩ := xgd_of h
        refine x_idiv X g25.1 g25.2.1 g25.2.2 dX3_weigh_69 ?_
        exact Jj7 _ _ h _ _ _ hG hS (lv_sub hl [0, 1, 2] rfl)
      · replace h := xif_t h c24
        refine x_iconst X dX3_weigh_59 ?_
        refine lv_goto (tgt := 70) X.1.1 X.1.2.1 dX3_weigh_60 (by decide) ?_
        exact Jj7 _ _ h _ _ _ hG hS (lv_sub hl [0, 1, 2] rfl)
  have Lgo26 : ∀ (n : Nat) (x4_27 : Int) (x5_28 : Int) (u29 : uS), xl3 (s_X3_weigh_11 j3 k1 k2) n x4_27 x5_28 u29 = some (r, u') → xG p l e rX3_weigh s m args below meth c t Q 6 0 0 11 u29 [(4, .int (iI x4_27)), (5, .int (iI x5_28)), (0, .ref (t.2.2.1 30)), (1, .ref (t.2.2.1 k1)), (2, .ref (t.2.2.1 k2))] [] := by
    intro n x4_27 x5_28 u29 h
    refine xl3_W (F := s_X3_weigh_11 j3 k1 k2) (fun x4_27 x5_28 u29 q => q = (r, u') → xG p l e rX3_weigh s m args below meth c t Q 6 0 0 11 u29 [(4, .int (iI x4_27)), (5, .int (iI x5_28)), (0, .ref (t.2.2.1 30)), (1, .ref (t.2.2.1 k1)), (2, .ref (t.2.2.1 k2))] []) ?_ n x4_27 x5_28 u29 _ h rfl
    intro go26 igo26 x4_27 x5_28 u29 q h hq H locs ls hG hS hl
    subst hq
    unfold s_X3_weigh_11 at h
    refine lv_iload X.1.1 X.1.2.1 dX3_weigh_11 (lv_at hl 1 rfl) ?_
    refine lv_aload_n X.1.1 X.1.2.1 dX3_weigh_13 rfl (lv_at hl 2 rfl) ?_
    refine x_geti X hG 7 0 30 0 (inC := iX3) rfl q30.1 q30.2 ⟨by decide, by decide, by decide, rfl, rfl⟩ w2 dX3_weigh_14 ?_
    obtain ⟨g30, h⟩ := xgd_of h
    refine x_icmp_ge (tgt := 51) X g30.1 g30.2 dX3_weigh_17 (by decide) (fun c31 => ?_) (fun c31 => ?_)
    · replace h := xif_t h c31
      exact Jj3 _ _ h _ _ _ hG hS (lv_sub hl [2, 3, 4, 0] rfl)
    · replace h := xif_f h c31
      refine lv_iload X.1.1 X.1.2.1 dX3_weigh_20 (lv_at hl 1 rfl) ?_
      refine x_bipush X dX3_weigh_22 (by decide) ?_
      obtain ⟨g32, h⟩ := xgd_of h
      refine x_icmp_ge (tgt := 51) X g32 ⟨by decide, by decide⟩ dX3_weigh_24 (by decide) (fun c33 => ?_) (fun c33 => ?_)
      · replace h := xif_t h c33
        exact Jj3 _ _ h _ _ _ hG hS (lv_sub hl [2, 3, 4, 0] rfl)
      · replace h := xif_f h c33
        refine lv_iload X.1.1 X.1.2.1 dX3_weigh_27 (lv_at hl 0 rfl) ?_
        refine lv_aload_n X.1.1 X.1.2.1 dX3_weigh_29 rfl (lv_at hl 2 rfl) ?_
        refine lv_aload_n X.1.1 X.1.2.1 dX3_weigh_30 rfl (lv_at hl 3 rfl) ?_
        refine lv_aload_n X.1.1 X.1.2.1 dX3_weigh_31 rfl (lv_at hl 4 rfl) ?_
        refine lv_aload_n X.1.1 X.1.2.1 dX3_weigh_32 rfl (lv_at hl 2 rfl) ?_
        refine x_getr X hG 7 4 30 1 (inC := iX3) rfl q30.1 q30.2 ⟨by decide, by decide, by decide, rfl, by decide, by decide⟩ w3 dX3_weigh_33 ?_
        refine lv_iload X.1.1 X.1.2.1 dX3_weigh_36 (lv_at hl 1 rfl) ?_
        obtain ⟨g34, h⟩ := xgd_of h
        refine x_iald X hG q31.1 q31.2.1 (n := 60) q31.2.2 g34 (by decide) dX3_weigh_38 ?_
        obtain ⟨v35, u36, hf, h⟩ := xbd_of h
        refine x_callVi0 X hG hS (c_X3_delay l t _ _ _ _ _ _ hf) (cwV 3 X.1.2.2.2.2 gX3_weigh_X3_delay rfl rfl rfl hd_X3_delay ⟨Nat.le_of_ble_eq_true rfl, Nat.le_of_ble_eq_true rfl⟩) q30.1 q30.2 rfl (by decide) (by rfl) hl.1 (Nat.le_of_ble_eq_true rfl) dX3_weigh_39 ⟨by decide, by decide⟩ rfl (fun H locs hG hS => ?_)
        refine x_iadd X dX3_weigh_42 ?_
        refine x_name (fun x4_37 ex4_37 => ?_)
        replace h := xlet_at ex4_37 h
        refine lv_istore (lv' := [(4, .int (iI x4_37)), (5, .int (iI x5_28)), (0, .ref (t.2.2.1 30)), (1, .ref (t.2.2.1 k1)), (2, .ref (t.2.2.1 k2))]) X.1.1 X.1.2.1 dX3_weigh_43 hl (by decide) rfl (fun ls hl => ?_)
        refine lv_iinc (v := (iI (x5_28 + 1))) (lv' := [(5, .int (iI (x5_28 + 1))), (4, .int (iI x4_37)), (0, .ref (t.2.2.1 30)), (1, .ref (t.2.2.1 k1)), (2, .ref (t.2.2.1 k2))]) X.1.1 X.1.2.1 dX3_weigh_45 hl (k := 1) rfl (iI_add _ _) (by decide) rfl (fun ls hl => ?_)
        refine lv_goto (tgt := 11) X.1.1 X.1.2.1 dX3_weigh_48 (by decide) ?_
        exact igo26 _ _ _ _ h rfl _ _ _ hG hS (lv_sub hl [1, 0, 2, 3, 4] rfl)
  exact Lgo26 FU _ _ _ h _ _ _ hG hS (lv_sub hl [1, 0, 2, 3, 4] rfl)
theorem hd_X3_weigh : yX3_weigh.cls = RX3 ∧ yX3_weigh.cls ≠ "java/lang/invoke/MethodHandle" ∧ yX3_weigh.cls ≠ "java/lang/invoke/VarHandle" ∧ (parseMethodDescriptor yX3_weigh.desc).map (fun d => d.parameters.length) = some 3 := by decide +kernel
abbrev rX3_locate : Room := { frames := 4, cells := 0, slots := 0, locals := 93 }
set_option maxRecDepth 100000 in
set_option maxHeartbeats 8000000 in
theorem c_X3_locate (l : Launch) (t : gP) (k1 : Nat) (k2 : Nat) (x3 : Int) (u : uS) (r : Int) (u' : uS) (h : f_X3_locate k1 k2 x3 u = some (r, u')) : xMv l yX3_locate wsX3_locate rX3_locate t [.ref (t.2.2.1 30), .ref (t.2.2.1 k1), .ref (t.2.2.1 k2), .int (iI x3)] u u' 0 0 := by
  refine x_ofWv (cc := cX3_locate) (maxL := 7) (own := RX3) (by decide) rfl rfl (Nat.le_of_ble_eq_true rfl) ?_
  intro p e s m args below meth c Q X hret H locs ls hG hS hl
  replace hl : lv_has ls 7 [(0, .ref (t.2.2.1 30)), (1, .ref (t.2.2.1 k1)), (2, .ref (t.2.2.1 k2)), (3, .int (iI x3))] := hl
  have q30 : 30 < NN ∧ sT 30 = 7 := by decide
  have iX3 : ∀ w ∈ wsX30, w ∈ wsX3_locate := by decide +kernel
  have w1 : Cond.fieldLink RX3 38 "TriggerNetwork$Locator" "misfit" "I" ∈ wsX3_locate := x_w 1 rfl
  have iX5 : ∀ w ∈ wsX50, w ∈ wsX3_locate := by decide +kernel
  have w2 : Cond.fieldLink RX3 41 "TriggerNetwork$Network" "grid" "LTriggerNetwork$Grid;" ∈ wsX3_locate := x_w 2 rfl
  unfold f_X3_locate at h
  obtain ⟨g1, h⟩ := xgd_of h
  refine lv_aload_n X.1.1 X.1.2.1 dX3_locate_0 rfl (lv_at hl 0 rfl) ?_
  refine lv_aload_n X.1.1 X.1.2.1 dX3_locate_1 rfl (lv_at hl 2 rfl) ?_
  refine lv_iload_n X.1.1 X.1.2.1 dX3_locate_2 rfl (lv_at hl 3 rfl) ?_
  obtain ⟨v2, u3, hf, h⟩ := xbd_of h
  refine x_callVv0 X hG hS (c_X3_gather l t _ _ _ _ _ hf) (cwV 2 X.1.2.2.2.2 gX3_locate_X3_gather rfl rfl rfl hd_X3_gather ⟨Nat.le_of_ble_eq_true rfl, Nat.le_of_ble_eq_true rfl⟩) q30.1 q30.2 rfl (by decide) (by rfl) hl.1 (Nat.le_of_ble_eq_true rfl) dX3_locate_3 ⟨by decide, by decide⟩ rfl (fun H locs hG hS => ?_)
  refine x_iconst X dX3_locate_6 ?_
  refine lv_istore (lv' := [(4, .int (iI 0)), (0, .ref (t.2.2.1 30)), (1, .ref (t.2.2.1 k1)), (2, .ref (t.2.2.1 k2)), (3, .int (iI x3))]) X.1.1 X.1.2.1 dX3_locate_7 hl (by decide) rfl (fun ls hl => ?_)
  refine lv_aload_n X.1.1 X.1.2.1 dX3_locate_9 rfl (lv_at hl 1 rfl) ?_
  refine lv_aload_n X.1.1 X.1.2.1 dX3_locate_10 rfl (lv_at hl 2 rfl) ?_
  refine lv_aload_n X.1.1 X.1.2.1 dX3_locate_11 rfl (lv_at hl 3 rfl) ?_
  refine x_iconst X dX3_locate_12 ?_
  obtain ⟨v4, u5, hf, h⟩ := xbd_of h
  refine x_callVv0 X hG hS (c_X3_weigh l t _ _ _ _ _ _ hf) (cwV 3 X.1.2.2.2.2 gX3_locate_X3_weigh rfl rfl rfl hd_X3_weigh ⟨Nat.le_of_ble_eq_true rfl, Nat.le_of_ble_eq_true rfl⟩) q30.1 q30.2 rfl (by decide) (by rfl) hl.1 (Nat.le_of_ble_eq_true rfl) dX3_locate_13 ⟨by decide, by decide⟩ rfl (fun H locs hG hS => ?_)
  refine lv_aload_n X.1.1 X.1.2.1 dX3_locate_16 rfl (lv_at hl 1 rfl) ?_
  refine x_geti X hG 7 3 30 3 (inC := iX3) rfl q30.1 q30.2 ⟨by decide, by decide, by decide, rfl, rfl⟩ w1 dX3_locate_17 ?_
  refine x_name (fun x5_6 ex5_6 => ?_)
  replace h := xlet_at ex5_6 h
  refine lv_istore (lv' := [(5, .int (iI x5_6)), (4, .int (iI 0)), (0, .ref (t.2.2.1 30)), (1, .ref (t.2.2.1 k1)), (2, .ref (t.2.2.1 k2)), (3, .int (iI x3))]) X.1.1 X.1.2.1 dX3_locate_20 hl (by decide) rfl (fun ls hl => ?_)
  refine x_iconst X dX3_locate_22 ?_
  refine lv_istore (lv' := [(6, .int (iI 1)), (5, .int (iI x5_6)), (4, .int (iI 0)), (0, .ref (t.2.2.1 30)), (1, .ref (t.2.2.1 k1)), (2, .ref (t.2.2.1 k2)), (3, .int (iI x3))]) X.1.1 X.1.2.1 dX3_locate_23 hl (by decide) rfl (fun ls hl => ?_)
  obtain ⟨j7, ej7, h⟩ := xlet_of h
  have Jj7 : ∀ (x4_8 : Int) (u9 : uS), j7 x4_8 u9 = some (r, u') → xG p l e rX3_locate s m args below meth c t Q 7 0 0 78 u9 [(0, .ref (t.2.2.1 30)), (1, .ref (t.2.2.1 k1)), (2, .ref (t.2.2.1 k2)), (4, .int (iI x4_8))] [] := by
      intro x4_8 u9 h H locs ls hG hS hl
      replace h := (congrFun (congrFun ej7 x4_8) u9).symm.trans h
      refine lv_aload_n X.1.1 X.1.2.1 dX3_locate_78 rfl (lv_at hl 0 rfl) ?_
      refine lv_aload_n X.1.1 X.1.2.1 dX3_locate_79 rfl (lv_at hl 1 rfl) ?_
      refine lv_aload_n X.1.1 X.1.2.1 dX3_locate_80 rfl (lv_at hl 2 rfl) ?_
      refine lv_iload X.1.1 X.1.2.1 dX3_locate_81 (lv_at hl 3 rfl) ?_
      obtain ⟨v10, u11, hf, h⟩ := xbd_of h
      refine x_callVv0 X hG hS (c_X3_weigh l t _ _ _ _ _ _ hf) (cwV 3 X.1.2.2.2.2 gX3_locate_X3_weigh rfl rfl rfl hd_X3_weigh ⟨Nat.le_of_ble_eq_true rfl, Nat.le_of_ble_eq_true rfl⟩) q30.1 q30.2 rfl (by decide) (by rfl) hl.1 (Nat.le_of_ble_eq_true rfl) dX3_locate_83 ⟨by decide, by decide⟩ rfl (fun H locs hG hS => ?_)
      cases h
      exact hret _ _ _ _ dX3_locate_86 hG hS
  have Lgo12 : ∀ (n : Nat) (x4_13 : Int) (x5_14 : Int) (x6_15 : Int) (u16 : uS), xl4 (s_X3_locate_25 k1 j7 k2) n x4_13 x5_14 x6_15 u16 = some (r, u') → xG p l e rX3_locate s m args below meth c t Q 7 0 0 25 u16 [(4, .int (iI x4_13)), (5, .int (iI x5_14)), (6, .int (iI x6_15)), (0, .ref (t.2.2.1 30)), (1, .ref (t.2.2.1 k1)), (2, .ref (t.2.2.1 k2))] [] := by
    intro n x4_13 x5_14 x6_15 u16 h
    refine xl4_W (F := s_X3_locate_25 k1 j7 k2) (fun x4_13 x5_14 x6_15 u16 q => q = (r, u') → xG p l e rX3_locate s m args below meth c t Q 7 0 0 25 u16 [(4, .int (iI x4_13)), (5, .int (iI x5_14)), (6, .int (iI x6_15)), (0, .ref (t.2.2.1 30)), (1, .ref (t.2.2.1 k1)), (2, .ref (t.2.2.1 k2))] []) ?_ n x4_13 x5_14 x6_15 u16 _ h rfl
    intro go12 igo12 x4_13 x5_14 x6_15 u16 q h hq H locs ls hG hS hl
    subst hq
    unfold s_X3_locate_25 at h
    refine lv_iload X.1.1 X.1.2.1 dX3_locate_25 (lv_at hl 2 rfl) ?_
    refine lv_aload_n X.1.1 X.1.2.1 dX3_locate_27 rfl (lv_at hl 4 rfl) ?_
    refine x_getr X hG 9 0 k1 1 (inC := iX5) rfl g1.1.1 g1.1.2 ⟨by decide, by decide, by decide, rfl, by decide, by decide⟩ w2 dX3_locate_28 ?_
    obtain ⟨v17, u18, hf, h⟩ := xbd_of h
    refine x_callVi0 X hG hS (c_X2_nodeCount l t _ _ _ _ hf) (cwV 0 X.1.2.2.2.2 gX3_locate_X2_nodeCount rfl rfl rfl hd_X2_nodeCount ⟨Nat.le_of_ble_eq_true rfl, Nat.le_of_ble_eq_true rfl⟩) (fx_9_0 g1.1).1 (fx_9_0 g1.1).2 rfl (by decide) (by rfl) hl.1 (Nat.le_of_ble_eq_true rfl) dX3_locate_31 ⟨by decide, by decide⟩ rfl (fun H locs hG hS => ?_)
    obtain ⟨g19, h⟩ := xgd_of h
    refine x_icmp_ge (tgt := 78) X g19.1 g19.2 dX3_locate_34 (by decide) (fun c20 => ?_) (fun c20 => ?_)
    · replace h := xif_t h c20
      exact Jj7 _ _ h _ _ _ hG hS (lv_sub hl [3, 4, 5, 0] rfl)
    · replace h := xif_f h c20
      refine lv_iload X.1.1 X.1.2.1 dX3_locate_37 (lv_at hl 2 rfl) ?_
      refine x_sipush X dX3_locate_39 (by decide) ?_
      obtain ⟨g21, h⟩ := xgd_of h
      refine x_icmp_ge (tgt := 78) X g21 ⟨by decide, by decide⟩ dX3_locate_42 (by decide) (fun c22 => ?_) (fun c22 => ?_)
      · replace h := xif_t h c22
        exact Jj7 _ _ h _ _ _ hG hS (lv_sub hl [3, 4, 5, 0] rfl)
      · replace h := xif_f h c22
        refine lv_aload_n X.1.1 X.1.2.1 dX3_locate_45 rfl (lv_at hl 3 rfl) ?_
        refine lv_aload_n X.1.1 X.1.2.1 dX3_locate_46 rfl (lv_at hl 4 rfl) ?_
        refine lv_aload_n X.1.1 X.1.2.1 dX3_locate_47 rfl (lv_at hl 5 rfl) ?_
        refine lv_iload X.1.1 X.1.2.1 dX3_locate_48 (lv_at hl 2 rfl) ?_
        obtain ⟨v23, u24, hf, h⟩ := xbd_of h
        refine x_callVv0 X hG hS (c_X3_weigh l t _ _ _ _ _ _ hf) (cwV 3 X.1.2.2.2.2 gX3_locate_X3_weigh rfl rfl rfl hd_X3_weigh ⟨Nat.le_of_ble_eq_true rfl, Nat.le_of_ble_eq_true rfl⟩) q30.1 q30.2 rfl (by decide) (by rfl) hl.1 (Nat.le_of_ble_eq_true rfl) dX3_locate_50 ⟨by decide, by decide⟩ rfl (fun H locs hG hS => ?_)
        refine lv_aload_n X.1.1 X.1.2.1 dX3_locate_53 rfl (lv_at hl 3 rfl) ?_
        refine x_geti X hG 7 3 30 3 (inC := iX3) rfl q30.1 q30.2 ⟨by decide, by decide, by decide, rfl, rfl⟩ w1 dX3_locate_54 ?_
        refine lv_iload X.1.1 X.1.2.1 dX3_locate_57 (lv_at hl 1 rfl) ?_
        obtain ⟨g25, h⟩ := xgd_of h
        refine x_icmp_ge (tgt := 72) X g25.1 g25.2 dX3_locate_59 (by decide) (fun c26 => ?_) (fun c26 => ?_)
        · replace h := xif_t h c26
          refine lv_iinc (v := (iI (x6_15 + 1))) (lv' := [(6, .int (iI (x6_15 + 1))), (4, .int (iI x4_13)), (5, .int (iI x5_14)), (0, .ref (t.2.2.1 30)), (1, .ref (t.2.2.1 k1)), (2, .ref (t.2.2.1 k2))]) X.1.1 X.1.2.1 dX3_locate_72 hl (k := 2) rfl (iI_add _ _) (by decide) rfl (fun ls hl => ?_)
          refine lv_goto (tgt := 25) X.1.1 X.1.2.1 dX3_locate_75 (by decide) ?_
          exact igo12 _ _ _ _ _ h rfl _ _ _ hG hS (lv_sub hl [1, 2, 0, 3, 4, 5] rfl)
        · replace h := xif_f h c26
          refine lv_aload_n X.1.1 X.1.2.1 dX3_locate_62 rfl (lv_at hl 3 rfl) ?_
          refine x_geti X hG 7 3 30 3 (inC := iX3) rfl q30.1 q30.2 ⟨by decide, by decide, by decide, rfl, rfl⟩ w1 dX3_locate_63 ?_
          refine x_name (fun x5_27 ex5_27 => ?_)
          replace h := xlet_at ex5_27 h
          refine lv_istore (lv' := [(5, .int (iI x5_27)), (4, .int (iI x4_13)), (6, .int (iI x6_15)), (0, .ref (t.2.2.1 30)), (1, .ref (t.2.2.1 k1)), (2, .ref (t.2.2.1 k2))]) X.1.1 X.1.2.1 dX3_locate_66 hl (by decide) rfl (fun ls hl => ?_)
          refine lv_iload X.1.1 X.1.2.1 dX3_locate_68 (lv_at hl 2 rfl) ?_
          refine lv_istore (lv' := [(4, .int (iI x6_15)), (5, .int (iI x5_27)), (6, .int (iI x6_15)), (0, .ref (t.2.2.1 30)), (1, .ref (t.2.2.1 k1)), (2, .ref (t.2.2.1 k2))]) X.1.1 X.1.2.1 dX3_locate_70 hl (by decide) rfl (fun ls hl => ?_)
          refine lv_iinc (v := (iI (x6_15 + 1))) (lv' := [(6, .int (iI (x6_15 + 1))), (4, .int (iI x6_15)), (5, .int (iI x5_27)), (0, .ref (t.2.2.1 30)), (1, .ref (t.2.2.1 k1)), (2, .ref (t.2.2.1 k2))]) X.1.1 X.1.2.1 dX3_locate_72 hl (k := 2) rfl (iI_add _ _) (by decide) rfl (fun ls hl => ?_)
          refine lv_goto (tgt := 25) X.1.1 X.1.2.1 dX3_locate_75 (by decide) ?_
          exact igo12 _ _ _ _ _ h rfl _ _ _ hG hS (lv_sub hl [1, 2, 0, 3, 4, 5] rfl)
  exact Lgo12 FU _ _ _ _ h _ _ _ hG hS (lv_sub hl [2, 1, 0, 3, 4, 5] rfl)
theorem hd_X3_locate : yX3_locate.cls = RX3 ∧ yX3_locate.cls ≠ "java/lang/invoke/MethodHandle" ∧ yX3_locate.cls ≠ "java/lang/invoke/VarHandle" ∧ (parseMethodDescriptor yX3_locate.desc).map (fun d => d.parameters.length) = some 3 := by decide +kernel
abbrev rX3_insert : Room := { frames := 0, cells := 0, slots := 0, locals := 0 }
set_option maxRecDepth 100000 in
set_option maxHeartbeats 8000000 in
theorem c_X3_insert (l : Launch) (t : gP) (x1 : Int) (x2 : Int) (u : uS) (r : Int) (u' : uS) (h : f_X3_insert x1 x2 u = some (r, u')) : xMv l yX3_insert wsX3_insert rX3_insert t [.ref (t.2.2.1 30), .int (iI x1), .int (iI x2)] u u' 0 0 := by
  refine x_ofWv (cc := cX3_insert) (maxL := 5) (own := RX3) (by decide) rfl rfl (Nat.le_of_ble_eq_true rfl) ?_
  intro p e s m args below meth c Q X hret H locs ls hG hS hl
  replace hl : lv_has ls 5 [(0, .ref (t.2.2.1 30)), (1, .int (iI x1)), (2, .int (iI x2))] := hl
  have q30 : 30 < NN ∧ sT 30 = 7 := by decide
  have iX3 : ∀ w ∈ wsX30, w ∈ wsX3_insert := by decide +kernel
  have w1 : Cond.fieldLink RX3 15 "TriggerNetwork$Locator" "magnitudes" "[I" ∈ wsX3_insert := x_w 1 rfl
  have q32 : 32 < NN ∧ sT 32 = 100 ∧ sN 32 = 60 := by decide
  unfold f_X3_insert at h
  refine lv_iload_n X.1.1 X.1.2.1 dX3_insert_0 rfl (lv_at hl 1 rfl) ?_
  refine lv_istore_n (lv' := [(3, .int (iI x1)), (0, .ref (t.2.2.1 30)), (1, .int (iI x1)), (2, .int (iI x2))]) X.1.1 X.1.2.1 dX3_insert_1 rfl hl (by decide) rfl (fun ls hl => ?_)
  refine lv_iload_n X.1.1 X.1.2.1 dX3_insert_2 rfl (lv_at hl 2 rfl) ?_
  refine x_iconst X dX3_insert_3 ?_
  refine x_isub X dX3_insert_4 ?_
  refine x_name (fun x4_1 ex4_1 => ?_)
  replace h := xlet_at ex4_1 h
  refine lv_istore (lv' := [(4, .int (iI x4_1)), (3, .int (iI x1)), (0, .ref (t.2.2.1 30)), (1, .int (iI x1)), (2, .int (iI x2))]) X.1.1 X.1.2.1 dX3_insert_5 hl (by decide) rfl (fun ls hl => ?_)
  obtain ⟨j2, ej2, h⟩ := xlet_of h
  have Jj2 : ∀ (x3_3 : Int) (u4 : uS), j2 x3_3 u4 = some (r, u') → xG p l e rX3_insert s m args below meth c t Q 5 0 0 58 u4 [(0, .ref (t.2.2.1 30)), (2, .int (iI x2)), (3, .int (iI x3_3))] [] := by
      intro x3_3 u4 h H locs ls hG hS hl
      replace h := (congrFun (congrFun ej2 x3_3) u4).symm.trans h
      refine lv_iload_n X.1.1 X.1.2.1 dX3_insert_58 rfl (lv_at hl 2 rfl) ?_
      obtain ⟨g5, h⟩ := xgd_of h
      refine x_if_lt (tgt := 75) X g5 dX3_insert_59 (by decide) (fun c6 => ?_) (fun c6 => ?_)
      · replace h := xif_t h c6
        cases h
        exact hret _ _ _ _ dX3_insert_75 hG hS
      · replace h := xif_f h c6
        refine lv_iload_n X.1.1 X.1.2.1 dX3_insert_62 rfl (lv_at hl 2 rfl) ?_
        refine x_bipush X dX3_insert_63 (by decide) ?_
        obtain ⟨g7, h⟩ := xgd_of h
        refine x_icmp_ge (tgt := 75) X g7 ⟨by decide, by decide⟩ dX3_insert_65 (by decide) (fun c8 => ?_) (fun c8 => ?_)
        · replace h := xif_t h c8
          cases h
          exact hret _ _ _ _ dX3_insert_75 hG hS
        · replace h := xif_f h c8
          refine lv_aload_n X.1.1 X.1.2.1 dX3_insert_68 rfl (lv_at hl 0 rfl) ?_
          refine x_getr X hG 7 5 30 2 (inC := iX3) rfl q30.1 q30.2 ⟨by decide, by decide, by decide, rfl, by decide, by decide⟩ w1 dX3_insert_69 ?_
          refine lv_iload_n X.1.1 X.1.2.1 dX3_insert_72 rfl (lv_at hl 2 rfl) ?_
          refine lv_iload_n X.1.1 X.1.2.1 dX3_insert_73 rfl (lv_at hl 1 rfl) ?_
          obtain ⟨g9, h⟩ := xgd_of h
          refine x_iast X hG hS q32.1 q32.2.1 (n := 60) q32.2.2 g9 (by decide) dX3_insert_74 (fun H locs hG hS => ?_)
          obtain ⟨u10, eu10, h⟩ := xlet_of h
          replace hG : G t u10 H := by rw [eu10]; exact hG
          cases h
          exact hret _ _ _ _ dX3_insert_75 hG hS
  have Lgo11 : ∀ (n : Nat) (x3_12 : Int) (x4_13 : Int) (u14 : uS), xl3 (s_X3_insert_7 j2 x2) n x3_12 x4_13 u14 = some (r, u') → xG p l e rX3_insert s m args below meth c t Q 5 0 0 7 u14 [(3, .int (iI x3_12)), (4, .int (iI x4_13)), (0, .ref (t.2.2.1 30)), (2, .int (iI x2))] [] := by
    intro n x3_12 x4_13 u14 h
    refine xl3_W (F := s_X3_insert_7 j2 x2) (fun x3_12 x4_13 u14 q => q = (r, u') → xG p l e rX3_insert s m args below meth c t Q 5 0 0 7 u14 [(3, .int (iI x3_12)), (4, .int (iI x4_13)), (0, .ref (t.2.2.1 30)), (2, .int (iI x2))] []) ?_ n x3_12 x4_13 u14 _ h rfl
    intro go11 igo11 x3_12 x4_13 u14 q h hq H locs ls hG hS hl
    subst hq
    unfold s_X3_insert_7 at h
    refine lv_iload X.1.1 X.1.2.1 dX3_insert_7 (lv_at hl 1 rfl) ?_
    obtain ⟨g15, h⟩ := xgd_of h
    refine x_if_lt (tgt := 58) X g15 dX3_insert_9 (by decide) (fun c16 => ?_) (fun c16 => ?_)
    · replace h := xif_t h c16
      exact Jj2 _ _ h _ _ _ hG hS (lv_sub hl [2, 3, 0] rfl)
    · replace h := xif_f h c16
      refine lv_iload X.1.1 X.1.2.1 dX3_insert_12 (lv_at hl 1 rfl) ?_
      refine x_bipush X dX3_insert_14 (by decide) ?_
      obtain ⟨g17, h⟩ := xgd_of h
      refine x_icmp_ge (tgt := 58) X g17 ⟨by decide, by decide⟩ dX3_insert_16 (by decide) (fun c18 => ?_) (fun c18 => ?_)
      · replace h := xif_t h c18
        exact Jj2 _ _ h _ _ _ hG hS (lv_sub hl [2, 3, 0] rfl)
      · replace h := xif_f h c18
        refine lv_aload_n X.1.1 X.1.2.1 dX3_insert_19 rfl (lv_at hl 2 rfl) ?_
        refine x_getr X hG 7 5 30 2 (inC := iX3) rfl q30.1 q30.2 ⟨by decide, by decide, by decide, rfl, by decide, by decide⟩ w1 dX3_insert_20 ?_
        refine lv_iload X.1.1 X.1.2.1 dX3_insert_23 (lv_at hl 1 rfl) ?_
        obtain ⟨g19, h⟩ := xgd_of h
        refine x_iald X hG q32.1 q32.2.1 (n := 60) q32.2.2 g19 (by decide) dX3_insert_25 ?_
        refine lv_iload_n X.1.1 X.1.2.1 dX3_insert_26 rfl (lv_at hl 3 rfl) ?_
        obtain ⟨g20, h⟩ := xgd_of h
        refine x_icmp_gt (tgt := 33) X g20.1 g20.2 dX3_insert_27 (by decide) (fun c21 => ?_) (fun c21 => ?_)
        · replace h := xif_t h c21
          refine lv_aload_n X.1.1 X.1.2.1 dX3_insert_33 rfl (lv_at hl 2 rfl) ?_
          refine x_getr X hG 7 5 30 2 (inC := iX3) rfl q30.1 q30.2 ⟨by decide, by decide, by decide, rfl, by decide, by decide⟩ w1 dX3_insert_34 ?_
          refine lv_iload X.1.1 X.1.2.1 dX3_insert_37 (lv_at hl 1 rfl) ?_
          refine x_iconst X dX3_insert_39 ?_
          refine x_iadd X dX3_insert_40 ?_
          refine lv_aload_n X.1.1 X.1.2.1 dX3_insert_41 rfl (lv_at hl 2 rfl) ?_
          refine x_getr X hG 7 5 30 2 (inC := iX3) rfl q30.1 q30.2 ⟨by decide, by decide, by decide, rfl, by decide, by decide⟩ w1 dX3_insert_42 ?_
          refine lv_iload X.1.1 X.1.2.1 dX3_insert_45 (lv_at hl 1 rfl) ?_
          obtain ⟨g22, h⟩ := xgd_of h
          refine x_iald X hG q32.1 q32.2.1 (n := 60) q32.2.2 g22 (by decide) dX3_insert_47 ?_
          obtain ⟨g23, h⟩ := xgd_of h
          refine x_iast X hG hS q32.1 q32.2.1 (n := 60) q32.2.2 g23 (by decide) dX3_insert_48 (fun H locs hG hS => ?_)
          obtain ⟨u24, eu24, h⟩ := xlet_of h
          replace hG : G t u24 H := by rw [eu24]; exact hG
          refine lv_iload X.1.1 X.1.2.1 dX3_insert_49 (lv_at hl 1 rfl) ?_
          refine lv_istore_n (lv' := [(3, .int (iI x4_13)), (4, .int (iI x4_13)), (0, .ref (t.2.2.1 30)), (2, .int (iI x2))]) X.1.1 X.1.2.1 dX3_insert_51 rfl hl (by decide) rfl (fun ls hl => ?_)
          refine lv_iinc (v := (iI (x4_13 + (-1)))) (lv' := [(4, .int (iI (x4_13 + (-1)))), (3, .int (iI x4_13)), (0, .ref (t.2.2.1 30)), (2, .int (iI x2))]) X.1.1 X.1.2.1 dX3_insert_52 hl (k := 1) rfl (iI_add _ _) (by decide) rfl (fun ls hl => ?_)
          refine lv_goto (tgt := 7) X.1.1 X.1.2.1 dX3_insert_55 (by decide) ?_
          exact igo11 _ _ _ _ h rfl _ _ _ hG hS (lv_sub hl [1, 0, 2, 3] rfl)
        · replace h := xif_f h c21
          refine lv_goto (tgt := 58) X.1.1 X.1.2.1 dX3_insert_30 (by decide) ?_
          exact Jj2 _ _ h _ _ _ hG hS (lv_sub hl [2, 3, 0] rfl)
  exact Lgo11 FU _ _ _ h _ _ _ hG hS (lv_sub hl [1, 0, 2, 4] rfl)
theorem hd_X3_insert : yX3_insert.cls = RX3 ∧ yX3_insert.cls ≠ "java/lang/invoke/MethodHandle" ∧ yX3_insert.cls ≠ "java/lang/invoke/VarHandle" ∧ (parseMethodDescriptor yX3_insert.desc).map (fun d => d.parameters.length) = some 2 := by decide +kernel
abbrev rX3_magnitudeOfPick : Room := { frames := 1, cells := 0, slots := 0, locals := 23 }
set_option maxRecDepth 100000 in
set_option maxHeartbeats 8000000 in
theorem c_X3_magnitudeOfPick (l : Launch) (t : gP) (k1 : Nat) (k2 : Nat) (x3 : Int) (u : uS) (r : Int) (u' : uS) (h : f_X3_magnitudeOfPick k1 k2 x3 u = some (r, u')) : xMi l yX3_magnitudeOfPick wsX3_magnitudeOfPick rX3_magnitudeOfPick t [.ref (t.2.2.1 30), .ref (t.2.2.1 k1), .ref (t.2.2.1 k2), .int (iI x3)] u r u' 0 0 := by
  refine x_ofWi (cc := cX3_magnitudeOfPick) (maxL := 5) (ret := .int) (own := RX3) (by decide) rfl rfl (Nat.le_of_ble_eq_true rfl) ?_
  intro p e s m args below meth c Q X hret H locs ls hG hS hl
  replace hl : lv_has ls 5 [(0, .ref (t.2.2.1 30)), (1, .ref (t.2.2.1 k1)), (2, .ref (t.2.2.1 k2)), (3, .int (iI x3))] := hl
  have q30 : 30 < NN ∧ sT 30 = 7 := by decide
  have iX3 : ∀ w ∈ wsX30, w ∈ wsX3_magnitudeOfPick := by decide +kernel
  have w1 : Cond.fieldLink RX3 53 "TriggerNetwork$Locator" "node" "I" ∈ wsX3_magnitudeOfPick := x_w 1 rfl
  have iX7 : ∀ w ∈ wsX70, w ∈ wsX3_magnitudeOfPick := by decide +kernel
  have w2 : Cond.fieldLink RX3 72 "TriggerNetwork$Situation" "pickStations" "[I" ∈ wsX3_magnitudeOfPick := x_w 2 rfl
  have iX5 : ∀ w ∈ wsX50, w ∈ wsX3_magnitudeOfPick := by decide +kernel
  have w3 : Cond.fieldLink RX3 89 "TriggerNetwork$Network" "rungs" "LTriggerNetwork$Rungs;" ∈ wsX3_magnitudeOfPick := x_w 3 rfl
  have w4 : Cond.fieldLink RX3 93 "TriggerNetwork$Situation" "pickPeaks" "[I" ∈ wsX3_magnitudeOfPick := x_w 4 rfl
  have w5 : Cond.fieldLink RX3 96 "TriggerNetwork$Network" "decay" "I" ∈ wsX3_magnitudeOfPick := x_w 5 rfl
  unfold f_X3_magnitudeOfPick at h
  obtain ⟨g1, h⟩ := xgd_of h
  refine lv_iload_n X.1.1 X.1.2.1 dX3_magnitudeOfPick_0 rfl (lv_at hl 3 rfl) ?_
  obtain ⟨g2, h⟩ := xgd_of h
  refine x_if_lt (tgt := 10) X g2 dX3_magnitudeOfPick_1 (by decide) (fun c3 => ?_) (fun c3 => ?_)
  · replace h := xif_t h c3
    refine x_iconst X dX3_magnitudeOfPick_10 ?_
    cases h
    exact hret _ _ _ _ dX3_magnitudeOfPick_11 rfl hG hS
  · replace h := xif_f h c3
    refine lv_iload_n X.1.1 X.1.2.1 dX3_magnitudeOfPick_4 rfl (lv_at hl 3 rfl) ?_
    refine x_bipush X dX3_magnitudeOfPick_5 (by decide) ?_
    obtain ⟨g4, h⟩ := xgd_of h
    refine x_icmp_lt (tgt := 12) X g4 ⟨by decide, by decide⟩ dX3_magnitudeOfPick_7 (by decide) (fun c5 => ?_) (fun c5 => ?_)
    · replace h := xif_t h c5
      refine lv_aload_n X.1.1 X.1.2.1 dX3_magnitudeOfPick_12 rfl (lv_at hl 1 rfl) ?_
      refine lv_aload_n X.1.1 X.1.2.1 dX3_magnitudeOfPick_13 rfl (lv_at hl 0 rfl) ?_
      refine x_geti X hG 7 1 30 1 (inC := iX3) rfl q30.1 q30.2 ⟨by decide, by decide, by decide, rfl, rfl⟩ w1 dX3_magnitudeOfPick_14 ?_
      refine lv_aload_n X.1.1 X.1.2.1 dX3_magnitudeOfPick_17 rfl (lv_at hl 2 rfl) ?_
      refine x_getr X hG 11 10 k2 8 (inC := iX7) rfl g1.2.1 g1.2.2 ⟨by decide, by decide, by decide, rfl, by decide, by decide⟩ w2 dX3_magnitudeOfPick_18 ?_
      refine lv_iload_n X.1.1 X.1.2.1 dX3_magnitudeOfPick_21 rfl (lv_at hl 3 rfl) ?_
      obtain ⟨g6, h⟩ := xgd_of h
      refine x_iald X hG (fx_11_10 g1.2).1 (fx_11_10 g1.2).2.1 (n := 60) (fx_11_10 g1.2).2.2 g6 (by decide) dX3_magnitudeOfPick_22 ?_
      obtain ⟨v7, u8, hf, h⟩ := xbd_of h
      refine x_callVi0 X hG hS (c_X5_distanceFromNode l t _ _ _ _ _ _ hf) (cwV 2 X.1.2.2.2.2 gX3_magnitudeOfPick_X5_distanceFromNode rfl rfl rfl hd_X5_distanceFromNode ⟨Nat.le_of_ble_eq_true rfl, Nat.le_of_ble_eq_true rfl⟩) g1.1.1 g1.1.2 rfl (by decide) (by rfl) hl.1 (Nat.le_of_ble_eq_true rfl) dX3_magnitudeOfPick_23 ⟨by decide, by decide⟩ rfl (fun H locs hG hS => ?_)
      refine lv_istore (lv' := [(4, .int (iI v7)), (0, .ref (t.2.2.1 30)), (1, .ref (t.2.2.1 k1)), (2, .ref (t.2.2.1 k2)), (3, .int (iI x3))]) X.1.1 X.1.2.1 dX3_magnitudeOfPick_26 hl (by decide) rfl (fun ls hl => ?_)
      refine lv_aload_n X.1.1 X.1.2.1 dX3_magnitudeOfPick_28 rfl (lv_at hl 2 rfl) ?_
      refine x_getr X hG 9 1 k1 2 (inC := iX5) rfl g1.1.1 g1.1.2 ⟨by decide, by decide, by decide, rfl, by decide, by decide⟩ w3 dX3_magnitudeOfPick_29 ?_
      refine lv_aload_n X.1.1 X.1.2.1 dX3_magnitudeOfPick_32 rfl (lv_at hl 3 rfl) ?_
      refine x_getr X hG 11 12 k2 10 (inC := iX7) rfl g1.2.1 g1.2.2 ⟨by decide, by decide, by decide, rfl, by decide, by decide⟩ w4 dX3_magnitudeOfPick_33 ?_
      refine lv_iload_n X.1.1 X.1.2.1 dX3_magnitudeOfPick_36 rfl (lv_at hl 4 rfl) ?_
      obtain ⟨g9, h⟩ := xgd_of h
      refine x_iald X hG (fx_11_12 g1.2).1 (fx_11_12 g1.2).2.1 (n := 60) (fx_11_12 g1.2).2.2 g9 (by decide) dX3_magnitudeOfPick_37 ?_
      refine lv_aload_n X.1.1 X.1.2.1 dX3_magnitudeOfPick_38 rfl (lv_at hl 2 rfl) ?_
      refine x_geti X hG 9 9 k1 9 (inC := iX5) rfl g1.1.1 g1.1.2 ⟨by decide, by decide, by decide, rfl, rfl⟩ w5 dX3_magnitudeOfPick_39 ?_
      refine lv_iload X.1.1 X.1.2.1 dX3_magnitudeOfPick_42 (lv_at hl 0 rfl) ?_
      refine x_imul X dX3_magnitudeOfPick_44 ?_
      refine x_iadd X dX3_magnitudeOfPick_45 ?_
      obtain ⟨v10, u11, hf, h⟩ := xbd_of h
      refine x_callVi0 X hG hS (c_X6_magnitudeOf l t _ _ _ _ _ hf) (cwV 1 X.1.2.2.2.2 gX3_magnitudeOfPick_X6_magnitudeOf rfl rfl rfl hd_X6_magnitudeOf ⟨Nat.le_of_ble_eq_true rfl, Nat.le_of_ble_eq_true rfl⟩) (fx_9_1 g1.1).1 (fx_9_1 g1.1).2 rfl (by decide) (by rfl) hl.1 (Nat.le_of_ble_eq_true rfl) dX3_magnitudeOfPick_46 ⟨by decide, by decide⟩ rfl (fun H locs hG hS => ?_)
      cases h
      exact hret _ _ _ _ dX3_magnitudeOfPick_49 rfl hG hS
    · replace h := xif_f h c5
      refine x_iconst X dX3_magnitudeOfPick_10 ?_
      cases h
      exact hret _ _ _ _ dX3_magnitudeOfPick_11 rfl hG hS
theorem hd_X3_magnitudeOfPick : yX3_magnitudeOfPick.cls = RX3 ∧ yX3_magnitudeOfPick.cls ≠ "java/lang/invoke/MethodHandle" ∧ yX3_magnitudeOfPick.cls ≠ "java/lang/invoke/VarHandle" ∧ (parseMethodDescriptor yX3_magnitudeOfPick.desc).map (fun d => d.parameters.length) = some 3 := by decide +kernel
abbrev rX3_magnitude : Room := { frames := 2, cells := 0, slots := 0, locals := 47 }
set_option maxRecDepth 100000 in
set_option maxHeartbeats 8000000 in
theorem c_X3_magnitude (l : Launch) (t : gP) (k1 : Nat) (k2 : Nat) (u : uS) (r : Int) (u' : uS) (h : f_X3_magnitude k1 k2 u = some (r, u')) : xMi l yX3_magnitude wsX3_magnitude rX3_magnitude t [.ref (t.2.2.1 30), .ref (t.2.2.1 k1), .ref (t.2.2.1 k2)] u r u' 0 0 := by
  refine x_ofWi (cc := cX3_magnitude) (maxL := 4) (ret := .int) (own := RX3) (by decide) rfl rfl (Nat.le_of_ble_eq_true rfl) ?_
  intro p e s m args below meth c Q X hret H locs ls hG hS hl
  replace hl : lv_has ls 4 [(0, .ref (t.2.2.1 30)), (1, .ref (t.2.2.1 k1)), (2, .ref (t.2.2.1 k2))] := hl
  have q30 : 30 < NN ∧ sT 30 = 7 := by decide
  have iX3 : ∀ w ∈ wsX30, w ∈ wsX3_magnitude := by decide +kernel
  have w1 : Cond.fieldLink RX3 18 "TriggerNetwork$Locator" "count" "I" ∈ wsX3_magnitude := x_w 1 rfl
  have w3 : Cond.fieldLink RX3 15 "TriggerNetwork$Locator" "magnitudes" "[I" ∈ wsX3_magnitude := x_w 3 rfl
  have q32 : 32 < NN ∧ sT 32 = 100 ∧ sN 32 = 60 := by decide
  have w2 : Cond.fieldLink RX3 9 "TriggerNetwork$Locator" "members" "[I" ∈ wsX3_magnitude := x_w 2 rfl
  have q31 : 31 < NN ∧ sT 31 = 100 ∧ sN 31 = 60 := by decide
  unfold f_X3_magnitude at h
  obtain ⟨g1, h⟩ := xgd_of h
  refine x_iconst X dX3_magnitude_0 ?_
  refine lv_istore_n (lv' := [(3, .int (iI 0)), (0, .ref (t.2.2.1 30)), (1, .ref (t.2.2.1 k1)), (2, .ref (t.2.2.1 k2))]) X.1.1 X.1.2.1 dX3_magnitude_1 rfl hl (by decide) rfl (fun ls hl => ?_)
  obtain ⟨j2, ej2, h⟩ := xlet_of h
  have Jj2 : ∀ (u3 : uS), j2 u3 = some (r, u') → xG p l e rX3_magnitude s m args below meth c t Q 4 0 0 39 u3 [(0, .ref (t.2.2.1 30))] [] := by
      intro u3 h H locs ls hG hS hl
      replace h := (congrFun ej2 u3).symm.trans h
      refine lv_aload_n X.1.1 X.1.2.1 dX3_magnitude_39 rfl (lv_at hl 0 rfl) ?_
      refine x_geti X hG 7 0 30 0 (inC := iX3) rfl q30.1 q30.2 ⟨by decide, by decide, by decide, rfl, rfl⟩ w1 dX3_magnitude_40 ?_
      refine x_iconst X dX3_magnitude_43 ?_
      refine x_isub X dX3_magnitude_44 ?_
      refine x_iconst X dX3_magnitude_45 ?_
      obtain ⟨g4, h⟩ := xgd_of h
      refine x_idiv X g4 ⟨by decide, by decide⟩ (by decide) dX3_magnitude_46 ?_
      refine x_name (fun x3_5 ex3_5 => ?_)
      replace h := xlet_at ex3_5 h
      refine lv_istore_n (lv' := [(3, .int (iI x3_5)), (0, .ref (t.2.2.1 30))]) X.1.1 X.1.2.1 dX3_magnitude_47 rfl hl (by decide) rfl (fun ls hl => ?_)
      refine lv_aload_n X.1.1 X.1.2.1 dX3_magnitude_48 rfl (lv_at hl 1 rfl) ?_
      refine x_geti X hG 7 0 30 0 (inC := iX3) rfl q30.1 q30.2 ⟨by decide, by decide, by decide, rfl, rfl⟩ w1 dX3_magnitude_49 ?_
      obtain ⟨g6, h⟩ := xgd_of h
      refine x_if_le (tgt := 70) X g6 dX3_magnitude_52 (by decide) (fun c7 => ?_) (fun c7 => ?_)
      · replace h := xif_t h c7
        refine x_iconst X dX3_magnitude_70 ?_
        cases h
        exact hret _ _ _ _ dX3_magnitude_71 rfl hG hS
      · replace h := xif_f h c7
        refine lv_iload_n X.1.1 X.1.2.1 dX3_magnitude_55 rfl (lv_at hl 0 rfl) ?_
        refine x_bipush X dX3_magnitude_56 (by decide) ?_
        obtain ⟨g8, h⟩ := xgd_of h
        refine x_icmp_ge (tgt := 70) X g8 ⟨by decide, by decide⟩ dX3_magnitude_58 (by decide) (fun c9 => ?_) (fun c9 => ?_)
        · replace h := xif_t h c9
          refine x_iconst X dX3_magnitude_70 ?_
          cases h
          exact hret _ _ _ _ dX3_magnitude_71 rfl hG hS
        · replace h := xif_f h c9
          refine lv_aload_n X.1.1 X.1.2.1 dX3_magnitude_61 rfl (lv_at hl 1 rfl) ?_
          refine x_getr X hG 7 5 30 2 (inC := iX3) rfl q30.1 q30.2 ⟨by decide, by decide, by decide, rfl, by decide, by decide⟩ w3 dX3_magnitude_62 ?_
          refine lv_iload_n X.1.1 X.1.2.1 dX3_magnitude_65 rfl (lv_at hl 0 rfl) ?_
          obtain ⟨g10, h⟩ := xgd_of h
          refine x_iald X hG q32.1 q32.2.1 (n := 60) q32.2.2 g10 (by decide) dX3_magnitude_66 ?_
          refine lv_goto (tgt := 71) X.1.1 X.1.2.1 dX3_magnitude_67 (by decide) ?_
          cases h
          exact hret _ _ _ _ dX3_magnitude_71 rfl hG hS
  have Lgo11 : ∀ (n : Nat) (x3_12 : Int) (u13 : uS), xl2 (s_X3_magnitude_2 j2 k1 k2) n x3_12 u13 = some (r, u') → xG p l e rX3_magnitude s m args below meth c t Q 4 0 0 2 u13 [(3, .int (iI x3_12)), (0, .ref (t.2.2.1 30)), (1, .ref (t.2.2.1 k1)), (2, .ref (t.2.2.1 k2))] [] := by
    intro n x3_12 u13 h
    refine xl2_W (F := s_X3_magnitude_2 j2 k1 k2) (fun x3_12 u13 q => q = (r, u') → xG p l e rX3_magnitude s m args below meth c t Q 4 0 0 2 u13 [(3, .int (iI x3_12)), (0, .ref (t.2.2.1 30)), (1, .ref (t.2.2.1 k1)), (2, .ref (t.2.2.1 k2))] []) ?_ n x3_12 u13 _ h rfl
    intro go11 igo11 x3_12 u13 q h hq H locs ls hG hS hl
    subst hq
    unfold s_X3_magnitude_2 at h
    refine lv_iload_n X.1.1 X.1.2.1 dX3_magnitude_2 rfl (lv_at hl 0 rfl) ?_
    refine lv_aload_n X.1.1 X.1.2.1 dX3_magnitude_3 rfl (lv_at hl 1 rfl) ?_
    refine x_geti X hG 7 0 30 0 (inC := iX3) rfl q30.1 q30.2 ⟨by decide, by decide, by decide, rfl, rfl⟩ w1 dX3_magnitude_4 ?_
    obtain ⟨g14, h⟩ := xgd_of h
    refine x_icmp_ge (tgt := 39) X g14.1 g14.2 dX3_magnitude_7 (by decide) (fun c15 => ?_) (fun c15 => ?_)
    · replace h := xif_t h c15
      exact Jj2 _ h _ _ _ hG hS (lv_sub hl [1] rfl)
    · replace h := xif_f h c15
      refine lv_iload_n X.1.1 X.1.2.1 dX3_magnitude_10 rfl (lv_at hl 0 rfl) ?_
      refine x_bipush X dX3_magnitude_11 (by decide) ?_
      obtain ⟨g16, h⟩ := xgd_of h
      refine x_icmp_ge (tgt := 39) X g16 ⟨by decide, by decide⟩ dX3_magnitude_13 (by decide) (fun c17 => ?_) (fun c17 => ?_)
      · replace h := xif_t h c17
        exact Jj2 _ h _ _ _ hG hS (lv_sub hl [1] rfl)
      · replace h := xif_f h c17
        refine lv_aload_n X.1.1 X.1.2.1 dX3_magnitude_16 rfl (lv_at hl 1 rfl) ?_
        refine lv_iload_n X.1.1 X.1.2.1 dX3_magnitude_17 rfl (lv_at hl 0 rfl) ?_
        refine lv_aload_n X.1.1 X.1.2.1 dX3_magnitude_18 rfl (lv_at hl 1 rfl) ?_
        refine lv_aload_n X.1.1 X.1.2.1 dX3_magnitude_19 rfl (lv_at hl 2 rfl) ?_
        refine lv_aload_n X.1.1 X.1.2.1 dX3_magnitude_20 rfl (lv_at hl 3 rfl) ?_
        refine lv_aload_n X.1.1 X.1.2.1 dX3_magnitude_21 rfl (lv_at hl 1 rfl) ?_
        refine x_getr X hG 7 4 30 1 (inC := iX3) rfl q30.1 q30.2 ⟨by decide, by decide, by decide, rfl, by decide, by decide⟩ w2 dX3_magnitude_22 ?_
        refine lv_iload_n X.1.1 X.1.2.1 dX3_magnitude_25 rfl (lv_at hl 0 rfl) ?_
        obtain ⟨g18, h⟩ := xgd_of h
        refine x_iald X hG q31.1 q31.2.1 (n := 60) q31.2.2 g18 (by decide) dX3_magnitude_26 ?_
        obtain ⟨v19, u20, hf, h⟩ := xbd_of h
        refine x_callVi0 X hG hS (c_X3_magnitudeOfPick l t _ _ _ _ _ _ hf) (cwV 3 X.1.2.2.2.2 gX3_magnitude_X3_magnitudeOfPick rfl rfl rfl hd_X3_magnitudeOfPick ⟨Nat.le_of_ble_eq_true rfl, Nat.le_of_ble_eq_true rfl⟩) q30.1 q30.2 rfl (by decide) (by rfl) hl.1 (Nat.le_of_ble_eq_true rfl) dX3_magnitude_27 ⟨by decide, by decide⟩ rfl (fun H locs hG hS => ?_)
        obtain ⟨v21, u22, hf, h⟩ := xbd_of h
        refine x_callVv0 X hG hS (c_X3_insert l t _ _ _ _ _ hf) (cwV 2 X.1.2.2.2.2 gX3_magnitude_X3_insert rfl rfl rfl hd_X3_insert ⟨Nat.le_of_ble_eq_true rfl, Nat.le_of_ble_eq_true rfl⟩) q30.1 q30.2 rfl (by decide) (by rfl) hl.1 (Nat.le_of_ble_eq_true rfl) dX3_magnitude_30 ⟨by decide, by decide⟩ rfl (fun H locs hG hS => ?_)
        refine lv_iinc (v := (iI (x3_12 + 1))) (lv' := [(3, .int (iI (x3_12 + 1))), (0, .ref (t.2.2.1 30)), (1, .ref (t.2.2.1 k1)), (2, .ref (t.2.2.1 k2))]) X.1.1 X.1.2.1 dX3_magnitude_33 hl (k := 0) rfl (iI_add _ _) (by decide) rfl (fun ls hl => ?_)
        refine lv_goto (tgt := 2) X.1.1 X.1.2.1 dX3_magnitude_36 (by decide) ?_
        exact igo11 _ _ _ h rfl _ _ _ hG hS (lv_sub hl [0, 1, 2, 3] rfl)
  exact Lgo11 FU _ _ h _ _ _ hG hS (lv_sub hl [0, 1, 2, 3] rfl)
theorem hd_X3_magnitude : yX3_magnitude.cls = RX3 ∧ yX3_magnitude.cls ≠ "java/lang/invoke/MethodHandle" ∧ yX3_magnitude.cls ≠ "java/lang/invoke/VarHandle" ∧ (parseMethodDescriptor yX3_magnitude.desc).map (fun d => d.parameters.length) = some 2 := by decide +kernel
