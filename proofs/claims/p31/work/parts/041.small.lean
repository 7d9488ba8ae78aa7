abbrev rX5_ratioOf : Room := { frames := 0, cells := 0, slots := 0, locals := 0 }
set_option maxRecDepth 100000 in
set_option maxHeartbeats 8000000 in
theorem c_X5_ratioOf (l : Launch) (t : gP) (k0 : Nat) (x1 : Int) (x2 : Int) (u : uS) (r : Int) (u' : uS) (h : f_X5_ratioOf k0 x1 x2 u = some (r, u')) : xMi l yX5_ratioOf wsX5_ratioOf rX5_ratioOf t [.ref (t.2.2.1 k0), .int (iI x1), .int (iI x2)] u r u' 0 0 := by
  refine x_ofWi (cc := cX5_ratioOf) (maxL := 5) (ret := .int) (own := RX5) (by decide) rfl rfl (Nat.le_of_ble_eq_true rfl) ?_
  intro p e s m args below meth c Q X hret H locs ls hG hS hl
  replace hl : lv_has ls 5 [(0, .ref (t.2.2.1 k0)), (1, .int (iI x1)), (2, .int (iI x2))] := hl
  have iX5 : ∀ w ∈ wsX50, w ∈ wsX5_ratioOf := by decide +kernel
  have w1 : Cond.fieldLink RX5 52 "TriggerNetwork$Network" "shortSpan" "I" ∈ wsX5_ratioOf := x_w 1 rfl
  have w2 : Cond.fieldLink RX5 55 "TriggerNetwork$Network" "longSpan" "I" ∈ wsX5_ratioOf := x_w 2 rfl
  have w3 : Cond.constantLong RX5 97 (100) ∈ wsX5_ratioOf := x_w 3 rfl
  unfold f_X5_ratioOf at h
  obtain ⟨g1, h⟩ := xgd_of h
  refine lv_iload_n X.1.1 X.1.2.1 dX5_ratioOf_0 rfl (lv_at hl 2 rfl) ?_
  obtain ⟨g2, h⟩ := xgd_of h
  refine x_i2l X g2 dX5_ratioOf_1 ?_
  refine lv_aload_n X.1.1 X.1.2.1 dX5_ratioOf_2 rfl (lv_at hl 0 rfl) ?_
  refine x_geti X hG 9 3 k0 3 (inC := iX5) rfl g1.1 g1.2 ⟨by decide, by decide, by decide, rfl, rfl⟩ w1 dX5_ratioOf_3 ?_
  obtain ⟨g3, h⟩ := xgd_of h
  refine x_i2l X g3 dX5_ratioOf_6 ?_
  refine x_lmul X dX5_ratioOf_7 ?_
  refine x_namel (fun y3_4 ey3_4 => ?_)
  replace h := xlet_at ey3_4 h
  refine lv_lstore_n (lv' := [(3, .long (lI y3_4)), (0, .ref (t.2.2.1 k0)), (1, .int (iI x1)), (2, .int (iI x2))]) X.1.1 X.1.2.1 dX5_ratioOf_8 rfl hl (by decide) rfl (fun ls hl => ?_)
  refine lv_lload_n X.1.1 X.1.2.1 dX5_ratioOf_9 rfl (lv_at hl 0 rfl) ?_
  refine x_lconst X dX5_ratioOf_10 0 rfl ?_
  obtain ⟨g5, h⟩ := xgd_of h
  refine x_lcmp X g5 ⟨by decide, by decide⟩ dX5_ratioOf_11 ?_
  refine x_if_ne (tgt := 19) X (inR_cmp _ _) dX5_ratioOf_12 (by decide) (fun c6 => ?_) (fun c6 => ?_)
  · replace h := xif_f h c6
    refine lv_iload_n X.1.1 X.1.2.1 dX5_ratioOf_19 rfl (lv_at hl 2 rfl) ?_
    obtain ⟨g7, h⟩ := xgd_of h
    refine x_i2l X g7 dX5_ratioOf_20 ?_
    refine lv_aload_n X.1.1 X.1.2.1 dX5_ratioOf_21 rfl (lv_at hl 1 rfl) ?_
    refine x_geti X hG 9 4 k0 4 (inC := iX5) rfl g1.1 g1.2 ⟨by decide, by decide, by decide, rfl, rfl⟩ w2 dX5_ratioOf_22 ?_
    obtain ⟨g8, h⟩ := xgd_of h
    refine x_i2l X g8 dX5_ratioOf_25 ?_
    refine x_lmul X dX5_ratioOf_26 ?_
    refine x_ldc2 X 100 rfl w3 dX5_ratioOf_27 ?_
    refine x_lmul X dX5_ratioOf_30 ?_
    refine lv_lload_n X.1.1 X.1.2.1 dX5_ratioOf_31 rfl (lv_at hl 0 rfl) ?_
    obtain ⟨g9, h⟩ := xgd_of h
    refine x_ldiv X g9.1 g9.2.1 g9.2.2 dX5_ratioOf_32 ?_
    refine x_l2i X dX5_ratioOf_33 ?_
    cases h
    exact hret _ _ _ _ dX5_ratioOf_34 rfl hG hS
  · replace h := xif_t h c6
    refine x_iconst X dX5_ratioOf_15 ?_
    refine lv_goto (tgt := 34) X.1.1 X.1.2.1 dX5_ratioOf_16 (by decide) ?_
    cases h
    exact hret _ _ _ _ dX5_ratioOf_34 rfl hG hS
theorem hd_X5_ratioOf : yX5_ratioOf.cls = RX5 ∧ yX5_ratioOf.cls ≠ "java/lang/invoke/MethodHandle" ∧ yX5_ratioOf.cls ≠ "java/lang/invoke/VarHandle" ∧ (parseMethodDescriptor yX5_ratioOf.desc).map (fun d => d.parameters.length) = some 2 := by decide +kernel
abbrev rX5_travelOfStations : Room := { frames := 0, cells := 0, slots := 0, locals := 0 }
set_option maxRecDepth 100000 in
set_option maxHeartbeats 8000000 in
theorem c_X5_travelOfStations (l : Launch) (t : gP) (k0 : Nat) (x1 : Int) (x2 : Int) (u : uS) (r : Int) (u' : uS) (h : f_X5_travelOfStations k0 x1 x2 u = some (r, u')) : xMi l yX5_travelOfStations wsX5_travelOfStations rX5_travelOfStations t [.ref (t.2.2.1 k0), .int (iI x1), .int (iI x2)] u r u' 0 0 := by
  refine x_ofWi (cc := cX5_travelOfStations) (maxL := 4) (ret := .int) (own := RX5) (by decide) rfl rfl (Nat.le_of_ble_eq_true rfl) ?_
  intro p e s m args below meth c Q X hret H locs ls hG hS hl
  replace hl : lv_has ls 4 [(0, .ref (t.2.2.1 k0)), (1, .int (iI x1)), (2, .int (iI x2))] := hl
  have iX5 : ∀ w ∈ wsX50, w ∈ wsX5_travelOfStations := by decide +kernel
  have w1 : Cond.fieldLink RX5 32 "TriggerNetwork$Network" "stationTravels" "[I" ∈ wsX5_travelOfStations := x_w 1 rfl
  unfold f_X5_travelOfStations at h
  obtain ⟨g1, h⟩ := xgd_of h
  refine lv_iload_n X.1.1 X.1.2.1 dX5_travelOfStations_0 rfl (lv_at hl 1 rfl) ?_
  refine x_bipush X dX5_travelOfStations_1 (by decide) ?_
  refine x_imul X dX5_travelOfStations_3 ?_
  refine lv_iload_n X.1.1 X.1.2.1 dX5_travelOfStations_4 rfl (lv_at hl 2 rfl) ?_
  refine x_iadd X dX5_travelOfStations_5 ?_
  refine x_name (fun x3_2 ex3_2 => ?_)
  replace h := xlet_at ex3_2 h
  refine lv_istore_n (lv' := [(3, .int (iI x3_2)), (0, .ref (t.2.2.1 k0)), (1, .int (iI x1)), (2, .int (iI x2))]) X.1.1 X.1.2.1 dX5_travelOfStations_6 rfl hl (by decide) rfl (fun ls hl => ?_)
  refine lv_iload_n X.1.1 X.1.2.1 dX5_travelOfStations_7 rfl (lv_at hl 0 rfl) ?_
  obtain ⟨g3, h⟩ := xgd_of h
  refine x_if_lt (tgt := 29) X g3 dX5_travelOfStations_8 (by decide) (fun c4 => ?_) (fun c4 => ?_)
  · replace h := xif_t h c4
    refine x_iconst X dX5_travelOfStations_29 ?_
    cases h
    exact hret _ _ _ _ dX5_travelOfStations_30 rfl hG hS
  · replace h := xif_f h c4
    refine lv_iload_n X.1.1 X.1.2.1 dX5_travelOfStations_11 rfl (lv_at hl 0 rfl) ?_
    refine lv_aload_n X.1.1 X.1.2.1 dX5_travelOfStations_12 rfl (lv_at hl 1 rfl) ?_
    refine x_getr X hG 9 13 k0 7 (inC := iX5) rfl g1.1 g1.2 ⟨by decide, by decide, by decide, rfl, by decide, by decide⟩ w1 dX5_travelOfStations_13 ?_
    refine x_alen X hG (fx_9_13 g1).1 (fx_9_13 g1).2.1 (n := 64) (fx_9_13 g1).2.2 dX5_travelOfStations_16 ?_
    obtain ⟨g5, h⟩ := xgd_of h
    refine x_icmp_ge (tgt := 29) X g5 ⟨by decide, by decide⟩ dX5_travelOfStations_17 (by decide) (fun c6 => ?_) (fun c6 => ?_)
    · replace h := xif_t h c6
      refine x_iconst X dX5_travelOfStations_29 ?_
      cases h
      exact hret _ _ _ _ dX5_travelOfStations_30 rfl hG hS
    · replace h := xif_f h c6
      refine lv_aload_n X.1.1 X.1.2.1 dX5_travelOfStations_20 rfl (lv_at hl 1 rfl) ?_
      refine x_getr X hG 9 13 k0 7 (inC := iX5) rfl g1.1 g1.2 ⟨by decide, by decide, by decide, rfl, by decide, by decide⟩ w1 dX5_travelOfStations_21 ?_
      refine lv_iload_n X.1.1 X.1.2.1 dX5_travelOfStations_24 rfl (lv_at hl 0 rfl) ?_
      obtain ⟨g7, h⟩ := xgd_of h
      refine x_iald X hG (fx_9_13 g1).1 (fx_9_13 g1).2.1 (n := 64) (fx_9_13 g1).2.2 g7 (by decide) dX5_travelOfStations_25 ?_
      refine lv_goto (tgt := 30) X.1.1 X.1.2.1 dX5_travelOfStations_26 (by decide) ?_
      cases h
      exact hret _ _ _ _ dX5_travelOfStations_30 rfl hG hS
theorem hd_X5_travelOfStations : yX5_travelOfStations.cls = RX5 ∧ yX5_travelOfStations.cls ≠ "java/lang/invoke/MethodHandle" ∧ yX5_travelOfStations.cls ≠ "java/lang/invoke/VarHandle" ∧ (parseMethodDescriptor yX5_travelOfStations.desc).map (fun d => d.parameters.length) = some 2 := by decide +kernel
abbrev rX2_place : Room := { frames := 0, cells := 0, slots := 0, locals := 0 }
set_option maxRecDepth 100000 in
set_option maxHeartbeats 8000000 in
theorem c_X2_place (l : Launch) (t : gP) (k0 : Nat) (x1 : Int) (x2 : Int) (x3 : Int) (x4 : Int) (x5 : Int) (u : uS) (r : Int) (u' : uS) (h : f_X2_place k0 x1 x2 x3 x4 x5 u = some (r, u')) : xMv l yX2_place wsX2_place rX2_place t [.ref (t.2.2.1 k0), .int (iI x1), .int (iI x2), .int (iI x3), .int (iI x4), .int (iI x5)] u u' 0 0 := by
  refine x_ofWv (cc := cX2_place) (maxL := 6) (own := RX2) (by decide) rfl rfl (Nat.le_of_ble_eq_true rfl) ?_
  intro p e s m args below meth c Q X hret H locs ls hG hS hl
  replace hl : lv_has ls 6 [(0, .ref (t.2.2.1 k0)), (1, .int (iI x1)), (2, .int (iI x2)), (3, .int (iI x3)), (4, .int (iI x4)), (5, .int (iI x5))] := hl
  have iX2 : ∀ w ∈ wsX20, w ∈ wsX2_place := by decide +kernel
  have w1 : Cond.fieldLink RX2 7 "TriggerNetwork$Grid" "x" "I" ∈ wsX2_place := x_w 1 rfl
  have w2 : Cond.fieldLink RX2 13 "TriggerNetwork$Grid" "y" "I" ∈ wsX2_place := x_w 2 rfl
  have w3 : Cond.fieldLink RX2 16 "TriggerNetwork$Grid" "columns" "I" ∈ wsX2_place := x_w 3 rfl
  have w4 : Cond.fieldLink RX2 19 "TriggerNetwork$Grid" "rows" "I" ∈ wsX2_place := x_w 4 rfl
  have w5 : Cond.fieldLink RX2 22 "TriggerNetwork$Grid" "step" "I" ∈ wsX2_place := x_w 5 rfl
  unfold f_X2_place at h
  obtain ⟨g1, h⟩ := xgd_of h
  refine lv_aload_n X.1.1 X.1.2.1 dX2_place_0 rfl (lv_at hl 0 rfl) ?_
  refine lv_iload_n X.1.1 X.1.2.1 dX2_place_1 rfl (lv_at hl 1 rfl) ?_
  refine x_puti X hG hS 6 0 k0 0 _ tyX2 tyX2_ok nmX2 (inC := iX2) rfl g1.1 g1.2 ⟨by decide, by decide, by decide, rfl, rfl⟩ rfl (by decide +kernel) w1 dX2_place_2 (fun H locs hG hS => ?_)
  obtain ⟨u2, eu2, h⟩ := xlet_of h
  replace hG : G t u2 H := by rw [eu2]; exact hG
  refine lv_aload_n X.1.1 X.1.2.1 dX2_place_5 rfl (lv_at hl 0 rfl) ?_
  refine lv_iload_n X.1.1 X.1.2.1 dX2_place_6 rfl (lv_at hl 2 rfl) ?_
  refine x_puti X hG hS 6 1 k0 1 _ tyX2 tyX2_ok nmX2 (inC := iX2) rfl g1.1 g1.2 ⟨by decide, by decide, by decide, rfl, rfl⟩ rfl (by decide +kernel) w2 dX2_place_7 (fun H locs hG hS => ?_)
  obtain ⟨u3, eu3, h⟩ := xlet_of h
  replace hG : G t u3 H := by rw [eu3]; exact hG
  refine lv_aload_n X.1.1 X.1.2.1 dX2_place_10 rfl (lv_at hl 0 rfl) ?_
  refine lv_iload_n X.1.1 X.1.2.1 dX2_place_11 rfl (lv_at hl 3 rfl) ?_
  refine x_puti X hG hS 6 2 k0 2 _ tyX2 tyX2_ok nmX2 (inC := iX2) rfl g1.1 g1.2 ⟨by decide, by decide, by decide, rfl, rfl⟩ rfl (by decide +kernel) w3 dX2_place_12 (fun H locs hG hS => ?_)
  obtain ⟨u4, eu4, h⟩ := xlet_of h
  replace hG : G t u4 H := by rw [eu4]; exact hG
  refine lv_aload_n X.1.1 X.1.2.1 dX2_place_15 rfl (lv_at hl 0 rfl) ?_
  refine lv_iload X.1.1 X.1.2.1 dX2_place_16 (lv_at hl 4 rfl) ?_
  refine x_puti X hG hS 6 3 k0 3 _ tyX2 tyX2_ok nmX2 (inC := iX2) rfl g1.1 g1.2 ⟨by decide, by decide, by decide, rfl, rfl⟩ rfl (by decide +kernel) w4 dX2_place_18 (fun H locs hG hS => ?_)
  obtain ⟨u5, eu5, h⟩ := xlet_of h
  replace hG : G t u5 H := by rw [eu5]; exact hG
  refine lv_aload_n X.1.1 X.1.2.1 dX2_place_21 rfl (lv_at hl 0 rfl) ?_
  refine lv_iload X.1.1 X.1.2.1 dX2_place_22 (lv_at hl 5 rfl) ?_
  refine x_puti X hG hS 6 4 k0 4 _ tyX2 tyX2_ok nmX2 (inC := iX2) rfl g1.1 g1.2 ⟨by decide, by decide, by decide, rfl, rfl⟩ rfl (by decide +kernel) w5 dX2_place_24 (fun H locs hG hS => ?_)
  obtain ⟨u6, eu6, h⟩ := xlet_of h
  replace hG : G t u6 H := by rw [eu6]; exact hG
  cases h
  exact hret _ _ _ _ dX2_place_27 hG hS
theorem hd_X2_place : yX2_place.cls = RX2 ∧ yX2_place.cls ≠ "java/lang/invoke/MethodHandle" ∧ yX2_place.cls ≠ "java/lang/invoke/VarHandle" ∧ (parseMethodDescriptor yX2_place.desc).map (fun d => d.parameters.length) = some 5 := by decide +kernel
abbrev rX5_putStation : Room := { frames := 0, cells := 0, slots := 0, locals := 0 }
set_option maxRecDepth 100000 in
set_option maxHeartbeats 8000000 in
theorem c_X5_putStation (l : Launch) (t : gP) (k0 : Nat) (x1 : Int) (x2 : Int) (u : uS) (r : Int) (u' : uS) (h : f_X5_putStation k0 x1 x2 u = some (r, u')) : xMv l yX5_putStation wsX5_putStation rX5_putStation t [.ref (t.2.2.1 k0), .int (iI x1), .int (iI x2)] u u' 0 0 := by
  refine x_ofWv (cc := cX5_putStation) (maxL := 3) (own := RX5) (by decide) rfl rfl (Nat.le_of_ble_eq_true rfl) ?_
  intro p e s m args below meth c Q X hret H locs ls hG hS hl
  replace hl : lv_has ls 3 [(0, .ref (t.2.2.1 k0)), (1, .int (iI x1)), (2, .int (iI x2))] := hl
  have iX5 : ∀ w ∈ wsX50, w ∈ wsX5_putStation := by decide +kernel
  have w1 : Cond.fieldLink RX5 73 "TriggerNetwork$Network" "stationCount" "I" ∈ wsX5_putStation := x_w 1 rfl
  have w2 : Cond.fieldLink RX5 25 "TriggerNetwork$Network" "xs" "[I" ∈ wsX5_putStation := x_w 2 rfl
  have w3 : Cond.fieldLink RX5 29 "TriggerNetwork$Network" "ys" "[I" ∈ wsX5_putStation := x_w 3 rfl
  unfold f_X5_putStation at h
  obtain ⟨g1, h⟩ := xgd_of h
  refine lv_aload_n X.1.1 X.1.2.1 dX5_putStation_0 rfl (lv_at hl 0 rfl) ?_
  refine x_geti X hG 9 10 k0 10 (inC := iX5) rfl g1.1 g1.2 ⟨by decide, by decide, by decide, rfl, rfl⟩ w1 dX5_putStation_1 ?_
  refine x_bipush X dX5_putStation_4 (by decide) ?_
  obtain ⟨g2, h⟩ := xgd_of h
  refine x_icmp_ge (tgt := 39) X g2 ⟨by decide, by decide⟩ dX5_putStation_6 (by decide) (fun c3 => ?_) (fun c3 => ?_)
  · replace h := xif_t h c3
    cases h
    exact hret _ _ _ _ dX5_putStation_39 hG hS
  · replace h := xif_f h c3
    refine lv_aload_n X.1.1 X.1.2.1 dX5_putStation_9 rfl (lv_at hl 0 rfl) ?_
    refine x_getr X hG 9 11 k0 5 (inC := iX5) rfl g1.1 g1.2 ⟨by decide, by decide, by decide, rfl, by decide, by decide⟩ w2 dX5_putStation_10 ?_
    refine lv_aload_n X.1.1 X.1.2.1 dX5_putStation_13 rfl (lv_at hl 0 rfl) ?_
    refine x_geti X hG 9 10 k0 10 (inC := iX5) rfl g1.1 g1.2 ⟨by decide, by decide, by decide, rfl, rfl⟩ w1 dX5_putStation_14 ?_
    refine lv_iload_n X.1.1 X.1.2.1 dX5_putStation_17 rfl (lv_at hl 1 rfl) ?_
    obtain ⟨g4, h⟩ := xgd_of h
    refine x_iast X hG hS (fx_9_11 g1).1 (fx_9_11 g1).2.1 (n := 8) (fx_9_11 g1).2.2 g4 (by decide) dX5_putStation_18 (fun H locs hG hS => ?_)
    obtain ⟨u5, eu5, h⟩ := xlet_of h
    replace hG : G t u5 H := by rw [eu5]; exact hG
    refine lv_aload_n X.1.1 X.1.2.1 dX5_putStation_19 rfl (lv_at hl 0 rfl) ?_
    refine x_getr X hG 9 12 k0 6 (inC := iX5) rfl g1.1 g1.2 ⟨by decide, by decide, by decide, rfl, by decide, by decide⟩ w3 dX5_putStation_20 ?_
    refine lv_aload_n X.1.1 X.1.2.1 dX5_putStation_23 rfl (lv_at hl 0 rfl) ?_
    refine x_geti X hG 9 10 k0 10 (inC := iX5) rfl g1.1 g1.2 ⟨by decide, by decide, by decide, rfl, rfl⟩ w1 dX5_putStation_24 ?_
    refine lv_iload_n X.1.1 X.1.2.1 dX5_putStation_27 rfl (lv_at hl 2 rfl) ?_
    obtain ⟨g6, h⟩ := xgd_of h
    refine x_iast X hG hS (fx_9_12 g1).1 (fx_9_12 g1).2.1 (n := 8) (fx_9_12 g1).2.2 g6 (by decide) dX5_putStation_28 (fun H locs hG hS => ?_)
    obtain ⟨u7, eu7, h⟩ := xlet_of h
    replace hG : G t u7 H := by rw [eu7]; exact hG
    refine lv_aload_n X.1.1 X.1.2.1 dX5_putStation_29 rfl (lv_at hl 0 rfl) ?_
    refine lv_dup X.1.1 X.1.2.1 dX5_putStation_30 rfl ?_
    refine x_geti X hG 9 10 k0 10 (inC := iX5) rfl g1.1 g1.2 ⟨by decide, by decide, by decide, rfl, rfl⟩ w1 dX5_putStation_31 ?_
    refine x_iconst X dX5_putStation_34 ?_
    refine x_iadd X dX5_putStation_35 ?_
    refine x_puti X hG hS 9 10 k0 10 _ tyX5 tyX5_ok nmX5 (inC := iX5) rfl g1.1 g1.2 ⟨by decide, by decide, by decide, rfl, rfl⟩ rfl (by decide +kernel) w1 dX5_putStation_36 (fun H locs hG hS => ?_)
    obtain ⟨u8, eu8, h⟩ := xlet_of h
    replace hG : G t u8 H := by rw [eu8]; exact hG
    cases h
    exact hret _ _ _ _ dX5_putStation_39 hG hS
theorem hd_X5_putStation : yX5_putStation.cls = RX5 ∧ yX5_putStation.cls ≠ "java/lang/invoke/MethodHandle" ∧ yX5_putStation.cls ≠ "java/lang/invoke/VarHandle" ∧ (parseMethodDescriptor yX5_putStation.desc).map (fun d => d.parameters.length) = some 2 := by decide +kernel
abbrev rX6_put : Room := { frames := 0, cells := 0, slots := 0, locals := 0 }
set_option maxRecDepth 100000 in
set_option maxHeartbeats 8000000 in
theorem c_X6_put (l : Launch) (t : gP) (k0 : Nat) (x1 : Int) (x2 : Int) (u : uS) (r : Int) (u' : uS) (h : f_X6_put k0 x1 x2 u = some (r, u')) : xMv l yX6_put wsX6_put rX6_put t [.ref (t.2.2.1 k0), .int (iI x1), .int (iI x2)] u u' 0 0 := by
  refine x_ofWv (cc := cX6_put) (maxL := 3) (own := RX6) (by decide) rfl rfl (Nat.le_of_ble_eq_true rfl) ?_
  intro p e s m args below meth c Q X hret H locs ls hG hS hl
  replace hl : lv_has ls 3 [(0, .ref (t.2.2.1 k0)), (1, .int (iI x1)), (2, .int (iI x2))] := hl
  have iX6 : ∀ w ∈ wsX60, w ∈ wsX6_put := by decide +kernel
  have w1 : Cond.fieldLink RX6 18 "TriggerNetwork$Rungs" "count" "I" ∈ wsX6_put := x_w 1 rfl
  have w2 : Cond.fieldLink RX6 9 "TriggerNetwork$Rungs" "amplitudes" "[I" ∈ wsX6_put := x_w 2 rfl
  have w3 : Cond.fieldLink RX6 15 "TriggerNetwork$Rungs" "magnitudes" "[I" ∈ wsX6_put := x_w 3 rfl
  unfold f_X6_put at h
  obtain ⟨g1, h⟩ := xgd_of h
  refine lv_aload_n X.1.1 X.1.2.1 dX6_put_0 rfl (lv_at hl 0 rfl) ?_
  refine x_geti X hG 10 0 k0 0 (inC := iX6) rfl g1.1 g1.2 ⟨by decide, by decide, by decide, rfl, rfl⟩ w1 dX6_put_1 ?_
  refine x_bipush X dX6_put_4 (by decide) ?_
  obtain ⟨g2, h⟩ := xgd_of h
  refine x_icmp_ge (tgt := 39) X g2 ⟨by decide, by decide⟩ dX6_put_6 (by decide) (fun c3 => ?_) (fun c3 => ?_)
  · replace h := xif_t h c3
    cases h
    exact hret _ _ _ _ dX6_put_39 hG hS
  · replace h := xif_f h c3
    refine lv_aload_n X.1.1 X.1.2.1 dX6_put_9 rfl (lv_at hl 0 rfl) ?_
    refine x_getr X hG 10 1 k0 1 (inC := iX6) rfl g1.1 g1.2 ⟨by decide, by decide, by decide, rfl, by decide, by decide⟩ w2 dX6_put_10 ?_
    refine lv_aload_n X.1.1 X.1.2.1 dX6_put_13 rfl (lv_at hl 0 rfl) ?_
    refine x_geti X hG 10 0 k0 0 (inC := iX6) rfl g1.1 g1.2 ⟨by decide, by decide, by decide, rfl, rfl⟩ w1 dX6_put_14 ?_
    refine lv_iload_n X.1.1 X.1.2.1 dX6_put_17 rfl (lv_at hl 1 rfl) ?_
    obtain ⟨g4, h⟩ := xgd_of h
    refine x_iast X hG hS (fx_10_1 g1).1 (fx_10_1 g1).2.1 (n := 8) (fx_10_1 g1).2.2 g4 (by decide) dX6_put_18 (fun H locs hG hS => ?_)
    obtain ⟨u5, eu5, h⟩ := xlet_of h
    replace hG : G t u5 H := by rw [eu5]; exact hG
    refine lv_aload_n X.1.1 X.1.2.1 dX6_put_19 rfl (lv_at hl 0 rfl) ?_
    refine x_getr X hG 10 2 k0 2 (inC := iX6) rfl g1.1 g1.2 ⟨by decide, by decide, by decide, rfl, by decide, by decide⟩ w3 dX6_put_20 ?_
    refine lv_aload_n X.1.1 X.1.2.1 dX6_put_23 rfl (lv_at hl 0 rfl) ?_
    refine x_geti X hG 10 0 k0 0 (inC := iX6) rfl g1.1 g1.2 ⟨by decide, by decide, by decide, rfl, rfl⟩ w1 dX6_put_24 ?_
    refine lv_iload_n X.1.1 X.1.2.1 dX6_put_27 rfl (lv_at hl 2 rfl) ?_
    obtain ⟨g6, h⟩ := xgd_of h
    refine x_iast X hG hS (fx_10_2 g1).1 (fx_10_2 g1).2.1 (n := 8) (fx_10_2 g1).2.2 g6 (by decide) dX6_put_28 (fun H locs hG hS => ?_)
    obtain ⟨u7, eu7, h⟩ := xlet_of h
    replace hG : G t u7 H := by rw [eu7]; exact hG
    refine lv_aload_n X.1.1 X.1.2.1 dX6_put_29 rfl (lv_at hl 0 rfl) ?_
    refine lv_dup X.1.1 X.1.2.1 dX6_put_30 rfl ?_
    refine x_geti X hG 10 0 k0 0 (inC := iX6) rfl g1.1 g1.2 ⟨by decide, by decide, by decide, rfl, rfl⟩ w1 dX6_put_31 ?_
    refine x_iconst X dX6_put_34 ?_
    refine x_iadd X dX6_put_35 ?_
    refine x_puti X hG hS 10 0 k0 0 _ tyX6 tyX6_ok nmX6 (inC := iX6) rfl g1.1 g1.2 ⟨by decide, by decide, by decide, rfl, rfl⟩ rfl (by decide +kernel) w1 dX6_put_36 (fun H locs hG hS => ?_)
    obtain ⟨u8, eu8, h⟩ := xlet_of h
    replace hG : G t u8 H := by rw [eu8]; exact hG
    cases h
    exact hret _ _ _ _ dX6_put_39 hG hS
theorem hd_X6_put : yX6_put.cls = RX6 ∧ yX6_put.cls ≠ "java/lang/invoke/MethodHandle" ∧ yX6_put.cls ≠ "java/lang/invoke/VarHandle" ∧ (parseMethodDescriptor yX6_put.desc).map (fun d => d.parameters.length) = some 2 := by decide +kernel
abbrev rX6_lowestNextAmplitude : Room := { frames := 0, cells := 0, slots := 0, locals := 0 }
set_option maxRecDepth 100000 in
set_option maxHeartbeats 8000000 in
theorem c_X6_lowestNextAmplitude (l : Launch) (t : gP) (k0 : Nat) (u : uS) (r : Int) (u' : uS) (h : f_X6_lowestNextAmplitude k0 u = some (r, u')) : xMi l yX6_lowestNextAmplitude wsX6_lowestNextAmplitude rX6_lowestNextAmplitude t [.ref (t.2.2.1 k0)] u r u' 0 0 := by
  refine x_ofWi (cc := cX6_lowestNextAmplitude) (maxL := 1) (ret := .int) (own := RX6) (by decide) rfl rfl (Nat.le_of_ble_eq_true rfl) ?_
  intro p e s m args below meth c Q X hret H locs ls hG hS hl
  replace hl : lv_has ls 1 [(0, .ref (t.2.2.1 k0))] := hl
  have iX6 : ∀ w ∈ wsX60, w ∈ wsX6_lowestNextAmplitude := by decide +kernel
  have w1 : Cond.fieldLink RX6 18 "TriggerNetwork$Rungs" "count" "I" ∈ wsX6_lowestNextAmplitude := x_w 1 rfl
  have w2 : Cond.fieldLink RX6 9 "TriggerNetwork$Rungs" "amplitudes" "[I" ∈ wsX6_lowestNextAmplitude := x_w 2 rfl
  unfold f_X6_lowestNextAmplitude at h
  obtain ⟨g1, h⟩ := xgd_of h
  refine lv_aload_n X.1.1 X.1.2.1 dX6_lowestNextAmplitude_0 rfl (lv_at hl 0 rfl) ?_
  refine x_geti X hG 10 0 k0 0 (inC := iX6) rfl g1.1 g1.2 ⟨by decide, by decide, by decide, rfl, rfl⟩ w1 dX6_lowestNextAmplitude_1 ?_
  obtain ⟨g2, h⟩ := xgd_of h
  refine x_if_le (tgt := 32) X g2 dX6_lowestNextAmplitude_4 (by decide) (fun c3 => ?_) (fun c3 => ?_)
  · replace h := xif_t h c3
    refine x_iconst X dX6_lowestNextAmplitude_32 ?_
    cases h
    exact hret _ _ _ _ dX6_lowestNextAmplitude_33 rfl hG hS
  · replace h := xif_f h c3
    refine lv_aload_n X.1.1 X.1.2.1 dX6_lowestNextAmplitude_7 rfl (lv_at hl 0 rfl) ?_
    refine x_geti X hG 10 0 k0 0 (inC := iX6) rfl g1.1 g1.2 ⟨by decide, by decide, by decide, rfl, rfl⟩ w1 dX6_lowestNextAmplitude_8 ?_
    refine x_bipush X dX6_lowestNextAmplitude_11 (by decide) ?_
    obtain ⟨g4, h⟩ := xgd_of h
    refine x_icmp_gt (tgt := 32) X g4 ⟨by decide, by decide⟩ dX6_lowestNextAmplitude_13 (by decide) (fun c5 => ?_) (fun c5 => ?_)
    · replace h := xif_t h c5
      refine x_iconst X dX6_lowestNextAmplitude_32 ?_
      cases h
      exact hret _ _ _ _ dX6_lowestNextAmplitude_33 rfl hG hS
    · replace h := xif_f h c5
      refine lv_aload_n X.1.1 X.1.2.1 dX6_lowestNextAmplitude_16 rfl (lv_at hl 0 rfl) ?_
      refine x_getr X hG 10 1 k0 1 (inC := iX6) rfl g1.1 g1.2 ⟨by decide, by decide, by decide, rfl, by decide, by decide⟩ w2 dX6_lowestNextAmplitude_17 ?_
      refine lv_aload_n X.1.1 X.1.2.1 dX6_lowestNextAmplitude_20 rfl (lv_at hl 0 rfl) ?_
      refine x_geti X hG 10 0 k0 0 (inC := iX6) rfl g1.1 g1.2 ⟨by decide, by decide, by decide, rfl, rfl⟩ w1 dX6_lowestNextAmplitude_21 ?_
      refine x_iconst X dX6_lowestNextAmplitude_24 ?_
      refine x_isub X dX6_lowestNextAmplitude_25 ?_
      obtain ⟨g6, h⟩ := xgd_of h
      refine x_iald X hG (fx_10_1 g1).1 (fx_10_1 g1).2.1 (n := 8) (fx_10_1 g1).2.2 g6 (by decide) dX6_lowestNextAmplitude_26 ?_
      refine x_iconst X dX6_lowestNextAmplitude_27 ?_
      refine x_iadd X dX6_lowestNextAmplitude_28 ?_
      refine lv_goto (tgt := 33) X.1.1 X.1.2.1 dX6_lowestNextAmplitude_29 (by decide) ?_
      cases h
      exact hret _ _ _ _ dX6_lowestNextAmplitude_33 rfl hG hS
theorem hd_X6_lowestNextAmplitude : yX6_lowestNextAmplitude.cls = RX6 ∧ yX6_lowestNextAmplitude.cls ≠ "java/lang/invoke/MethodHandle" ∧ yX6_lowestNextAmplitude.cls ≠ "java/lang/invoke/VarHandle" ∧ (parseMethodDescriptor yX6_lowestNextAmplitude.desc).map (fun d => d.parameters.length) = some 0 := by decide +kernel
abbrev rX6_lowestNextMagnitude : Room := { frames := 0, cells := 0, slots := 0, locals := 0 }
set_option maxRecDepth 100000 in
set_option maxHeartbeats 8000000 in
theorem c_X6_lowestNextMagnitude (l : Launch) (t : gP) (k0 : Nat) (u : uS) (r : Int) (u' : uS) (h : f_X6_lowestNextMagnitude k0 u = some (r, u')) : xMi l yX6_lowestNextMagnitude wsX6_lowestNextMagnitude rX6_lowestNextMagnitude t [.ref (t.2.2.1 k0)] u r u' 0 0 := by
  refine x_ofWi (cc := cX6_lowestNextMagnitude) (maxL := 1) (ret := .int) (own := RX6) (by decide) rfl rfl (Nat.le_of_ble_eq_true rfl) ?_
  intro p e s m args below meth c Q X hret H locs ls hG hS hl
  replace hl : lv_has ls 1 [(0, .ref (t.2.2.1 k0))] := hl
  have iX6 : ∀ w ∈ wsX60, w ∈ wsX6_lowestNextMagnitude := by decide +kernel
  have w1 : Cond.fieldLink RX6 18 "TriggerNetwork$Rungs" "count" "I" ∈ wsX6_lowestNextMagnitude := x_w 1 rfl
  have w2 : Cond.fieldLink RX6 15 "TriggerNetwork$Rungs" "magnitudes" "[I" ∈ wsX6_lowestNextMagnitude := x_w 2 rfl
  unfold f_X6_lowestNextMagnitude at h
  obtain ⟨g1, h⟩ := xgd_of h
  refine lv_aload_n X.1.1 X.1.2.1 dX6_lowestNextMagnitude_0 rfl (lv_at hl 0 rfl) ?_
  refine x_geti X hG 10 0 k0 0 (inC := iX6) rfl g1.1 g1.2 ⟨by decide, by decide, by decide, rfl, rfl⟩ w1 dX6_lowestNextMagnitude_1 ?_
  obtain ⟨g2, h⟩ := xgd_of h
  refine x_if_le (tgt := 30) X g2 dX6_lowestNextMagnitude_4 (by decide) (fun c3 => ?_) (fun c3 => ?_)
  · replace h := xif_t h c3
    refine x_iconst X dX6_lowestNextMagnitude_30 ?_
    cases h
    exact hret _ _ _ _ dX6_lowestNextMagnitude_31 rfl hG hS
  · replace h := xif_f h c3
    refine lv_aload_n X.1.1 X.1.2.1 dX6_lowestNextMagnitude_7 rfl (lv_at hl 0 rfl) ?_
    refine x_geti X hG 10 0 k0 0 (inC := iX6) rfl g1.1 g1.2 ⟨by decide, by decide, by decide, rfl, rfl⟩ w1 dX6_lowestNextMagnitude_8 ?_
    refine x_bipush X dX6_lowestNextMagnitude_11 (by decide) ?_
    obtain ⟨g4, h⟩ := xgd_of h
    refine x_icmp_gt (tgt := 30) X g4 ⟨by decide, by decide⟩ dX6_lowestNextMagnitude_13 (by decide) (fun c5 => ?_) (fun c5 => ?_)
    · replace h := xif_t h c5
      refine x_iconst X dX6_lowestNextMagnitude_30 ?_
      cases h
      exact hret _ _ _ _ dX6_lowestNextMagnitude_31 rfl hG hS
    · replace h := xif_f h c5
      refine lv_aload_n X.1.1 X.1.2.1 dX6_lowestNextMagnitude_16 rfl (lv_at hl 0 rfl) ?_
      refine x_getr X hG 10 2 k0 2 (inC := iX6) rfl g1.1 g1.2 ⟨by decide, by decide, by decide, rfl, by decide, by decide⟩ w2 dX6_lowestNextMagnitude_17 ?_
      refine lv_aload_n X.1.1 X.1.2.1 dX6_lowestNextMagnitude_20 rfl (lv_at hl 0 rfl) ?_
      refine x_geti X hG 10 0 k0 0 (inC := iX6) rfl g1.1 g1.2 ⟨by decide, by decide, by decide, rfl, rfl⟩ w1 dX6_lowestNextMagnitude_21 ?_
      refine x_iconst X dX6_lowestNextMagnitude_24 ?_
      refine x_isub X dX6_lowestNextMagnitude_25 ?_
      obtain ⟨g6, h⟩ := xgd_of h
      refine x_iald X hG (fx_10_2 g1).1 (fx_10_2 g1).2.1 (n := 8) (fx_10_2 g1).2.2 g6 (by decide) dX6_lowestNextMagnitude_26 ?_
      refine lv_goto (tgt := 31) X.1.1 X.1.2.1 dX6_lowestNextMagnitude_27 (by decide) ?_
      cases h
      exact hret _ _ _ _ dX6_lowestNextMagnitude_31 rfl hG hS
theorem hd_X6_lowestNextMagnitude : yX6_lowestNextMagnitude.cls = RX6 ∧ yX6_lowestNextMagnitude.cls ≠ "java/lang/invoke/MethodHandle" ∧ yX6_lowestNextMagnitude.cls ≠ "java/lang/invoke/VarHandle" ∧ (parseMethodDescriptor yX6_lowestNextMagnitude.desc).map (fun d => d.parameters.length) = some 0 := by decide +kernel
abbrev rX2_nodeCount : Room := { frames := 0, cells := 0, slots := 0, locals := 0 }
set_option maxRecDepth 100000 in
set_option maxHeartbeats 8000000 in
theorem c_X2_nodeCount (l : Launch) (t : gP) (k0 : Nat) (u : uS) (r : Int) (u' : uS) (h : f_X2_nodeCount k0 u = some (r, u')) : xMi l yX2_nodeCount wsX2_nodeCount rX2_nodeCount t [.ref (t.2.2.1 k0)] u r u' 0 0 := by
  refine x_ofWi (cc := cX2_nodeCount) (maxL := 1) (ret := .int) (own := RX2) (by decide) rfl rfl (Nat.le_of_ble_eq_true rfl) ?_
  intro p e s m args below meth c Q X hret H locs ls hG hS hl
  replace hl : lv_has ls 1 [(0, .ref (t.2.2.1 k0))] := hl
  have iX2 : ∀ w ∈ wsX20, w ∈ wsX2_nodeCount := by decide +kernel
  have w1 : Cond.fieldLink RX2 16 "TriggerNetwork$Grid" "columns" "I" ∈ wsX2_nodeCount := x_w 1 rfl
  have w2 : Cond.fieldLink RX2 19 "TriggerNetwork$Grid" "rows" "I" ∈ wsX2_nodeCount := x_w 2 rfl
  unfold f_X2_nodeCount at h
  obtain ⟨g1, h⟩ := xgd_of h
  refine lv_aload_n X.1.1 X.1.2.1 dX2_nodeCount_0 rfl (lv_at hl 0 rfl) ?_
  refine x_geti X hG 6 2 k0 2 (inC := iX2) rfl g1.1 g1.2 ⟨by decide, by decide, by decide, rfl, rfl⟩ w1 dX2_nodeCount_1 ?_
  refine lv_aload_n X.1.1 X.1.2.1 dX2_nodeCount_4 rfl (lv_at hl 0 rfl) ?_
  refine x_geti X hG 6 3 k0 3 (inC := iX2) rfl g1.1 g1.2 ⟨by decide, by decide, by decide, rfl, rfl⟩ w2 dX2_nodeCount_5 ?_
  refine x_imul X dX2_nodeCount_8 ?_
  cases h
  exact hret _ _ _ _ dX2_nodeCount_9 rfl hG hS
theorem hd_X2_nodeCount : yX2_nodeCount.cls = RX2 ∧ yX2_nodeCount.cls ≠ "java/lang/invoke/MethodHandle" ∧ yX2_nodeCount.cls ≠ "java/lang/invoke/VarHandle" ∧ (parseMethodDescriptor yX2_nodeCount.desc).map (fun d => d.parameters.length) = some 0 := by decide +kernel
abbrev rX2_nodeX : Room := { frames := 0, cells := 0, slots := 0, locals := 0 }
set_option maxRecDepth 100000 in
set_option maxHeartbeats 8000000 in
theorem c_X2_nodeX (l : Launch) (t : gP) (k0 : Nat) (x1 : Int) (u : uS) (r : Int) (u' : uS) (h : f_X2_nodeX k0 x1 u = some (r, u')) : xMi l yX2_nodeX wsX2_nodeX rX2_nodeX t [.ref (t.2.2.1 k0), .int (iI x1)] u r u' 0 0 := by
  refine x_ofWi (cc := cX2_nodeX) (maxL := 2) (ret := .int) (own := RX2) (by decide) rfl rfl (Nat.le_of_ble_eq_true rfl) ?_
  intro p e s m args below meth c Q X hret H locs ls hG hS hl
  replace hl : lv_has ls 2 [(0, .ref (t.2.2.1 k0)), (1, .int (iI x1))] := hl
  have iX2 : ∀ w ∈ wsX20, w ∈ wsX2_nodeX := by decide +kernel
  have w1 : Cond.fieldLink RX2 7 "TriggerNetwork$Grid" "x" "I" ∈ wsX2_nodeX := x_w 1 rfl
  have w2 : Cond.fieldLink RX2 16 "TriggerNetwork$Grid" "columns" "I" ∈ wsX2_nodeX := x_w 2 rfl
  have w3 : Cond.fieldLink RX2 22 "TriggerNetwork$Grid" "step" "I" ∈ wsX2_nodeX := x_w 3 rfl
  unfold f_X2_nodeX at h
  obtain ⟨g1, h⟩ := xgd_of h
  refine lv_aload_n X.1.1 X.1.2.1 dX2_nodeX_0 rfl (lv_at hl 0 rfl) ?_
  refine x_geti X hG 6 0 k0 0 (inC := iX2) rfl g1.1 g1.2 ⟨by decide, by decide, by decide, rfl, rfl⟩ w1 dX2_nodeX_1 ?_
  refine lv_aload_n X.1.1 X.1.2.1 dX2_nodeX_4 rfl (lv_at hl 0 rfl) ?_
  refine x_geti X hG 6 2 k0 2 (inC := iX2) rfl g1.1 g1.2 ⟨by decide, by decide, by decide, rfl, rfl⟩ w2 dX2_nodeX_5 ?_
  obtain ⟨g2, h⟩ := xgd_of h
  obtain ⟨j3, ej3, h⟩ := xlet_of h
  have Jj3 : ∀ (s4 : Int) (u5 : uS), j3 s4 u5 = some (r, u') → xG p l e rX2_nodeX s m args below meth c t Q 2 0 0 21 u5 [(0, .ref (t.2.2.1 k0))] [.int (iI s4), .int (iI (u k0 0))] := by
      intro s4 u5 h H locs ls hG hS hl
      replace h := (congrFun (congrFun ej3 s4) u5).symm.trans h
      refine lv_aload_n X.1.1 X.1.2.1 dX2_nodeX_21 rfl (lv_at hl 0 rfl) ?_
      refine x_geti X hG 6 4 k0 4 (inC := iX2) rfl g1.1 g1.2 ⟨by decide, by decide, by decide, rfl, rfl⟩ w3 dX2_nodeX_22 ?_
      refine x_imul X dX2_nodeX_25 ?_
      refine x_iadd X dX2_nodeX_26 ?_
      cases h
      exact hret _ _ _ _ dX2_nodeX_27 rfl hG hS
  refine x_if_ne (tgt := 15) X g2 dX2_nodeX_8 (by decide) (fun c6 => ?_) (fun c6 => ?_)
  · replace h := xif_f h c6
    refine lv_iload_n X.1.1 X.1.2.1 dX2_nodeX_15 rfl (lv_at hl 1 rfl) ?_
    refine lv_aload_n X.1.1 X.1.2.1 dX2_nodeX_16 rfl (lv_at hl 0 rfl) ?_
    refine x_geti X hG 6 2 k0 2 (inC := iX2) rfl g1.1 g1.2 ⟨by decide, by decide, by decide, rfl, rfl⟩ w2 dX2_nodeX_17 ?_
    obtain ⟨g7, h⟩ := xgd_of h
    refine x_irem X g7.1 g7.2.1 g7.2.2 dX2_nodeX_20 ?_
    exact Jj3 _ _ h _ _ _ hG hS (lv_sub hl [0] rfl)
  · replace h := xif_t h c6
    refine x_iconst X dX2_nodeX_11 ?_
    refine lv_goto (tgt := 21) X.1.1 X.1.2.1 dX2_nodeX_12 (by decide) ?_
    exact Jj3 _ _ h _ _ _ hG hS (lv_sub hl [0] rfl)
theorem hd_X2_nodeX : yX2_nodeX.cls = RX2 ∧ yX2_nodeX.cls ≠ "java/lang/invoke/MethodHandle" ∧ yX2_nodeX.cls ≠ "java/lang/invoke/VarHandle" ∧ (parseMethodDescriptor yX2_nodeX.desc).map (fun d => d.parameters.length) = some 1 := by decide +kernel
abbrev rX2_nodeY : Room := { frames := 0, cells := 0, slots := 0, locals := 0 }
set_option maxRecDepth 100000 in
set_option maxHeartbeats 8000000 in
theorem c_X2_nodeY (l : Launch) (t : gP) (k0 : Nat) (x1 : Int) (u : uS) (r : Int) (u' : uS) (h : f_X2_nodeY k0 x1 u = some (r, u')) : xMi l yX2_nodeY wsX2_nodeY rX2_nodeY t [.ref (t.2.2.1 k0), .int (iI x1)] u r u' 0 0 := by
  refine x_ofWi (cc := cX2_nodeY) (maxL := 2) (ret := .int) (own := RX2) (by decide) rfl rfl (Nat.le_of_ble_eq_true rfl) ?_
  intro p e s m args below meth c Q X hret H locs ls hG hS hl
  replace hl : lv_has ls 2 [(0, .ref (t.2.2.1 k0)), (1, .int (iI x1))] := hl
  have iX2 : ∀ w ∈ wsX20, w ∈ wsX2_nodeY := by decide +kernel
  have w1 : Cond.fieldLink RX2 13 "TriggerNetwork$Grid" "y" "I" ∈ wsX2_nodeY := x_w 1 rfl
  have w2 : Cond.fieldLink RX2 16 "TriggerNetwork$Grid" "columns" "I" ∈ wsX2_nodeY := x_w 2 rfl
  have w3 : Cond.fieldLink RX2 22 "TriggerNetwork$Grid" "step" "I" ∈ wsX2_nodeY := x_w 3 rfl
  unfold f_X2_nodeY at h
  obtain ⟨g1, h⟩ := xgd_of h
  refine lv_aload_n X.1.1 X.1.2.1 dX2_nodeY_0 rfl (lv_at hl 0 rfl) ?_
  refine x_geti X hG 6 1 k0 1 (inC := iX2) rfl g1.1 g1.2 ⟨by decide, by decide, by decide, rfl, rfl⟩ w1 dX2_nodeY_1 ?_
  refine lv_aload_n X.1.1 X.1.2.1 dX2_nodeY_4 rfl (lv_at hl 0 rfl) ?_
  refine x_geti X hG 6 2 k0 2 (inC := iX2) rfl g1.1 g1.2 ⟨by decide, by decide, by decide, rfl, rfl⟩ w2 dX2_nodeY_5 ?_
  obtain ⟨g2, h⟩ := xgd_of h
  obtain ⟨j3, ej3, h⟩ := xlet_of h
  have Jj3 : ∀ (s4 : Int) (u5 : uS), j3 s4 u5 = some (r, u') → xG p l e rX2_nodeY s m args below meth c t Q 2 0 0 21 u5 [(0, .ref (t.2.2.1 k0))] [.int (iI s4), .int (iI (u k0 1))] := by
      intro s4 u5 h H locs ls hG hS hl
      replace h := (congrFun (congrFun ej3 s4) u5).symm.trans h
      refine lv_aload_n X.1.1 X.1.2.1 dX2_nodeY_21 rfl (lv_at hl 0 rfl) ?_
      refine x_geti X hG 6 4 k0 4 (inC := iX2) rfl g1.1 g1.2 ⟨by decide, by decide, by decide, rfl, rfl⟩ w3 dX2_nodeY_22 ?_
      refine x_imul X dX2_nodeY_25 ?_
      refine x_iadd X dX2_nodeY_26 ?_
      cases h
      exact hret _ _ _ _ dX2_nodeY_27 rfl hG hS
  refine x_if_ne (tgt := 15) X g2 dX2_nodeY_8 (by decide) (fun c6 => ?_) (fun c6 => ?_)
  · replace h := xif_f h c6
    refine lv_iload_n X.1.1 X.1.2.1 dX2_nodeY_15 rfl (lv_at hl 1 rfl) ?_
    refine lv_aload_n X.1.1 X.1.2.1 dX2_nodeY_16 rfl (lv_at hl 0 rfl) ?_
    refine x_geti X hG 6 2 k0 2 (inC := iX2) rfl g1.1 g1.2 ⟨by decide, by decide, by decide, rfl, rfl⟩ w2 dX2_nodeY_17 ?_
    obtain ⟨g7, h⟩ := xgd_of h
    refine x_idiv X g7.1 g7.2.1 g7.2.2 dX2_nodeY_20 ?_
    exact Jj3 _ _ h _ _ _ hG hS (lv_sub hl [0] rfl)
  · replace h := xif_t h c6
    refine x_iconst X dX2_nodeY_11 ?_
    refine lv_goto (tgt := 21) X.1.1 X.1.2.1 dX2_nodeY_12 (by decide) ?_
    exact Jj3 _ _ h _ _ _ hG hS (lv_sub hl [0] rfl)
theorem hd_X2_nodeY : yX2_nodeY.cls = RX2 ∧ yX2_nodeY.cls ≠ "java/lang/invoke/MethodHandle" ∧ yX2_nodeY.cls ≠ "java/lang/invoke/VarHandle" ∧ (parseMethodDescriptor yX2_nodeY.desc).map (fun d => d.parameters.length) = some 1 := by decide +kernel
abbrev rX5_travelOver : Room := { frames := 0, cells := 0, slots := 0, locals := 0 }
set_option maxRecDepth 100000 in
set_option maxHeartbeats 8000000 in
theorem c_X5_travelOver (l : Launch) (t : gP) (k0 : Nat) (x1 : Int) (u : uS) (r : Int) (u' : uS) (h : f_X5_travelOver k0 x1 u = some (r, u')) : xMi l yX5_travelOver wsX5_travelOver rX5_travelOver t [.ref (t.2.2.1 k0), .int (iI x1)] u r u' 0 0 := by
  refine x_ofWi (cc := cX5_travelOver) (maxL := 2) (ret := .int) (own := RX5) (by decide) rfl rfl (Nat.le_of_ble_eq_true rfl) ?_
  intro p e s m args below meth c Q X hret H locs ls hG hS hl
  replace hl : lv_has ls 2 [(0, .ref (t.2.2.1 k0)), (1, .int (iI x1))] := hl
  have iX5 : ∀ w ∈ wsX50, w ∈ wsX5_travelOver := by decide +kernel
  have w1 : Cond.fieldLink RX5 49 "TriggerNetwork$Network" "tenths" "I" ∈ wsX5_travelOver := x_w 1 rfl
  unfold f_X5_travelOver at h
  obtain ⟨g1, h⟩ := xgd_of h
  refine lv_aload_n X.1.1 X.1.2.1 dX5_travelOver_0 rfl (lv_at hl 0 rfl) ?_
  refine x_geti X hG 9 2 k0 2 (inC := iX5) rfl g1.1 g1.2 ⟨by decide, by decide, by decide, rfl, rfl⟩ w1 dX5_travelOver_1 ?_
  obtain ⟨g2, h⟩ := xgd_of h
  refine x_if_ne (tgt := 11) X g2 dX5_travelOver_4 (by decide) (fun c3 => ?_) (fun c3 => ?_)
  · replace h := xif_f h c3
    refine lv_iload_n X.1.1 X.1.2.1 dX5_travelOver_11 rfl (lv_at hl 1 rfl) ?_
    refine x_bipush X dX5_travelOver_12 (by decide) ?_
    refine x_imul X dX5_travelOver_14 ?_
    refine lv_aload_n X.1.1 X.1.2.1 dX5_travelOver_15 rfl (lv_at hl 0 rfl) ?_
    refine x_geti X hG 9 2 k0 2 (inC := iX5) rfl g1.1 g1.2 ⟨by decide, by decide, by decide, rfl, rfl⟩ w1 dX5_travelOver_16 ?_
    obtain ⟨g4, h⟩ := xgd_of h
    refine x_idiv X g4.1 g4.2.1 g4.2.2 dX5_travelOver_19 ?_
    cases h
    exact hret _ _ _ _ dX5_travelOver_20 rfl hG hS
  · replace h := xif_t h c3
    refine x_iconst X dX5_travelOver_7 ?_
    refine lv_goto (tgt := 20) X.1.1 X.1.2.1 dX5_travelOver_8 (by decide) ?_
    cases h
    exact hret _ _ _ _ dX5_travelOver_20 rfl hG hS
theorem hd_X5_travelOver : yX5_travelOver.cls = RX5 ∧ yX5_travelOver.cls ≠ "java/lang/invoke/MethodHandle" ∧ yX5_travelOver.cls ≠ "java/lang/invoke/VarHandle" ∧ (parseMethodDescriptor yX5_travelOver.desc).map (fun d => d.parameters.length) = some 1 := by decide +kernel
abbrev rX9_root : Room := { frames := 0, cells := 0, slots := 0, locals := 0 }
set_option maxRecDepth 100000 in
set_option maxHeartbeats 8000000 in
theorem c_X9_root (l : Launch) (t : gP) (x0 : Int) (u : uS) (r : Int) (u' : uS) (h : f_X9_root x0 u = some (r, u')) : xMi l yX9_root wsX9_root rX9_root t [.int (iI x0)] u r u' 0 0 := by
  refine x_ofWi (cc := cX9_root) (maxL := 4) (ret := .int) (own := RX9) (by decide) rfl rfl (Nat.le_of_ble_eq_true rfl) ?_
  intro p e s m args below meth c Q X hret H locs ls hG hS hl
  replace hl : lv_has ls 4 [(0, .int (iI x0))] := hl
  unfold f_X9_root at h
  refine x_iconst X dX9_root_0 ?_
  refine lv_istore_n (lv' := [(1, .int (iI 0)), (0, .int (iI x0))]) X.1.1 X.1.2.1 dX9_root_1 rfl hl (by decide) rfl (fun ls hl => ?_)
  refine x_bipush X dX9_root_2 (by decide) ?_
  refine lv_istore_n (lv' := [(2, .int (iI 11)), (1, .int (iI 0)), (0, .int (iI x0))]) X.1.1 X.1.2.1 dX9_root_4 rfl hl (by decide) rfl (fun ls hl => ?_)
  have Lgo1 : ∀ (n : Nat) (x1_2 : Int) (x2_3 : Int) (u4 : uS), xl3 (s_X9_root_5 x0) n x1_2 x2_3 u4 = some (r, u') → xG p l e rX9_root s m args below meth c t Q 4 0 0 5 u4 [(1, .int (iI x1_2)), (2, .int (iI x2_3)), (0, .int (iI x0))] [] := by
    intro n x1_2 x2_3 u4 h
    refine xl3_W (F := s_X9_root_5 x0) (fun x1_2 x2_3 u4 q => q = (r, u') → xG p l e rX9_root s m args below meth c t Q 4 0 0 5 u4 [(1, .int (iI x1_2)), (2, .int (iI x2_3)), (0, .int (iI x0))] []) ?_ n x1_2 x2_3 u4 _ h rfl
    intro go1 igo1 x1_2 x2_3 u4 q h hq H locs ls hG hS hl
    subst hq
    unfold s_X9_root_5 at h
    refine lv_iload_n X.1.1 X.1.2.1 dX9_root_5 rfl (lv_at hl 1 rfl) ?_
    obtain ⟨g5, h⟩ := xgd_of h
    refine x_if_lt (tgt := 30) X g5 dX9_root_6 (by decide) (fun c6 => ?_) (fun c6 => ?_)
    · replace h := xif_t h c6
      refine lv_iload_n X.1.1 X.1.2.1 dX9_root_30 rfl (lv_at hl 0 rfl) ?_
      cases h
      exact hret _ _ _ _ dX9_root_31 rfl hG hS
    · replace h := xif_f h c6
      refine lv_iload_n X.1.1 X.1.2.1 dX9_root_9 rfl (lv_at hl 0 rfl) ?_
      refine x_iconst X dX9_root_10 ?_
      refine lv_iload_n X.1.1 X.1.2.1 dX9_root_11 rfl (lv_at hl 1 rfl) ?_
      obtain ⟨g7, h⟩ := xgd_of h
      refine x_ishl X g7 dX9_root_12 ?_
      refine x_iadd X dX9_root_13 ?_
      refine x_name (fun x3_8 ex3_8 => ?_)
      replace h := xlet_at ex3_8 h
      refine lv_istore_n (lv' := [(3, .int (iI x3_8)), (1, .int (iI x1_2)), (2, .int (iI x2_3)), (0, .int (iI x0))]) X.1.1 X.1.2.1 dX9_root_14 rfl hl (by decide) rfl (fun ls hl => ?_)
      refine lv_iload_n X.1.1 X.1.2.1 dX9_root_15 rfl (lv_at hl 0 rfl) ?_
      refine lv_iload_n X.1.1 X.1.2.1 dX9_root_16 rfl (lv_at hl 0 rfl) ?_
      refine x_imul X dX9_root_17 ?_
      refine lv_iload_n X.1.1 X.1.2.1 dX9_root_18 rfl (lv_at hl 3 rfl) ?_
      obtain ⟨g9, h⟩ := xgd_of h
      refine x_icmp_gt (tgt := 24) X g9.1 g9.2 dX9_root_19 (by decide) (fun c10 => ?_) (fun c10 => ?_)
      · replace h := xif_t h c10
        refine lv_iinc (v := (iI (x2_3 + (-1)))) (lv' := [(2, .int (iI (x2_3 + (-1)))), (3, .int (iI x3_8)), (1, .int (iI x1_2)), (0, .int (iI x0))]) X.1.1 X.1.2.1 dX9_root_24 hl (k := 2) rfl (iI_add _ _) (by decide) rfl (fun ls hl => ?_)
        refine lv_goto (tgt := 5) X.1.1 X.1.2.1 dX9_root_27 (by decide) ?_
        exact igo1 _ _ _ _ h rfl _ _ _ hG hS (lv_sub hl [2, 0, 3] rfl)
      · replace h := xif_f h c10
        refine lv_iload_n X.1.1 X.1.2.1 dX9_root_22 rfl (lv_at hl 0 rfl) ?_
        refine lv_istore_n (lv' := [(1, .int (iI x3_8)), (3, .int (iI x3_8)), (2, .int (iI x2_3)), (0, .int (iI x0))]) X.1.1 X.1.2.1 dX9_root_23 rfl hl (by decide) rfl (fun ls hl => ?_)
        refine lv_iinc (v := (iI (x2_3 + (-1)))) (lv' := [(2, .int (iI (x2_3 + (-1)))), (1, .int (iI x3_8)), (3, .int (iI x3_8)), (0, .int (iI x0))]) X.1.1 X.1.2.1 dX9_root_24 hl (k := 2) rfl (iI_add _ _) (by decide) rfl (fun ls hl => ?_)
        refine lv_goto (tgt := 5) X.1.1 X.1.2.1 dX9_root_27 (by decide) ?_
        exact igo1 _ _ _ _ h rfl _ _ _ hG hS (lv_sub hl [1, 0, 3] rfl)
  exact Lgo1 FU _ _ _ h _ _ _ hG hS (lv_sub hl [1, 0, 2] rfl)
theorem hds_X9_root : yX9_root.cls ≠ "java/lang/invoke/MethodHandle" ∧ yX9_root.cls ≠ "java/lang/invoke/VarHandle" ∧ (parseMethodDescriptor yX9_root.desc).map (fun d => d.parameters.length) = some 1 := by decide +kernel
abbrev rX9_distance : Room := { frames := 1, cells := 0, slots := 0, locals := 23 }
set_option maxRecDepth 100000 in
set_option maxHeartbeats 8000000 in
theorem c_X9_distance (l : Launch) (t : gP) (x0 : Int) (x1 : Int) (u : uS) (r : Int) (u' : uS) (h : f_X9_distance x0 x1 u = some (r, u')) : xMi l yX9_distance wsX9_distance rX9_distance t [.int (iI x0), .int (iI x1)] u r u' 0 0 := by
  refine x_ofWi (cc := cX9_distance) (maxL := 2) (ret := .int) (own := RX9) (by decide) rfl rfl (Nat.le_of_ble_eq_true rfl) ?_
  intro p e s m args below meth c Q X hret H locs ls hG hS hl
  replace hl : lv_has ls 2 [(0, .int (iI x0)), (1, .int (iI x1))] := hl
  unfold f_X9_distance at h
  refine lv_iload_n X.1.1 X.1.2.1 dX9_distance_0 rfl (lv_at hl 0 rfl) ?_
  refine lv_iload_n X.1.1 X.1.2.1 dX9_distance_1 rfl (lv_at hl 0 rfl) ?_
  refine x_imul X dX9_distance_2 ?_
  refine lv_iload_n X.1.1 X.1.2.1 dX9_distance_3 rfl (lv_at hl 1 rfl) ?_
  refine lv_iload_n X.1.1 X.1.2.1 dX9_distance_4 rfl (lv_at hl 1 rfl) ?_
  refine x_imul X dX9_distance_5 ?_
  refine x_iadd X dX9_distance_6 ?_
  obtain ⟨v1, u2, hf, h⟩ := xbd_of h
  refine x_callSi0 X hG hS (c_X9_root l t _ _ _ _ hf) (va_cwS 1 X.1.2.2.2.2 gX9_distance_X9_root rfl rfl rfl hds_X9_root ⟨Nat.le_of_ble_eq_true rfl, Nat.le_of_ble_eq_true rfl⟩) (by rfl) hl.1 (Nat.le_of_ble_eq_true rfl) dX9_distance_7 ⟨by decide, by decide⟩ rfl (fun H locs hG hS => ?_)
  cases h
  exact hret _ _ _ _ dX9_distance_10 rfl hG hS
theorem hds_X9_distance : yX9_distance.cls ≠ "java/lang/invoke/MethodHandle" ∧ yX9_distance.cls ≠ "java/lang/invoke/VarHandle" ∧ (parseMethodDescriptor yX9_distance.desc).map (fun d => d.parameters.length) = some 2 := by decide +kernel
abbrev rX5_measure : Room := { frames := 2, cells := 0, slots := 0, locals := 44 }
set_option maxRecDepth 100000 in
set_option maxHeartbeats 8000000 in
theorem c_X5_measure (l : Launch) (t : gP) (k0 : Nat) (u : uS) (r : Int) (u' : uS) (h : f_X5_measure k0 u = some (r, u')) : xMv l yX5_measure wsX5_measure rX5_measure t [.ref (t.2.2.1 k0)] u u' 0 0 := by
  refine x_ofWv (cc := cX5_measure) (maxL := 3) (own := RX5) (by decide) rfl rfl (Nat.le_of_ble_eq_true rfl) ?_
  intro p e s m args below meth c Q X hret H locs ls hG hS hl
  replace hl : lv_has ls 3 [(0, .ref (t.2.2.1 k0))] := hl
  have iX5 : ∀ w ∈ wsX50, w ∈ wsX5_measure := by decide +kernel
  have w1 : Cond.fieldLink RX5 73 "TriggerNetwork$Network" "stationCount" "I" ∈ wsX5_measure := x_w 1 rfl
  have w5 : Cond.fieldLink RX5 12 "TriggerNetwork$Network" "grid" "LTriggerNetwork$Grid;" ∈ wsX5_measure := x_w 5 rfl
  have w6 : Cond.fieldLink RX5 35 "TriggerNetwork$Network" "nodeDistances" "[I" ∈ wsX5_measure := x_w 6 rfl
  have w3 : Cond.fieldLink RX5 25 "TriggerNetwork$Network" "xs" "[I" ∈ wsX5_measure := x_w 3 rfl
  have w4 : Cond.fieldLink RX5 29 "TriggerNetwork$Network" "ys" "[I" ∈ wsX5_measure := x_w 4 rfl
  have w8 : Cond.initialized RX9 ∈ wsX5_measure := x_w 8 rfl
  have w7 : Cond.static yX9_distance ∈ wsX5_measure := x_w 7 rfl
  have w2 : Cond.fieldLink RX5 32 "TriggerNetwork$Network" "stationTravels" "[I" ∈ wsX5_measure := x_w 2 rfl
  unfold f_X5_measure at h
  obtain ⟨g1, h⟩ := xgd_of h
  refine x_iconst X dX5_measure_0 ?_
  refine lv_istore_n (lv' := [(1, .int (iI 0)), (0, .ref (t.2.2.1 k0))]) X.1.1 X.1.2.1 dX5_measure_1 rfl hl (by decide) rfl (fun ls hl => ?_)
  have Lgo2 : ∀ (n : Nat) (x1_3 : Int) (u4 : uS), xl2 (s_X5_measure_2 k0) n x1_3 u4 = some (r, u') → xG p l e rX5_measure s m args below meth c t Q 3 0 0 2 u4 [(1, .int (iI x1_3)), (0, .ref (t.2.2.1 k0))] [] := by
    intro n x1_3 u4 h
    refine xl2_W (F := s_X5_measure_2 k0) (fun x1_3 u4 q => q = (r, u') → xG p l e rX5_measure s m args below meth c t Q 3 0 0 2 u4 [(1, .int (iI x1_3)), (0, .ref (t.2.2.1 k0))] []) ?_ n x1_3 u4 _ h rfl
    intro go2 igo2 x1_3 u4 q h hq H locs ls hG hS hl
    subst hq
    unfold s_X5_measure_2 at h
    refine lv_iload_n X.1.1 X.1.2.1 dX5_measure_2 rfl (lv_at hl 0 rfl) ?_
    refine lv_aload_n X.1.1 X.1.2.1 dX5_measure_3 rfl (lv_at hl 1 rfl) ?_
    refine x_geti X hG 9 10 k0 10 (inC := iX5) rfl g1.1 g1.2 ⟨by decide, by decide, by decide, rfl, rfl⟩ w1 dX5_measure_4 ?_
    obtain ⟨g5, h⟩ := xgd_of h
    refine x_icmp_ge (tgt := 158) X g5.1 g5.2 dX5_measure_7 (by decide) (fun c6 => ?_) (fun c6 => ?_)
    · replace h := xif_t h c6
      cases h
      exact hret _ _ _ _ dX5_measure_158 hG hS
    · replace h := xif_f h c6
      refine lv_iload_n X.1.1 X.1.2.1 dX5_measure_10 rfl (lv_at hl 0 rfl) ?_
      refine x_bipush X dX5_measure_11 (by decide) ?_
      obtain ⟨g7, h⟩ := xgd_of h
      refine x_icmp_ge (tgt := 158) X g7 ⟨by decide, by decide⟩ dX5_measure_13 (by decide) (fun c8 => ?_) (fun c8 => ?_)
      · replace h := xif_t h c8
        cases h
        exact hret _ _ _ _ dX5_measure_158 hG hS
      · replace h := xif_f h c8
        refine x_iconst X dX5_measure_16 ?_
        refine lv_istore_n (lv' := [(2, .int (iI 0)), (1, .int (iI x1_3)), (0, .ref (t.2.2.1 k0))]) X.1.1 X.1.2.1 dX5_measure_17 rfl hl (by decide) rfl (fun ls hl => ?_)
        obtain ⟨j9, ej9, h⟩ := xlet_of h
        have Jj9 : ∀ (u10 : uS), j9 u10 = some (r, u') → xG p l e rX5_measure s m args below meth c t Q 3 0 0 82 u10 [(0, .ref (t.2.2.1 k0)), (1, .int (iI x1_3))] [] := by
            intro u10 h H locs ls hG hS hl
            replace h := (congrFun ej9 u10).symm.trans h
            refine x_iconst X dX5_measure_82 ?_
            refine lv_istore_n (lv' := [(2, .int (iI 0)), (0, .ref (t.2.2.1 k0)), (1, .int (iI x1_3))]) X.1.1 X.1.2.1 dX5_measure_83 rfl hl (by decide) rfl (fun ls hl => ?_)
            have Lgo11 : ∀ (n : Nat) (x2_12 : Int) (u13 : uS), xl2 (s_X5_measure_84 k0 go2 x1_3) n x2_12 u13 = some (r, u') → xG p l e rX5_measure s m args below meth c t Q 3 0 0 84 u13 [(2, .int (iI x2_12)), (0, .ref (t.2.2.1 k0)), (1, .int (iI x1_3))] [] := by
              intro n x2_12 u13 h
              refine xl2_W (F := s_X5_measure_84 k0 go2 x1_3) (fun x2_12 u13 q => q = (r, u') → xG p l e rX5_measure s m args below meth c t Q 3 0 0 84 u13 [(2, .int (iI x2_12)), (0, .ref (t.2.2.1 k0)), (1, .int (iI x1_3))] []) ?_ n x2_12 u13 _ h rfl
              intro go11 igo11 x2_12 u13 q h hq H locs ls hG hS hl
              subst hq
              unfold s_X5_measure_84 at h
              refine lv_iload_n X.1.1 X.1.2.1 dX5_measure_84 rfl (lv_at hl 0 rfl) ?_
              refine lv_aload_n X.1.1 X.1.2.1 dX5_measure_85 rfl (lv_at hl 1 rfl) ?_
              refine x_getr X hG 9 0 k0 1 (inC := iX5) rfl g1.1 g1.2 ⟨by decide, by decide, by decide, rfl, by decide, by decide⟩ w5 dX5_measure_86 ?_
              obtain ⟨v14, u15, hf, h⟩ := xbd_of h
              refine x_callVi0 X hG hS (c_X2_nodeCount l t _ _ _ _ hf) (cwV 0 X.1.2.2.2.2 gX5_measure_X2_nodeCount rfl rfl rfl hd_X2_nodeCount ⟨Nat.le_of_ble_eq_true rfl, Nat.le_of_ble_eq_true rfl⟩) (fx_9_0 g1).1 (fx_9_0 g1).2 rfl (by decide) (by rfl) hl.1 (Nat.le_of_ble_eq_true rfl) dX5_measure_89 ⟨by decide, by decide⟩ rfl (fun H locs hG hS => ?_)
              obtain ⟨g16, h⟩ := xgd_of h
              refine x_icmp_ge (tgt := 152) X g16.1 g16.2 dX5_measure_92 (by decide) (fun c17 => ?_) (fun c17 => ?_)
              · replace h := xif_t h c17
                refine lv_iinc (v := (iI (x1_3 + 1))) (lv' := [(1, .int (iI (x1_3 + 1))), (2, .int (iI x2_12)), (0, .ref (t.2.2.1 k0))]) X.1.1 X.1.2.1 dX5_measure_152 hl (k := 2) rfl (iI_add _ _) (by decide) rfl (fun ls hl => ?_)
                refine lv_goto (tgt := 2) X.1.1 X.1.2.1 dX5_measure_155 (by decide) ?_
                exact igo2 _ _ _ h rfl _ _ _ hG hS (lv_sub hl [0, 2] rfl)
              · replace h := xif_f h c17
                refine lv_iload_n X.1.1 X.1.2.1 dX5_measure_95 rfl (lv_at hl 0 rfl) ?_
                refine x_sipush X dX5_measure_96 (by decide) ?_
                obtain ⟨g18, h⟩ := xgd_of h
                refine x_icmp_ge (tgt := 152) X g18 ⟨by decide, by decide⟩ dX5_measure_99 (by decide) (fun c19 => ?_) (fun c19 => ?_)
                · replace h := xif_t h c19
                  refine lv_iinc (v := (iI (x1_3 + 1))) (lv' := [(1, .int (iI (x1_3 + 1))), (2, .int (iI x2_12)), (0, .ref (t.2.2.1 k0))]) X.1.1 X.1.2.1 dX5_measure_152 hl (k := 2) rfl (iI_add _ _) (by decide) rfl (fun ls hl => ?_)
                  refine lv_goto (tgt := 2) X.1.1 X.1.2.1 dX5_measure_155 (by decide) ?_
                  exact igo2 _ _ _ h rfl _ _ _ hG hS (lv_sub hl [0, 2] rfl)
                · replace h := xif_f h c19
                  refine lv_aload_n X.1.1 X.1.2.1 dX5_measure_102 rfl (lv_at hl 1 rfl) ?_
                  refine x_getr X hG 9 14 k0 8 (inC := iX5) rfl g1.1 g1.2 ⟨by decide, by decide, by decide, rfl, by decide, by decide⟩ w6 dX5_measure_103 ?_
                  refine lv_iload_n X.1.1 X.1.2.1 dX5_measure_106 rfl (lv_at hl 0 rfl) ?_
                  refine x_bipush X dX5_measure_107 (by decide) ?_
                  refine x_imul X dX5_measure_109 ?_
                  refine lv_iload_n X.1.1 X.1.2.1 dX5_measure_110 rfl (lv_at hl 2 rfl) ?_
                  refine x_iadd X dX5_measure_111 ?_
                  refine lv_aload_n X.1.1 X.1.2.1 dX5_measure_112 rfl (lv_at hl 1 rfl) ?_
                  refine x_getr X hG 9 0 k0 1 (inC := iX5) rfl g1.1 g1.2 ⟨by decide, by decide, by decide, rfl, by decide, by decide⟩ w5 dX5_measure_113 ?_
                  refine lv_iload_n X.1.1 X.1.2.1 dX5_measure_116 rfl (lv_at hl 0 rfl) ?_
                  obtain ⟨v20, u21, hf, h⟩ := xbd_of h
                  refine x_callVi0 X hG hS (c_X2_nodeX l t _ _ _ _ _ hf) (cwV 1 X.1.2.2.2.2 gX5_measure_X2_nodeX rfl rfl rfl hd_X2_nodeX ⟨Nat.le_of_ble_eq_true rfl, Nat.le_of_ble_eq_true rfl⟩) (fx_9_0 g1).1 (fx_9_0 g1).2 rfl (by decide) (by rfl) hl.1 (Nat.le_of_ble_eq_true rfl) dX5_measure_117 ⟨by decide, by decide⟩ rfl (fun H locs hG hS => ?_)
                  refine lv_aload_n X.1.1 X.1.2.1 dX5_measure_120 rfl (lv_at hl 1 rfl) ?_
                  refine x_getr X hG 9 11 k0 5 (inC := iX5) rfl g1.1 g1.2 ⟨by decide, by decide, by decide, rfl, by decide, by decide⟩ w3 dX5_measure_121 ?_
                  refine lv_iload_n X.1.1 X.1.2.1 dX5_measure_124 rfl (lv_at hl 2 rfl) ?_
                  obtain ⟨g22, h⟩ := xgd_of h
                  refine x_iald X hG (fx_9_11 g1).1 (fx_9_11 g1).2.1 (n := 8) (fx_9_11 g1).2.2 g22 (by decide) dX5_measure_125 ?_
                  refine x_isub X dX5_measure_126 ?_
                  refine lv_aload_n X.1.1 X.1.2.1 dX5_measure_127 rfl (lv_at hl 1 rfl) ?_
                  refine x_getr X hG 9 0 k0 1 (inC := iX5) rfl g1.1 g1.2 ⟨by decide, by decide, by decide, rfl, by decide, by decide⟩ w5 dX5_measure_128 ?_
                  refine lv_iload_n X.1.1 X.1.2.1 dX5_measure_131 rfl (lv_at hl 0 rfl) ?_
                  obtain ⟨v23, u24, hf, h⟩ := xbd_of h
                  refine x_callVi0 X hG hS (c_X2_nodeY l t _ _ _ _ _ hf) (cwV 1 X.1.2.2.2.2 gX5_measure_X2_nodeY rfl rfl rfl hd_X2_nodeY ⟨Nat.le_of_ble_eq_true rfl, Nat.le_of_ble_eq_true rfl⟩) (fx_9_0 g1).1 (fx_9_0 g1).2 rfl (by decide) (by rfl) hl.1 (Nat.le_of_ble_eq_true rfl) dX5_measure_132 ⟨by decide, by decide⟩ rfl (fun H locs hG hS => ?_)
                  refine lv_aload_n X.1.1 X.1.2.1 dX5_measure_135 rfl (lv_at hl 1 rfl) ?_
                  refine x_getr X hG 9 12 k0 6 (inC := iX5) rfl g1.1 g1.2 ⟨by decide, by decide, by decide, rfl, by decide, by decide⟩ w4 dX5_measure_136 ?_
                  refine lv_iload_n X.1.1 X.1.2.1 dX5_measure_139 rfl (lv_at hl 2 rfl) ?_
                  obtain ⟨g25, h⟩ := xgd_of h
                  refine x_iald X hG (fx_9_12 g1).1 (fx_9_12 g1).2.1 (n := 8) (fx_9_12 g1).2.2 g25 (by decide) dX5_measure_140 ?_
                  refine x_isub X dX5_measure_141 ?_
                  obtain ⟨v26, u27, hf, h⟩ := xbd_of h
                  refine x_callNi0 X hG hS (c_X9_distance l t _ _ _ _ _ hf) ⟨va_cnB 2 X.1.2.2.2.2 gX5_measure_X9_distance_n76 rfl rfl rfl (X.2.2.1.1 (RX5, 76, yX9_distance, "TriggerNetwork") (x_m 0 rfl)) (X.1.2.2.2.2 _ w8) hds_X9_distance ⟨Nat.le_of_ble_eq_true rfl, Nat.le_of_ble_eq_true rfl⟩, X.1.2.2.2.2 _ w7, trivial⟩ (by rfl) hl.1 (Nat.le_of_ble_eq_true rfl) dX5_measure_142 ⟨by decide, by decide⟩ rfl (fun H locs hG hS => ?_)
                  obtain ⟨g28, h⟩ := xgd_of h
                  refine x_iast X hG hS (fx_9_14 g1).1 (fx_9_14 g1).2.1 (n := 1152) (fx_9_14 g1).2.2 g28 (by decide) dX5_measure_145 (fun H locs hG hS => ?_)
                  obtain ⟨u29, eu29, h⟩ := xlet_of h
                  replace hG : G t u29 H := by rw [eu29]; exact hG
                  refine lv_iinc (v := (iI (x2_12 + 1))) (lv' := [(2, .int (iI (x2_12 + 1))), (0, .ref (t.2.2.1 k0)), (1, .int (iI x1_3))]) X.1.1 X.1.2.1 dX5_measure_146 hl (k := 0) rfl (iI_add _ _) (by decide) rfl (fun ls hl => ?_)
                  refine lv_goto (tgt := 84) X.1.1 X.1.2.1 dX5_measure_149 (by decide) ?_
                  exact igo11 _ _ _ h rfl _ _ _ hG hS (lv_sub hl [0, 1, 2] rfl)
            exact Lgo11 FU _ _ h _ _ _ hG hS (lv_sub hl [0, 1, 2] rfl)
        have Lgo30 : ∀ (n : Nat) (x2_31 : Int) (u32 : uS), xl2 (s_X5_measure_18 k0 j9 x1_3) n x2_31 u32 = some (r, u') → xG p l e rX5_measure s m args below meth c t Q 3 0 0 18 u32 [(2, .int (iI x2_31)), (0, .ref (t.2.2.1 k0)), (1, .int (iI x1_3))] [] := by
          intro n x2_31 u32 h
          refine xl2_W (F := s_X5_measure_18 k0 j9 x1_3) (fun x2_31 u32 q => q = (r, u') → xG p l e rX5_measure s m args below meth c t Q 3 0 0 18 u32 [(2, .int (iI x2_31)), (0, .ref (t.2.2.1 k0)), (1, .int (iI x1_3))] []) ?_ n x2_31 u32 _ h rfl
          intro go30 igo30 x2_31 u32 q h hq H locs ls hG hS hl
          subst hq
          unfold s_X5_measure_18 at h
          refine lv_iload_n X.1.1 X.1.2.1 dX5_measure_18 rfl (lv_at hl 0 rfl) ?_
          refine lv_aload_n X.1.1 X.1.2.1 dX5_measure_19 rfl (lv_at hl 1 rfl) ?_
          refine x_geti X hG 9 10 k0 10 (inC := iX5) rfl g1.1 g1.2 ⟨by decide, by decide, by decide, rfl, rfl⟩ w1 dX5_measure_20 ?_
          obtain ⟨g33, h⟩ := xgd_of h
          refine x_icmp_ge (tgt := 82) X g33.1 g33.2 dX5_measure_23 (by decide) (fun c34 => ?_) (fun c34 => ?_)
          · replace h := xif_t h c34
            exact Jj9 _ h _ _ _ hG hS (lv_sub hl [1, 2] rfl)
          · replace h := xif_f h c34
            refine lv_iload_n X.1.1 X.1.2.1 dX5_measure_26 rfl (lv_at hl 0 rfl) ?_
            refine x_bipush X dX5_measure_27 (by decide) ?_
            obtain ⟨g35, h⟩ := xgd_of h
            refine x_icmp_ge (tgt := 82) X g35 ⟨by decide, by decide⟩ dX5_measure_29 (by decide) (fun c36 => ?_) (fun c36 => ?_)
            · replace h := xif_t h c36
              exact Jj9 _ h _ _ _ hG hS (lv_sub hl [1, 2] rfl)
            · replace h := xif_f h c36
              refine lv_aload_n X.1.1 X.1.2.1 dX5_measure_32 rfl (lv_at hl 1 rfl) ?_
              refine x_getr X hG 9 13 k0 7 (inC := iX5) rfl g1.1 g1.2 ⟨by decide, by decide, by decide, rfl, by decide, by decide⟩ w2 dX5_measure_33 ?_
              refine lv_iload_n X.1.1 X.1.2.1 dX5_measure_36 rfl (lv_at hl 0 rfl) ?_
              refine x_bipush X dX5_measure_37 (by decide) ?_
              refine x_imul X dX5_measure_39 ?_
              refine lv_iload_n X.1.1 X.1.2.1 dX5_measure_40 rfl (lv_at hl 2 rfl) ?_
              refine x_iadd X dX5_measure_41 ?_
              refine lv_aload_n X.1.1 X.1.2.1 dX5_measure_42 rfl (lv_at hl 1 rfl) ?_
              refine lv_aload_n X.1.1 X.1.2.1 dX5_measure_43 rfl (lv_at hl 1 rfl) ?_
              refine x_getr X hG 9 11 k0 5 (inC := iX5) rfl g1.1 g1.2 ⟨by decide, by decide, by decide, rfl, by decide, by decide⟩ w3 dX5_measure_44 ?_
              refine lv_iload_n X.1.1 X.1.2.1 dX5_measure_47 rfl (lv_at hl 0 rfl) ?_
              obtain ⟨g37, h⟩ := xgd_of h
              refine x_iald X hG (fx_9_11 g1).1 (fx_9_11 g1).2.1 (n := 8) (fx_9_11 g1).2.2 g37 (by decide) dX5_measure_48 ?_
              refine lv_aload_n X.1.1 X.1.2.1 dX5_measure_49 rfl (lv_at hl 1 rfl) ?_
              refine x_getr X hG 9 11 k0 5 (inC := iX5) rfl g1.1 g1.2 ⟨by decide, by decide, by decide, rfl, by decide, by decide⟩ w3 dX5_measure_50 ?_
              refine lv_iload_n X.1.1 X.1.2.1 dX5_measure_53 rfl (lv_at hl 2 rfl) ?_
              obtain ⟨g38, h⟩ := xgd_of h
              refine x_iald X hG (fx_9_11 g1).1 (fx_9_11 g1).2.1 (n := 8) (fx_9_11 g1).2.2 g38 (by decide) dX5_measure_54 ?_
              refine x_isub X dX5_measure_55 ?_
              refine lv_aload_n X.1.1 X.1.2.1 dX5_measure_56 rfl (lv_at hl 1 rfl) ?_
              refine x_getr X hG 9 12 k0 6 (inC := iX5) rfl g1.1 g1.2 ⟨by decide, by decide, by decide, rfl, by decide, by decide⟩ w4 dX5_measure_57 ?_
              refine lv_iload_n X.1.1 X.1.2.1 dX5_measure_60 rfl (lv_at hl 0 rfl) ?_
              obtain ⟨g39, h⟩ := xgd_of h
              refine x_iald X hG (fx_9_12 g1).1 (fx_9_12 g1).2.1 (n := 8) (fx_9_12 g1).2.2 g39 (by decide) dX5_measure_61 ?_
              refine lv_aload_n X.1.1 X.1.2.1 dX5_measure_62 rfl (lv_at hl 1 rfl) ?_
              refine x_getr X hG 9 12 k0 6 (inC := iX5) rfl g1.1 g1.2 ⟨by decide, by decide, by decide, rfl, by decide, by decide⟩ w4 dX5_measure_63 ?_
              refine lv_iload_n X.1.1 X.1.2.1 dX5_measure_66 rfl (lv_at hl 2 rfl) ?_
              obtain ⟨g40, h⟩ := xgd_of h
              refine x_iald X hG (fx_9_12 g1).1 (fx_9_12 g1).2.1 (n := 8) (fx_9_12 g1).2.2 g40 (by decide) dX5_measure_67 ?_
              refine x_isub X dX5_measure_68 ?_
              obtain ⟨v41, u42, hf, h⟩ := xbd_of h
              refine x_callNi0 X hG hS (c_X9_distance l t _ _ _ _ _ hf) ⟨va_cnB 2 X.1.2.2.2.2 gX5_measure_X9_distance_n76 rfl rfl rfl (X.2.2.1.1 (RX5, 76, yX9_distance, "TriggerNetwork") (x_m 0 rfl)) (X.1.2.2.2.2 _ w8) hds_X9_distance ⟨Nat.le_of_ble_eq_true rfl, Nat.le_of_ble_eq_true rfl⟩, X.1.2.2.2.2 _ w7, trivial⟩ (by rfl) hl.1 (Nat.le_of_ble_eq_true rfl) dX5_measure_69 ⟨by decide, by decide⟩ rfl (fun H locs hG hS => ?_)
              obtain ⟨v43, u44, hf, h⟩ := xbd_of h
              refine x_callVi0 X hG hS (c_X5_travelOver l t _ _ _ _ _ hf) (cwV 1 X.1.2.2.2.2 gX5_measure_X5_travelOver rfl rfl rfl hd_X5_travelOver ⟨Nat.le_of_ble_eq_true rfl, Nat.le_of_ble_eq_true rfl⟩) g1.1 g1.2 rfl (by decide) (by rfl) hl.1 (Nat.le_of_ble_eq_true rfl) dX5_measure_72 ⟨by decide, by decide⟩ rfl (fun H locs hG hS => ?_)
              obtain ⟨g45, h⟩ := xgd_of h
              refine x_iast X hG hS (fx_9_13 g1).1 (fx_9_13 g1).2.1 (n := 64) (fx_9_13 g1).2.2 g45 (by decide) dX5_measure_75 (fun H locs hG hS => ?_)
              obtain ⟨u46, eu46, h⟩ := xlet_of h
              replace hG : G t u46 H := by rw [eu46]; exact hG
              refine lv_iinc (v := (iI (x2_31 + 1))) (lv' := [(2, .int (iI (x2_31 + 1))), (0, .ref (t.2.2.1 k0)), (1, .int (iI x1_3))]) X.1.1 X.1.2.1 dX5_measure_76 hl (k := 0) rfl (iI_add _ _) (by decide) rfl (fun ls hl => ?_)
              refine lv_goto (tgt := 18) X.1.1 X.1.2.1 dX5_measure_79 (by decide) ?_
              exact igo30 _ _ _ h rfl _ _ _ hG hS (lv_sub hl [0, 1, 2] rfl)
        exact Lgo30 FU _ _ h _ _ _ hG hS (lv_sub hl [0, 2, 1] rfl)
  exact Lgo2 FU _ _ h _ _ _ hG hS (lv_sub hl [0, 1] rfl)
theorem hd_X5_measure : yX5_measure.cls = RX5 ∧ yX5_measure.cls ≠ "java/lang/invoke/MethodHandle" ∧ yX5_measure.cls ≠ "java/lang/invoke/VarHandle" ∧ (parseMethodDescriptor yX5_measure.desc).map (fun d => d.parameters.length) = some 0 := by decide +kernel
abbrev rX5_reset : Room := { frames := 1, cells := 0, slots := 0, locals := 25 }
set_option maxRecDepth 100000 in
set_option maxHeartbeats 8000000 in
theorem c_X5_reset (l : Launch) (t : gP) (k0 : Nat) (u : uS) (r : Int) (u' : uS) (h : f_X5_reset k0 u = some (r, u')) : xMv l yX5_reset wsX5_reset rX5_reset t [.ref (t.2.2.1 k0)] u u' 0 0 := by
  refine x_ofWv (cc := cX5_reset) (maxL := 1) (own := RX5) (by decide) rfl rfl (Nat.le_of_ble_eq_true rfl) ?_
  intro p e s m args below meth c Q X hret H locs ls hG hS hl
  replace hl : lv_has ls 1 [(0, .ref (t.2.2.1 k0))] := hl
  have iX5 : ∀ w ∈ wsX50, w ∈ wsX5_reset := by decide +kernel
  have w1 : Cond.fieldLink RX5 12 "TriggerNetwork$Network" "grid" "LTriggerNetwork$Grid;" ∈ wsX5_reset := x_w 1 rfl
  have w2 : Cond.fieldLink RX5 21 "TriggerNetwork$Network" "rungs" "LTriggerNetwork$Rungs;" ∈ wsX5_reset := x_w 2 rfl
  have iX6 : ∀ w ∈ wsX60, w ∈ wsX5_reset := by decide +kernel
  have w3 : Cond.fieldLink RX5 45 "TriggerNetwork$Rungs" "count" "I" ∈ wsX5_reset := x_w 3 rfl
  have w4 : Cond.fieldLink RX5 49 "TriggerNetwork$Network" "tenths" "I" ∈ wsX5_reset := x_w 4 rfl
  have w5 : Cond.fieldLink RX5 52 "TriggerNetwork$Network" "shortSpan" "I" ∈ wsX5_reset := x_w 5 rfl
  have w6 : Cond.fieldLink RX5 55 "TriggerNetwork$Network" "longSpan" "I" ∈ wsX5_reset := x_w 6 rfl
  have w7 : Cond.fieldLink RX5 58 "TriggerNetwork$Network" "on" "I" ∈ wsX5_reset := x_w 7 rfl
  have w8 : Cond.fieldLink RX5 61 "TriggerNetwork$Network" "off" "I" ∈ wsX5_reset := x_w 8 rfl
  have w9 : Cond.fieldLink RX5 64 "TriggerNetwork$Network" "votes" "I" ∈ wsX5_reset := x_w 9 rfl
  have w10 : Cond.fieldLink RX5 67 "TriggerNetwork$Network" "slack" "I" ∈ wsX5_reset := x_w 10 rfl
  have w11 : Cond.fieldLink RX5 70 "TriggerNetwork$Network" "decay" "I" ∈ wsX5_reset := x_w 11 rfl
  have w12 : Cond.fieldLink RX5 73 "TriggerNetwork$Network" "stationCount" "I" ∈ wsX5_reset := x_w 12 rfl
  unfold f_X5_reset at h
  obtain ⟨g1, h⟩ := xgd_of h
  refine lv_aload_n X.1.1 X.1.2.1 dX5_reset_0 rfl (lv_at hl 0 rfl) ?_
  refine x_getr X hG 9 0 k0 1 (inC := iX5) rfl g1.1 g1.2 ⟨by decide, by decide, by decide, rfl, by decide, by decide⟩ w1 dX5_reset_1 ?_
  refine x_iconst X dX5_reset_4 ?_
  refine x_iconst X dX5_reset_5 ?_
  refine x_iconst X dX5_reset_6 ?_
  refine x_iconst X dX5_reset_7 ?_
  refine x_bipush X dX5_reset_8 (by decide) ?_
  obtain ⟨v2, u3, hf, h⟩ := xbd_of h
  refine x_callVv0 X hG hS (c_X2_place l t _ _ _ _ _ _ _ _ _ hf) (cwV 5 X.1.2.2.2.2 gX5_reset_X2_place rfl rfl rfl hd_X2_place ⟨Nat.le_of_ble_eq_true rfl, Nat.le_of_ble_eq_true rfl⟩) (fx_9_0 g1).1 (fx_9_0 g1).2 rfl (by decide) (by rfl) hl.1 (Nat.le_of_ble_eq_true rfl) dX5_reset_10 ⟨by decide, by decide⟩ rfl (fun H locs hG hS => ?_)
  refine lv_aload_n X.1.1 X.1.2.1 dX5_reset_13 rfl (lv_at hl 0 rfl) ?_
  refine x_getr X hG 9 1 k0 2 (inC := iX5) rfl g1.1 g1.2 ⟨by decide, by decide, by decide, rfl, by decide, by decide⟩ w2 dX5_reset_14 ?_
  refine x_iconst X dX5_reset_17 ?_
  refine x_puti X hG hS 10 0 (k0 + 2) 0 _ tyX6 tyX6_ok nmX6 (inC := iX6) rfl (fx_9_1 g1).1 (fx_9_1 g1).2 ⟨by decide, by decide, by decide, rfl, rfl⟩ rfl (by decide +kernel) w3 dX5_reset_18 (fun H locs hG hS => ?_)
  obtain ⟨u4, eu4, h⟩ := xlet_of h
  replace hG : G t u4 H := by rw [eu4]; exact hG
  refine lv_aload_n X.1.1 X.1.2.1 dX5_reset_21 rfl (lv_at hl 0 rfl) ?_
  refine x_bipush X dX5_reset_22 (by decide) ?_
  refine x_puti X hG hS 9 2 k0 2 _ tyX5 tyX5_ok nmX5 (inC := iX5) rfl g1.1 g1.2 ⟨by decide, by decide, by decide, rfl, rfl⟩ rfl (by decide +kernel) w4 dX5_reset_24 (fun H locs hG hS => ?_)
  obtain ⟨u5, eu5, h⟩ := xlet_of h
  replace hG : G t u5 H := by rw [eu5]; exact hG
  refine lv_aload_n X.1.1 X.1.2.1 dX5_reset_27 rfl (lv_at hl 0 rfl) ?_
  refine x_iconst X dX5_reset_28 ?_
  refine x_puti X hG hS 9 3 k0 3 _ tyX5 tyX5_ok nmX5 (inC := iX5) rfl g1.1 g1.2 ⟨by decide, by decide, by decide, rfl, rfl⟩ rfl (by decide +kernel) w5 dX5_reset_29 (fun H locs hG hS => ?_)
  obtain ⟨u6, eu6, h⟩ := xlet_of h
  replace hG : G t u6 H := by rw [eu6]; exact hG
  refine lv_aload_n X.1.1 X.1.2.1 dX5_reset_32 rfl (lv_at hl 0 rfl) ?_
  refine x_bipush X dX5_reset_33 (by decide) ?_
  refine x_puti X hG hS 9 4 k0 4 _ tyX5 tyX5_ok nmX5 (inC := iX5) rfl g1.1 g1.2 ⟨by decide, by decide, by decide, rfl, rfl⟩ rfl (by decide +kernel) w6 dX5_reset_35 (fun H locs hG hS => ?_)
  obtain ⟨u7, eu7, h⟩ := xlet_of h
  replace hG : G t u7 H := by rw [eu7]; exact hG
  refine lv_aload_n X.1.1 X.1.2.1 dX5_reset_38 rfl (lv_at hl 0 rfl) ?_
  refine x_sipush X dX5_reset_39 (by decide) ?_
  refine x_puti X hG hS 9 5 k0 5 _ tyX5 tyX5_ok nmX5 (inC := iX5) rfl g1.1 g1.2 ⟨by decide, by decide, by decide, rfl, rfl⟩ rfl (by decide +kernel) w7 dX5_reset_42 (fun H locs hG hS => ?_)
  obtain ⟨u8, eu8, h⟩ := xlet_of h
  replace hG : G t u8 H := by rw [eu8]; exact hG
  refine lv_aload_n X.1.1 X.1.2.1 dX5_reset_45 rfl (lv_at hl 0 rfl) ?_
  refine x_sipush X dX5_reset_46 (by decide) ?_
  refine x_puti X hG hS 9 6 k0 6 _ tyX5 tyX5_ok nmX5 (inC := iX5) rfl g1.1 g1.2 ⟨by decide, by decide, by decide, rfl, rfl⟩ rfl (by decide +kernel) w8 dX5_reset_49 (fun H locs hG hS => ?_)
  obtain ⟨u9, eu9, h⟩ := xlet_of h
  replace hG : G t u9 H := by rw [eu9]; exact hG
  refine lv_aload_n X.1.1 X.1.2.1 dX5_reset_52 rfl (lv_at hl 0 rfl) ?_
  refine x_iconst X dX5_reset_53 ?_
  refine x_puti X hG hS 9 7 k0 7 _ tyX5 tyX5_ok nmX5 (inC := iX5) rfl g1.1 g1.2 ⟨by decide, by decide, by decide, rfl, rfl⟩ rfl (by decide +kernel) w9 dX5_reset_54 (fun H locs hG hS => ?_)
  obtain ⟨u10, eu10, h⟩ := xlet_of h
  replace hG : G t u10 H := by rw [eu10]; exact hG
  refine lv_aload_n X.1.1 X.1.2.1 dX5_reset_57 rfl (lv_at hl 0 rfl) ?_
  refine x_iconst X dX5_reset_58 ?_
  refine x_puti X hG hS 9 8 k0 8 _ tyX5 tyX5_ok nmX5 (inC := iX5) rfl g1.1 g1.2 ⟨by decide, by decide, by decide, rfl, rfl⟩ rfl (by decide +kernel) w10 dX5_reset_59 (fun H locs hG hS => ?_)
  obtain ⟨u11, eu11, h⟩ := xlet_of h
  replace hG : G t u11 H := by rw [eu11]; exact hG
  refine lv_aload_n X.1.1 X.1.2.1 dX5_reset_62 rfl (lv_at hl 0 rfl) ?_
  refine x_iconst X dX5_reset_63 ?_
  refine x_puti X hG hS 9 9 k0 9 _ tyX5 tyX5_ok nmX5 (inC := iX5) rfl g1.1 g1.2 ⟨by decide, by decide, by decide, rfl, rfl⟩ rfl (by decide +kernel) w11 dX5_reset_64 (fun H locs hG hS => ?_)
  obtain ⟨u12, eu12, h⟩ := xlet_of h
  replace hG : G t u12 H := by rw [eu12]; exact hG
  refine lv_aload_n X.1.1 X.1.2.1 dX5_reset_67 rfl (lv_at hl 0 rfl) ?_
  refine x_iconst X dX5_reset_68 ?_
  refine x_puti X hG hS 9 10 k0 10 _ tyX5 tyX5_ok nmX5 (inC := iX5) rfl g1.1 g1.2 ⟨by decide, by decide, by decide, rfl, rfl⟩ rfl (by decide +kernel) w12 dX5_reset_69 (fun H locs hG hS => ?_)
  obtain ⟨u13, eu13, h⟩ := xlet_of h
  replace hG : G t u13 H := by rw [eu13]; exact hG
  cases h
  exact hret _ _ _ _ dX5_reset_72 hG hS
theorem hd_X5_reset : yX5_reset.cls = RX5 ∧ yX5_reset.cls ≠ "java/lang/invoke/MethodHandle" ∧ yX5_reset.cls ≠ "java/lang/invoke/VarHandle" ∧ (parseMethodDescriptor yX5_reset.desc).map (fun d => d.parameters.length) = some 0 := by decide +kernel
abbrev rX8_extend : Room := { frames := 0, cells := 0, slots := 0, locals := 0 }
set_option maxRecDepth 100000 in
set_option maxHeartbeats 8000000 in
theorem c_X8_extend (l : Launch) (t : gP) (x1 : Int) (u : uS) (r : Int) (u' : uS) (h : f_X8_extend x1 u = some (r, u')) : xMv l yX8_extend wsX8_extend rX8_extend t [.ref (t.2.2.1 3), .int (iI x1)] u u' 0 0 := by
  refine x_ofWv (cc := cX8_extend) (maxL := 3) (own := RX8) (by decide) rfl rfl (Nat.le_of_ble_eq_true rfl) ?_
  intro p e s m args below meth c Q X hret H locs ls hG hS hl
  replace hl : lv_has ls 3 [(0, .ref (t.2.2.1 3)), (1, .int (iI x1))] := hl
  have q3 : 3 < NN ∧ sT 3 = 12 := by decide
  have iX8 : ∀ w ∈ wsX80, w ∈ wsX8_extend := by decide +kernel
  have w1 : Cond.fieldLink RX8 24 "TriggerNetwork$Tokens" "count" "I" ∈ wsX8_extend := x_w 1 rfl
  have w2 : Cond.fieldLink RX8 18 "TriggerNetwork$Tokens" "lengths" "[I" ∈ wsX8_extend := x_w 2 rfl
  have q6 : 6 < NN ∧ sT 6 = 100 ∧ sN 6 = 500 := by decide
  have w3 : Cond.fieldLink RX8 21 "TriggerNetwork$Tokens" "values" "[I" ∈ wsX8_extend := x_w 3 rfl
  have q7 : 7 < NN ∧ sT 7 = 100 ∧ sN 7 = 500 := by decide
  unfold f_X8_extend at h
  refine lv_aload_n X.1.1 X.1.2.1 dX8_extend_0 rfl (lv_at hl 0 rfl) ?_
  refine x_geti X hG 12 0 3 0 (inC := iX8) rfl q3.1 q3.2 ⟨by decide, by decide, by decide, rfl, rfl⟩ w1 dX8_extend_1 ?_
  refine x_iconst X dX8_extend_4 ?_
  refine x_isub X dX8_extend_5 ?_
  refine x_name (fun x2_1 ex2_1 => ?_)
  replace h := xlet_at ex2_1 h
  refine lv_istore_n (lv' := [(2, .int (iI x2_1)), (0, .ref (t.2.2.1 3)), (1, .int (iI x1))]) X.1.1 X.1.2.1 dX8_extend_6 rfl hl (by decide) rfl (fun ls hl => ?_)
  refine lv_iload_n X.1.1 X.1.2.1 dX8_extend_7 rfl (lv_at hl 0 rfl) ?_
  obtain ⟨g2, h⟩ := xgd_of h
  refine x_if_lt (tgt := 48) X g2 dX8_extend_8 (by decide) (fun c3 => ?_) (fun c3 => ?_)
  · replace h := xif_t h c3
    cases h
    exact hret _ _ _ _ dX8_extend_48 hG hS
  · replace h := xif_f h c3
    refine lv_iload_n X.1.1 X.1.2.1 dX8_extend_11 rfl (lv_at hl 0 rfl) ?_
    refine x_sipush X dX8_extend_12 (by decide) ?_
    obtain ⟨g4, h⟩ := xgd_of h
    refine x_icmp_ge (tgt := 48) X g4 ⟨by decide, by decide⟩ dX8_extend_15 (by decide) (fun c5 => ?_) (fun c5 => ?_)
    · replace h := xif_t h c5
      cases h
      exact hret _ _ _ _ dX8_extend_48 hG hS
    · replace h := xif_f h c5
      refine lv_aload_n X.1.1 X.1.2.1 dX8_extend_18 rfl (lv_at hl 1 rfl) ?_
      refine x_getr X hG 12 3 3 3 (inC := iX8) rfl q3.1 q3.2 ⟨by decide, by decide, by decide, rfl, by decide, by decide⟩ w2 dX8_extend_19 ?_
      refine lv_iload_n X.1.1 X.1.2.1 dX8_extend_22 rfl (lv_at hl 0 rfl) ?_
      refine lv_dup2_11 X.1.1 X.1.2.1 dX8_extend_23 rfl rfl ?_
      obtain ⟨g6, h⟩ := xgd_of h
      refine x_iald X hG q6.1 q6.2.1 (n := 500) q6.2.2 g6 (by decide) dX8_extend_24 ?_
      refine x_iconst X dX8_extend_25 ?_
      refine x_iadd X dX8_extend_26 ?_
      obtain ⟨g7, h⟩ := xgd_of h
      refine x_iast X hG hS q6.1 q6.2.1 (n := 500) q6.2.2 g7 (by decide) dX8_extend_27 (fun H locs hG hS => ?_)
      obtain ⟨u8, eu8, h⟩ := xlet_of h
      replace hG : G t u8 H := by rw [eu8]; exact hG
      refine lv_aload_n X.1.1 X.1.2.1 dX8_extend_28 rfl (lv_at hl 1 rfl) ?_
      refine x_getr X hG 12 4 3 4 (inC := iX8) rfl q3.1 q3.2 ⟨by decide, by decide, by decide, rfl, by decide, by decide⟩ w3 dX8_extend_29 ?_
      refine lv_iload_n X.1.1 X.1.2.1 dX8_extend_32 rfl (lv_at hl 0 rfl) ?_
      refine lv_aload_n X.1.1 X.1.2.1 dX8_extend_33 rfl (lv_at hl 1 rfl) ?_
      refine x_getr X hG 12 4 3 4 (inC := iX8) rfl q3.1 q3.2 ⟨by decide, by decide, by decide, rfl, by decide, by decide⟩ w3 dX8_extend_34 ?_
      refine lv_iload_n X.1.1 X.1.2.1 dX8_extend_37 rfl (lv_at hl 0 rfl) ?_
      obtain ⟨g9, h⟩ := xgd_of h
      refine x_iald X hG q7.1 q7.2.1 (n := 500) q7.2.2 g9 (by decide) dX8_extend_38 ?_
      refine x_bipush X dX8_extend_39 (by decide) ?_
      refine x_imul X dX8_extend_41 ?_
      refine lv_iload_n X.1.1 X.1.2.1 dX8_extend_42 rfl (lv_at hl 2 rfl) ?_
      refine x_iadd X dX8_extend_43 ?_
      refine x_bipush X dX8_extend_44 (by decide) ?_
      refine x_isub X dX8_extend_46 ?_
      obtain ⟨g10, h⟩ := xgd_of h
      refine x_iast X hG hS q7.1 q7.2.1 (n := 500) q7.2.2 g10 (by decide) dX8_extend_47 (fun H locs hG hS => ?_)
      obtain ⟨u11, eu11, h⟩ := xlet_of h
      replace hG : G t u11 H := by rw [eu11]; exact hG
      cases h
      exact hret _ _ _ _ dX8_extend_48 hG hS
theorem hd_X8_extend : yX8_extend.cls = RX8 ∧ yX8_extend.cls ≠ "java/lang/invoke/MethodHandle" ∧ yX8_extend.cls ≠ "java/lang/invoke/VarHandle" ∧ (parseMethodDescriptor yX8_extend.desc).map (fun d => d.parameters.length) = some 1 := by decide +kernel
abbrev rX8_kindOf : Room := { frames := 0, cells := 0, slots := 0, locals := 0 }
set_option maxRecDepth 100000 in
set_option maxHeartbeats 8000000 in
theorem c_X8_kindOf (l : Launch) (t : gP) (x0 : Int) (u : uS) (r : Int) (u' : uS) (h : f_X8_kindOf x0 u = some (r, u')) : xMi l yX8_kindOf wsX8_kindOf rX8_kindOf t [.int (iI x0)] u r u' 0 0 := by
  refine x_ofWi (cc := cX8_kindOf) (maxL := 1) (ret := .int) (own := RX8) (by decide) rfl rfl (Nat.le_of_ble_eq_true rfl) ?_
  intro p e s m args below meth c Q X hret H locs ls hG hS hl
  replace hl : lv_has ls 1 [(0, .int (iI x0))] := hl
  unfold f_X8_kindOf at h
  refine lv_iload_n X.1.1 X.1.2.1 dX8_kindOf_0 rfl (lv_at hl 0 rfl) ?_
  refine x_bipush X dX8_kindOf_1 (by decide) ?_
  obtain ⟨g1, h⟩ := xgd_of h
  refine x_icmp_eq (tgt := 12) X g1 ⟨by decide, by decide⟩ dX8_kindOf_3 (by decide) (fun c2 => ?_) (fun c2 => ?_)
  · replace h := xif_t h c2
    refine x_iconst X dX8_kindOf_12 ?_
    cases h
    exact hret _ _ _ _ dX8_kindOf_13 rfl hG hS
  · replace h := xif_f h c2
    refine lv_iload_n X.1.1 X.1.2.1 dX8_kindOf_6 rfl (lv_at hl 0 rfl) ?_
    refine x_bipush X dX8_kindOf_7 (by decide) ?_
    obtain ⟨g3, h⟩ := xgd_of h
    refine x_icmp_ne (tgt := 14) X g3 ⟨by decide, by decide⟩ dX8_kindOf_9 (by decide) (fun c4 => ?_) (fun c4 => ?_)
    · replace h := xif_f h c4
      refine lv_iload_n X.1.1 X.1.2.1 dX8_kindOf_14 rfl (lv_at hl 0 rfl) ?_
      refine x_bipush X dX8_kindOf_15 (by decide) ?_
      obtain ⟨g5, h⟩ := xgd_of h
      obtain ⟨j6, ej6, h⟩ := xlet_of h
      have Jj6 : ∀ (u7 : uS), j6 u7 = some (r, u') → xG p l e rX8_kindOf s m args below meth c t Q 1 0 0 28 u7 [(0, .int (iI x0))] [] := by
          intro u7 h H locs ls hG hS hl
          replace h := (congrFun ej6 u7).symm.trans h
          refine lv_iload_n X.1.1 X.1.2.1 dX8_kindOf_28 rfl (lv_at hl 0 rfl) ?_
          refine x_bipush X dX8_kindOf_29 (by decide) ?_
          obtain ⟨g8, h⟩ := xgd_of h
          obtain ⟨j9, ej9, h⟩ := xlet_of h
          have Jj9 : ∀ (u10 : uS), j9 u10 = some (r, u') → xG p l e rX8_kindOf s m args below meth c t Q 1 0 0 42 u10 [(0, .int (iI x0))] [] := by
              intro u10 h H locs ls hG hS hl
              replace h := (congrFun ej9 u10).symm.trans h
              refine lv_iload_n X.1.1 X.1.2.1 dX8_kindOf_42 rfl (lv_at hl 0 rfl) ?_
              refine x_bipush X dX8_kindOf_43 (by decide) ?_
              obtain ⟨g11, h⟩ := xgd_of h
              refine x_icmp_ne (tgt := 52) X g11 ⟨by decide, by decide⟩ dX8_kindOf_45 (by decide) (fun c12 => ?_) (fun c12 => ?_)
              · replace h := xif_f h c12
                refine x_iconst X dX8_kindOf_52 ?_
                cases h
                exact hret _ _ _ _ dX8_kindOf_53 rfl hG hS
              · replace h := xif_t h c12
                refine x_iconst X dX8_kindOf_48 ?_
                refine lv_goto (tgt := 53) X.1.1 X.1.2.1 dX8_kindOf_49 (by decide) ?_
                cases h
                exact hret _ _ _ _ dX8_kindOf_53 rfl hG hS
          refine x_icmp_lt (tgt := 42) X g8 ⟨by decide, by decide⟩ dX8_kindOf_31 (by decide) (fun c13 => ?_) (fun c13 => ?_)
          · replace h := xif_t h c13
            exact Jj9 _ h _ _ _ hG hS (lv_sub hl [0] rfl)
          · replace h := xif_f h c13
            refine lv_iload_n X.1.1 X.1.2.1 dX8_kindOf_34 rfl (lv_at hl 0 rfl) ?_
            refine x_bipush X dX8_kindOf_35 (by decide) ?_
            obtain ⟨g14, h⟩ := xgd_of h
            refine x_icmp_gt (tgt := 42) X g14 ⟨by decide, by decide⟩ dX8_kindOf_37 (by decide) (fun c15 => ?_) (fun c15 => ?_)
            · replace h := xif_t h c15
              exact Jj9 _ h _ _ _ hG hS (lv_sub hl [0] rfl)
            · replace h := xif_f h c15
              refine x_iconst X dX8_kindOf_40 ?_
              cases h
              exact hret _ _ _ _ dX8_kindOf_41 rfl hG hS
      refine x_icmp_lt (tgt := 28) X g5 ⟨by decide, by decide⟩ dX8_kindOf_17 (by decide) (fun c16 => ?_) (fun c16 => ?_)
      · replace h := xif_t h c16
        exact Jj6 _ h _ _ _ hG hS (lv_sub hl [0] rfl)
      · replace h := xif_f h c16
        refine lv_iload_n X.1.1 X.1.2.1 dX8_kindOf_20 rfl (lv_at hl 0 rfl) ?_
        refine x_bipush X dX8_kindOf_21 (by decide) ?_
        obtain ⟨g17, h⟩ := xgd_of h
        refine x_icmp_gt (tgt := 28) X g17 ⟨by decide, by decide⟩ dX8_kindOf_23 (by decide) (fun c18 => ?_) (fun c18 => ?_)
        · replace h := xif_t h c18
          exact Jj6 _ h _ _ _ hG hS (lv_sub hl [0] rfl)
        · replace h := xif_f h c18
          refine x_iconst X dX8_kindOf_26 ?_
          cases h
          exact hret _ _ _ _ dX8_kindOf_27 rfl hG hS
    · replace h := xif_t h c4
      refine x_iconst X dX8_kindOf_12 ?_
      cases h
      exact hret _ _ _ _ dX8_kindOf_13 rfl hG hS
theorem hds_X8_kindOf : yX8_kindOf.cls ≠ "java/lang/invoke/MethodHandle" ∧ yX8_kindOf.cls ≠ "java/lang/invoke/VarHandle" ∧ (parseMethodDescriptor yX8_kindOf.desc).map (fun d => d.parameters.length) = some 1 := by decide +kernel
abbrev rX8_open : Room := { frames := 0, cells := 0, slots := 0, locals := 0 }
set_option maxRecDepth 100000 in
set_option maxHeartbeats 8000000 in
theorem c_X8_open (l : Launch) (t : gP) (x1 : Int) (x2 : Int) (u : uS) (r : Int) (u' : uS) (h : f_X8_open x1 x2 u = some (r, u')) : xMv l yX8_open wsX8_open rX8_open t [.ref (t.2.2.1 3), .int (iI x1), .int (iI x2)] u u' 0 0 := by
  refine x_ofWv (cc := cX8_open) (maxL := 3) (own := RX8) (by decide) rfl rfl (Nat.le_of_ble_eq_true rfl) ?_
  intro p e s m args below meth c Q X hret H locs ls hG hS hl
  replace hl : lv_has ls 3 [(0, .ref (t.2.2.1 3)), (1, .int (iI x1)), (2, .int (iI x2))] := hl
  have q3 : 3 < NN ∧ sT 3 = 12 := by decide
  have iX8 : ∀ w ∈ wsX80, w ∈ wsX8_open := by decide +kernel
  have w1 : Cond.fieldLink RX8 24 "TriggerNetwork$Tokens" "count" "I" ∈ wsX8_open := x_w 1 rfl
  have w2 : Cond.fieldLink RX8 9 "TriggerNetwork$Tokens" "kinds" "[I" ∈ wsX8_open := x_w 2 rfl
  have q4 : 4 < NN ∧ sT 4 = 100 ∧ sN 4 = 500 := by decide
  have w3 : Cond.fieldLink RX8 15 "TriggerNetwork$Tokens" "starts" "[I" ∈ wsX8_open := x_w 3 rfl
  have q5 : 5 < NN ∧ sT 5 = 100 ∧ sN 5 = 500 := by decide
  have w4 : Cond.fieldLink RX8 18 "TriggerNetwork$Tokens" "lengths" "[I" ∈ wsX8_open := x_w 4 rfl
  have q6 : 6 < NN ∧ sT 6 = 100 ∧ sN 6 = 500 := by decide
  have w5 : Cond.fieldLink RX8 21 "TriggerNetwork$Tokens" "values" "[I" ∈ wsX8_open := x_w 5 rfl
  have q7 : 7 < NN ∧ sT 7 = 100 ∧ sN 7 = 500 := by decide
  unfold f_X8_open at h
  refine lv_aload_n X.1.1 X.1.2.1 dX8_open_0 rfl (lv_at hl 0 rfl) ?_
  refine x_geti X hG 12 0 3 0 (inC := iX8) rfl q3.1 q3.2 ⟨by decide, by decide, by decide, rfl, rfl⟩ w1 dX8_open_1 ?_
  refine x_sipush X dX8_open_4 (by decide) ?_
  obtain ⟨g1, h⟩ := xgd_of h
  refine x_icmp_ge (tgt := 60) X g1 ⟨by decide, by decide⟩ dX8_open_7 (by decide) (fun c2 => ?_) (fun c2 => ?_)
  · replace h := xif_t h c2
    cases h
    exact hret _ _ _ _ dX8_open_60 hG hS
  · replace h := xif_f h c2
    refine lv_aload_n X.1.1 X.1.2.1 dX8_open_10 rfl (lv_at hl 0 rfl) ?_
    refine x_getr X hG 12 1 3 1 (inC := iX8) rfl q3.1 q3.2 ⟨by decide, by decide, by decide, rfl, by decide, by decide⟩ w2 dX8_open_11 ?_
    refine lv_aload_n X.1.1 X.1.2.1 dX8_open_14 rfl (lv_at hl 0 rfl) ?_
    refine x_geti X hG 12 0 3 0 (inC := iX8) rfl q3.1 q3.2 ⟨by decide, by decide, by decide, rfl, rfl⟩ w1 dX8_open_15 ?_
    refine lv_iload_n X.1.1 X.1.2.1 dX8_open_18 rfl (lv_at hl 1 rfl) ?_
    obtain ⟨g3, h⟩ := xgd_of h
    refine x_iast X hG hS q4.1 q4.2.1 (n := 500) q4.2.2 g3 (by decide) dX8_open_19 (fun H locs hG hS => ?_)
    obtain ⟨u4, eu4, h⟩ := xlet_of h
    replace hG : G t u4 H := by rw [eu4]; exact hG
    refine lv_aload_n X.1.1 X.1.2.1 dX8_open_20 rfl (lv_at hl 0 rfl) ?_
    refine x_getr X hG 12 2 3 2 (inC := iX8) rfl q3.1 q3.2 ⟨by decide, by decide, by decide, rfl, by decide, by decide⟩ w3 dX8_open_21 ?_
    refine lv_aload_n X.1.1 X.1.2.1 dX8_open_24 rfl (lv_at hl 0 rfl) ?_
    refine x_geti X hG 12 0 3 0 (inC := iX8) rfl q3.1 q3.2 ⟨by decide, by decide, by decide, rfl, rfl⟩ w1 dX8_open_25 ?_
    refine lv_iload_n X.1.1 X.1.2.1 dX8_open_28 rfl (lv_at hl 2 rfl) ?_
    obtain ⟨g5, h⟩ := xgd_of h
    refine x_iast X hG hS q5.1 q5.2.1 (n := 500) q5.2.2 g5 (by decide) dX8_open_29 (fun H locs hG hS => ?_)
    obtain ⟨u6, eu6, h⟩ := xlet_of h
    replace hG : G t u6 H := by rw [eu6]; exact hG
    refine lv_aload_n X.1.1 X.1.2.1 dX8_open_30 rfl (lv_at hl 0 rfl) ?_
    refine x_getr X hG 12 3 3 3 (inC := iX8) rfl q3.1 q3.2 ⟨by decide, by decide, by decide, rfl, by decide, by decide⟩ w4 dX8_open_31 ?_
    refine lv_aload_n X.1.1 X.1.2.1 dX8_open_34 rfl (lv_at hl 0 rfl) ?_
    refine x_geti X hG 12 0 3 0 (inC := iX8) rfl q3.1 q3.2 ⟨by decide, by decide, by decide, rfl, rfl⟩ w1 dX8_open_35 ?_
    refine x_iconst X dX8_open_38 ?_
    obtain ⟨g7, h⟩ := xgd_of h
    refine x_iast X hG hS q6.1 q6.2.1 (n := 500) q6.2.2 g7 (by decide) dX8_open_39 (fun H locs hG hS => ?_)
    obtain ⟨u8, eu8, h⟩ := xlet_of h
    replace hG : G t u8 H := by rw [eu8]; exact hG
    refine lv_aload_n X.1.1 X.1.2.1 dX8_open_40 rfl (lv_at hl 0 rfl) ?_
    refine x_getr X hG 12 4 3 4 (inC := iX8) rfl q3.1 q3.2 ⟨by decide, by decide, by decide, rfl, by decide, by decide⟩ w5 dX8_open_41 ?_
    refine lv_aload_n X.1.1 X.1.2.1 dX8_open_44 rfl (lv_at hl 0 rfl) ?_
    refine x_geti X hG 12 0 3 0 (inC := iX8) rfl q3.1 q3.2 ⟨by decide, by decide, by decide, rfl, rfl⟩ w1 dX8_open_45 ?_
    refine x_iconst X dX8_open_48 ?_
    obtain ⟨g9, h⟩ := xgd_of h
    refine x_iast X hG hS q7.1 q7.2.1 (n := 500) q7.2.2 g9 (by decide) dX8_open_49 (fun H locs hG hS => ?_)
    obtain ⟨u10, eu10, h⟩ := xlet_of h
    replace hG : G t u10 H := by rw [eu10]; exact hG
    refine lv_aload_n X.1.1 X.1.2.1 dX8_open_50 rfl (lv_at hl 0 rfl) ?_
    refine lv_dup X.1.1 X.1.2.1 dX8_open_51 rfl ?_
    refine x_geti X hG 12 0 3 0 (inC := iX8) rfl q3.1 q3.2 ⟨by decide, by decide, by decide, rfl, rfl⟩ w1 dX8_open_52 ?_
    refine x_iconst X dX8_open_55 ?_
    refine x_iadd X dX8_open_56 ?_
    refine x_puti X hG hS 12 0 3 0 _ tyX8 tyX8_ok nmX8 (inC := iX8) rfl q3.1 q3.2 ⟨by decide, by decide, by decide, rfl, rfl⟩ rfl (by decide +kernel) w1 dX8_open_57 (fun H locs hG hS => ?_)
    obtain ⟨u11, eu11, h⟩ := xlet_of h
    replace hG : G t u11 H := by rw [eu11]; exact hG
    cases h
    exact hret _ _ _ _ dX8_open_60 hG hS
theorem hd_X8_open : yX8_open.cls = RX8 ∧ yX8_open.cls ≠ "java/lang/invoke/MethodHandle" ∧ yX8_open.cls ≠ "java/lang/invoke/VarHandle" ∧ (parseMethodDescriptor yX8_open.desc).map (fun d => d.parameters.length) = some 2 := by decide +kernel
abbrev rX8_refuseLongOnes : Room := { frames := 0, cells := 0, slots := 0, locals := 0 }
set_option maxRecDepth 100000 in
set_option maxHeartbeats 8000000 in
theorem c_X8_refuseLongOnes (l : Launch) (t : gP) (u : uS) (r : Int) (u' : uS) (h : f_X8_refuseLongOnes u = some (r, u')) : xMv l yX8_refuseLongOnes wsX8_refuseLongOnes rX8_refuseLongOnes t [.ref (t.2.2.1 3)] u u' 0 0 := by
  refine x_ofWv (cc := cX8_refuseLongOnes) (maxL := 4) (own := RX8) (by decide) rfl rfl (Nat.le_of_ble_eq_true rfl) ?_
  intro p e s m args below meth c Q X hret H locs ls hG hS hl
  replace hl : lv_has ls 4 [(0, .ref (t.2.2.1 3))] := hl
  have q3 : 3 < NN ∧ sT 3 = 12 := by decide
  have iX8 : ∀ w ∈ wsX80, w ∈ wsX8_refuseLongOnes := by decide +kernel
  have w1 : Cond.fieldLink RX8 24 "TriggerNetwork$Tokens" "count" "I" ∈ wsX8_refuseLongOnes := x_w 1 rfl
  have w2 : Cond.fieldLink RX8 9 "TriggerNetwork$Tokens" "kinds" "[I" ∈ wsX8_refuseLongOnes := x_w 2 rfl
  have q4 : 4 < NN ∧ sT 4 = 100 ∧ sN 4 = 500 := by decide
  have w3 : Cond.fieldLink RX8 18 "TriggerNetwork$Tokens" "lengths" "[I" ∈ wsX8_refuseLongOnes := x_w 3 rfl
  have q6 : 6 < NN ∧ sT 6 = 100 ∧ sN 6 = 500 := by decide
  unfold f_X8_refuseLongOnes at h
  refine x_iconst X dX8_refuseLongOnes_0 ?_
  refine lv_istore_n (lv' := [(1, .int (iI 0)), (0, .ref (t.2.2.1 3))]) X.1.1 X.1.2.1 dX8_refuseLongOnes_1 rfl hl (by decide) rfl (fun ls hl => ?_)
  have Lgo1 : ∀ (n : Nat) (x1_2 : Int) (u3 : uS), xl2 (s_X8_refuseLongOnes_2) n x1_2 u3 = some (r, u') → xG p l e rX8_refuseLongOnes s m args below meth c t Q 4 0 0 2 u3 [(1, .int (iI x1_2)), (0, .ref (t.2.2.1 3))] [] := by
    intro n x1_2 u3 h
    refine xl2_W (F := s_X8_refuseLongOnes_2) (fun x1_2 u3 q => q = (r, u') → xG p l e rX8_refuseLongOnes s m args below meth c t Q 4 0 0 2 u3 [(1, .int (iI x1_2)), (0, .ref (t.2.2.1 3))] []) ?_ n x1_2 u3 _ h rfl
    intro go1 igo1 x1_2 u3 q h hq H locs ls hG hS hl
    subst hq
    unfold s_X8_refuseLongOnes_2 at h
    refine lv_iload_n X.1.1 X.1.2.1 dX8_refuseLongOnes_2 rfl (lv_at hl 0 rfl) ?_
    refine lv_aload_n X.1.1 X.1.2.1 dX8_refuseLongOnes_3 rfl (lv_at hl 1 rfl) ?_
    refine x_geti X hG 12 0 3 0 (inC := iX8) rfl q3.1 q3.2 ⟨by decide, by decide, by decide, rfl, rfl⟩ w1 dX8_refuseLongOnes_4 ?_
    obtain ⟨g4, h⟩ := xgd_of h
    refine x_icmp_ge (tgt := 91) X g4.1 g4.2 dX8_refuseLongOnes_7 (by decide) (fun c5 => ?_) (fun c5 => ?_)
    · replace h := xif_t h c5
      cases h
      exact hret _ _ _ _ dX8_refuseLongOnes_91 hG hS
    · replace h := xif_f h c5
      refine lv_iload_n X.1.1 X.1.2.1 dX8_refuseLongOnes_10 rfl (lv_at hl 0 rfl) ?_
      refine x_sipush X dX8_refuseLongOnes_11 (by decide) ?_
      obtain ⟨g6, h⟩ := xgd_of h
      refine x_icmp_ge (tgt := 91) X g6 ⟨by decide, by decide⟩ dX8_refuseLongOnes_14 (by decide) (fun c7 => ?_) (fun c7 => ?_)
      · replace h := xif_t h c7
        cases h
        exact hret _ _ _ _ dX8_refuseLongOnes_91 hG hS
      · replace h := xif_f h c7
        refine lv_aload_n X.1.1 X.1.2.1 dX8_refuseLongOnes_17 rfl (lv_at hl 1 rfl) ?_
        refine x_getr X hG 12 1 3 1 (inC := iX8) rfl q3.1 q3.2 ⟨by decide, by decide, by decide, rfl, by decide, by decide⟩ w2 dX8_refuseLongOnes_18 ?_
        refine lv_iload_n X.1.1 X.1.2.1 dX8_refuseLongOnes_21 rfl (lv_at hl 0 rfl) ?_
        obtain ⟨g8, h⟩ := xgd_of h
        refine x_iald X hG q4.1 q4.2.1 (n := 500) q4.2.2 g8 (by decide) dX8_refuseLongOnes_22 ?_
        refine x_iconst X dX8_refuseLongOnes_23 ?_
        obtain ⟨g9, h⟩ := xgd_of h
        obtain ⟨j10, ej10, h⟩ := xlet_of h
        have Jj10 : ∀ (s11 : Int) (u12 : uS), j10 s11 u12 = some (r, u') → xG p l e rX8_refuseLongOnes s m args below meth c t Q 4 0 0 43 u12 [(0, .ref (t.2.2.1 3)), (1, .int (iI x1_2))] [.int (iI s11)] := by
            intro s11 u12 h H locs ls hG hS hl
            replace h := (congrFun (congrFun ej10 s11) u12).symm.trans h
            refine lv_istore_n (lv' := [(2, .int (iI s11)), (0, .ref (t.2.2.1 3)), (1, .int (iI x1_2))]) X.1.1 X.1.2.1 dX8_refuseLongOnes_43 rfl hl (by decide) rfl (fun ls hl => ?_)
            refine lv_aload_n X.1.1 X.1.2.1 dX8_refuseLongOnes_44 rfl (lv_at hl 1 rfl) ?_
            refine x_getr X hG 12 1 3 1 (inC := iX8) rfl q3.1 q3.2 ⟨by decide, by decide, by decide, rfl, by decide, by decide⟩ w2 dX8_refuseLongOnes_45 ?_
            refine lv_iload_n X.1.1 X.1.2.1 dX8_refuseLongOnes_48 rfl (lv_at hl 2 rfl) ?_
            obtain ⟨g13, h⟩ := xgd_of h
            refine x_iald X hG q4.1 q4.2.1 (n := 500) q4.2.2 g13 (by decide) dX8_refuseLongOnes_49 ?_
            refine x_iconst X dX8_refuseLongOnes_50 ?_
            obtain ⟨g14, h⟩ := xgd_of h
            obtain ⟨j15, ej15, h⟩ := xlet_of h
            have Jj15 : ∀ (s16 : Int) (u17 : uS), j15 s16 u17 = some (r, u') → xG p l e rX8_refuseLongOnes s m args below meth c t Q 4 0 0 69 u17 [(0, .ref (t.2.2.1 3)), (1, .int (iI x1_2)), (2, .int (iI s11))] [.int (iI s16)] := by
                intro s16 u17 h H locs ls hG hS hl
                replace h := (congrFun (congrFun ej15 s16) u17).symm.trans h
                refine lv_istore_n (lv' := [(3, .int (iI s16)), (0, .ref (t.2.2.1 3)), (1, .int (iI x1_2)), (2, .int (iI s11))]) X.1.1 X.1.2.1 dX8_refuseLongOnes_69 rfl hl (by decide) rfl (fun ls hl => ?_)
                refine lv_iload_n X.1.1 X.1.2.1 dX8_refuseLongOnes_70 rfl (lv_at hl 3 rfl) ?_
                obtain ⟨g18, h⟩ := xgd_of h
                obtain ⟨j19, ej19, h⟩ := xlet_of h
                have Jj19 : ∀ (u20 : uS), j19 u20 = some (r, u') → xG p l e rX8_refuseLongOnes s m args below meth c t Q 4 0 0 78 u20 [(0, .ref (t.2.2.1 3)), (1, .int (iI x1_2))] [] := by
                    intro u20 h H locs ls hG hS hl
                    replace h := (congrFun ej19 u20).symm.trans h
                    refine lv_aload_n X.1.1 X.1.2.1 dX8_refuseLongOnes_78 rfl (lv_at hl 0 rfl) ?_
                    refine x_getr X hG 12 1 3 1 (inC := iX8) rfl q3.1 q3.2 ⟨by decide, by decide, by decide, rfl, by decide, by decide⟩ w2 dX8_refuseLongOnes_79 ?_
                    refine lv_iload_n X.1.1 X.1.2.1 dX8_refuseLongOnes_82 rfl (lv_at hl 1 rfl) ?_
                    refine x_iconst X dX8_refuseLongOnes_83 ?_
                    obtain ⟨g21, h⟩ := xgd_of h
                    refine x_iast X hG hS q4.1 q4.2.1 (n := 500) q4.2.2 g21 (by decide) dX8_refuseLongOnes_84 (fun H locs hG hS => ?_)
                    obtain ⟨u22, eu22, h⟩ := xlet_of h
                    replace hG : G t u22 H := by rw [eu22]; exact hG
                    refine lv_iinc (v := (iI (x1_2 + 1))) (lv' := [(1, .int (iI (x1_2 + 1))), (0, .ref (t.2.2.1 3))]) X.1.1 X.1.2.1 dX8_refuseLongOnes_85 hl (k := 1) rfl (iI_add _ _) (by decide) rfl (fun ls hl => ?_)
                    refine lv_goto (tgt := 2) X.1.1 X.1.2.1 dX8_refuseLongOnes_88 (by decide) ?_
                    exact igo1 _ _ _ h rfl _ _ _ hG hS (lv_sub hl [0, 1] rfl)
                refine x_if_ne (tgt := 78) X g18 dX8_refuseLongOnes_71 (by decide) (fun c23 => ?_) (fun c23 => ?_)
                · replace h := xif_f h c23
                  exact Jj19 _ h _ _ _ hG hS (lv_sub hl [1, 2] rfl)
                · replace h := xif_t h c23
                  refine lv_iload_n X.1.1 X.1.2.1 dX8_refuseLongOnes_74 rfl (lv_at hl 0 rfl) ?_
                  obtain ⟨g24, h⟩ := xgd_of h
                  refine x_if_eq (tgt := 85) X g24 dX8_refuseLongOnes_75 (by decide) (fun c25 => ?_) (fun c25 => ?_)
                  · replace h := xif_t h c25
                    refine lv_iinc (v := (iI (x1_2 + 1))) (lv' := [(1, .int (iI (x1_2 + 1))), (3, .int (iI s16)), (0, .ref (t.2.2.1 3)), (2, .int (iI s11))]) X.1.1 X.1.2.1 dX8_refuseLongOnes_85 hl (k := 2) rfl (iI_add _ _) (by decide) rfl (fun ls hl => ?_)
                    refine lv_goto (tgt := 2) X.1.1 X.1.2.1 dX8_refuseLongOnes_88 (by decide) ?_
                    exact igo1 _ _ _ h rfl _ _ _ hG hS (lv_sub hl [0, 2] rfl)
                  · replace h := xif_f h c25
                    exact Jj19 _ h _ _ _ hG hS (lv_sub hl [1, 2] rfl)
            obtain ⟨j26, ej26, h⟩ := xlet_of h
            have Jj26 : ∀ (u27 : uS), j26 u27 = some (r, u') → xG p l e rX8_refuseLongOnes s m args below meth c t Q 4 0 0 68 u27 [(0, .ref (t.2.2.1 3)), (1, .int (iI x1_2)), (2, .int (iI s11))] [] := by
                intro u27 h H locs ls hG hS hl
                replace h := (congrFun ej26 u27).symm.trans h
                refine x_iconst X dX8_refuseLongOnes_68 ?_
                exact Jj15 _ _ h _ _ _ hG hS (lv_sub hl [0, 1, 2] rfl)
            refine x_icmp_ne (tgt := 68) X g14 ⟨by decide, by decide⟩ dX8_refuseLongOnes_51 (by decide) (fun c28 => ?_) (fun c28 => ?_)
            · replace h := xif_f h c28
              exact Jj26 _ h _ _ _ hG hS (lv_sub hl [1, 2, 0] rfl)
            · replace h := xif_t h c28
              refine lv_aload_n X.1.1 X.1.2.1 dX8_refuseLongOnes_54 rfl (lv_at hl 1 rfl) ?_
              refine x_getr X hG 12 3 3 3 (inC := iX8) rfl q3.1 q3.2 ⟨by decide, by decide, by decide, rfl, by decide, by decide⟩ w3 dX8_refuseLongOnes_55 ?_
              refine lv_iload_n X.1.1 X.1.2.1 dX8_refuseLongOnes_58 rfl (lv_at hl 2 rfl) ?_
              obtain ⟨g29, h⟩ := xgd_of h
              refine x_iald X hG q6.1 q6.2.1 (n := 500) q6.2.2 g29 (by decide) dX8_refuseLongOnes_59 ?_
              refine x_iconst X dX8_refuseLongOnes_60 ?_
              obtain ⟨g30, h⟩ := xgd_of h
              refine x_icmp_le (tgt := 68) X g30 ⟨by decide, by decide⟩ dX8_refuseLongOnes_61 (by decide) (fun c31 => ?_) (fun c31 => ?_)
              · replace h := xif_t h c31
                exact Jj26 _ h _ _ _ hG hS (lv_sub hl [1, 2, 0] rfl)
              · replace h := xif_f h c31
                refine x_iconst X dX8_refuseLongOnes_64 ?_
                refine lv_goto (tgt := 69) X.1.1 X.1.2.1 dX8_refuseLongOnes_65 (by decide) ?_
                exact Jj15 _ _ h _ _ _ hG hS (lv_sub hl [1, 2, 0] rfl)
        obtain ⟨j32, ej32, h⟩ := xlet_of h
        have Jj32 : ∀ (u33 : uS), j32 u33 = some (r, u') → xG p l e rX8_refuseLongOnes s m args below meth c t Q 4 0 0 42 u33 [(0, .ref (t.2.2.1 3)), (1, .int (iI x1_2))] [] := by
            intro u33 h H locs ls hG hS hl
            replace h := (congrFun ej32 u33).symm.trans h
            refine x_iconst X dX8_refuseLongOnes_42 ?_
            exact Jj10 _ _ h _ _ _ hG hS (lv_sub hl [0, 1] rfl)
        refine x_icmp_ne (tgt := 42) X g9 ⟨by decide, by decide⟩ dX8_refuseLongOnes_24 (by decide) (fun c34 => ?_) (fun c34 => ?_)
        · replace h := xif_f h c34
          exact Jj32 _ h _ _ _ hG hS (lv_sub hl [1, 0] rfl)
        · replace h := xif_t h c34
          refine lv_aload_n X.1.1 X.1.2.1 dX8_refuseLongOnes_27 rfl (lv_at hl 1 rfl) ?_
          refine x_getr X hG 12 3 3 3 (inC := iX8) rfl q3.1 q3.2 ⟨by decide, by decide, by decide, rfl, by decide, by decide⟩ w3 dX8_refuseLongOnes_28 ?_
          refine lv_iload_n X.1.1 X.1.2.1 dX8_refuseLongOnes_31 rfl (lv_at hl 0 rfl) ?_
          obtain ⟨g35, h⟩ := xgd_of h
          refine x_iald X hG q6.1 q6.2.1 (n := 500) q6.2.2 g35 (by decide) dX8_refuseLongOnes_32 ?_
          refine x_bipush X dX8_refuseLongOnes_33 (by decide) ?_
          obtain ⟨g36, h⟩ := xgd_of h
          refine x_icmp_le (tgt := 42) X g36 ⟨by decide, by decide⟩ dX8_refuseLongOnes_35 (by decide) (fun c37 => ?_) (fun c37 => ?_)
          · replace h := xif_t h c37
            exact Jj32 _ h _ _ _ hG hS (lv_sub hl [1, 0] rfl)
          · replace h := xif_f h c37
            refine x_iconst X dX8_refuseLongOnes_38 ?_
            refine lv_goto (tgt := 43) X.1.1 X.1.2.1 dX8_refuseLongOnes_39 (by decide) ?_
            exact Jj10 _ _ h _ _ _ hG hS (lv_sub hl [1, 0] rfl)
  exact Lgo1 FU _ _ h _ _ _ hG hS (lv_sub hl [0, 1] rfl)
theorem hd_X8_refuseLongOnes : yX8_refuseLongOnes.cls = RX8 ∧ yX8_refuseLongOnes.cls ≠ "java/lang/invoke/MethodHandle" ∧ yX8_refuseLongOnes.cls ≠ "java/lang/invoke/VarHandle" ∧ (parseMethodDescriptor yX8_refuseLongOnes.desc).map (fun d => d.parameters.length) = some 0 := by decide +kernel
abbrev rX8_split : Room := { frames := 1, cells := 0, slots := 0, locals := 23 }
set_option maxRecDepth 100000 in
set_option maxHeartbeats 8000000 in
theorem c_X8_split (l : Launch) (t : gP) (k1 : Nat) (x2 : Int) (u : uS) (r : Int) (u' : uS) (h : f_X8_split k1 x2 u = some (r, u')) : xMv l yX8_split wsX8_split rX8_split t [.ref (t.2.2.1 3), .ref (t.2.2.1 k1), .int (iI x2)] u u' 0 0 := by
  refine x_ofWv (cc := cX8_split) (maxL := 7) (own := RX8) (by decide) rfl rfl (Nat.le_of_ble_eq_true rfl) ?_
  intro p e s m args below meth c Q X hret H locs ls hG hS hl
  replace hl : lv_has ls 7 [(0, .ref (t.2.2.1 3)), (1, .ref (t.2.2.1 k1)), (2, .int (iI x2))] := hl
  have q3 : 3 < NN ∧ sT 3 = 12 := by decide
  have iX8 : ∀ w ∈ wsX80, w ∈ wsX8_split := by decide +kernel
  have w1 : Cond.fieldLink RX8 24 "TriggerNetwork$Tokens" "count" "I" ∈ wsX8_split := x_w 1 rfl
  unfold f_X8_split at h
  obtain ⟨g1, h⟩ := xgd_of h
  refine lv_aload_n X.1.1 X.1.2.1 dX8_split_0 rfl (lv_at hl 0 rfl) ?_
  refine x_iconst X dX8_split_1 ?_
  refine x_puti X hG hS 12 0 3 0 _ tyX8 tyX8_ok nmX8 (inC := iX8) rfl q3.1 q3.2 ⟨by decide, by decide, by decide, rfl, rfl⟩ rfl (by decide +kernel) w1 dX8_split_2 (fun H locs hG hS => ?_)
  obtain ⟨u2, eu2, h⟩ := xlet_of h
  replace hG : G t u2 H := by rw [eu2]; exact hG
  refine x_iconst X dX8_split_5 ?_
  refine lv_istore_n (lv' := [(3, .int (iI 0)), (0, .ref (t.2.2.1 3)), (1, .ref (t.2.2.1 k1)), (2, .int (iI x2))]) X.1.1 X.1.2.1 dX8_split_6 rfl hl (by decide) rfl (fun ls hl => ?_)
  refine x_iconst X dX8_split_7 ?_
  refine lv_istore (lv' := [(4, .int (iI 0)), (3, .int (iI 0)), (0, .ref (t.2.2.1 3)), (1, .ref (t.2.2.1 k1)), (2, .int (iI x2))]) X.1.1 X.1.2.1 dX8_split_8 hl (by decide) rfl (fun ls hl => ?_)
  obtain ⟨j3, ej3, h⟩ := xlet_of h
  have Jj3 : ∀ (u4 : uS), j3 u4 = some (r, u') → xG p l e rX8_split s m args below meth c t Q 7 0 0 97 u4 [(0, .ref (t.2.2.1 3))] [] := by
      intro u4 h H locs ls hG hS hl
      replace h := (congrFun ej3 u4).symm.trans h
      refine lv_aload_n X.1.1 X.1.2.1 dX8_split_97 rfl (lv_at hl 0 rfl) ?_
      obtain ⟨v5, u6, hf, h⟩ := xbd_of h
      refine x_callVv0 X hG hS (c_X8_refuseLongOnes l t  _ _ _ hf) (cwV 0 X.1.2.2.2.2 gX8_split_X8_refuseLongOnes rfl rfl rfl hd_X8_refuseLongOnes ⟨Nat.le_of_ble_eq_true rfl, Nat.le_of_ble_eq_true rfl⟩) q3.1 q3.2 rfl (by decide) (by rfl) hl.1 (Nat.le_of_ble_eq_true rfl) dX8_split_98 ⟨by decide, by decide⟩ rfl (fun H locs hG hS => ?_)
      cases h
      exact hret _ _ _ _ dX8_split_101 hG hS
  have Lgo7 : ∀ (n : Nat) (x3_8 : Int) (x4_9 : Int) (u10 : uS), xl3 (s_X8_split_10 x2 j3 k1) n x3_8 x4_9 u10 = some (r, u') → xG p l e rX8_split s m args below meth c t Q 7 0 0 10 u10 [(3, .int (iI x3_8)), (4, .int (iI x4_9)), (0, .ref (t.2.2.1 3)), (1, .ref (t.2.2.1 k1)), (2, .int (iI x2))] [] := by
    intro n x3_8 x4_9 u10 h
    refine xl3_W (F := s_X8_split_10 x2 j3 k1) (fun x3_8 x4_9 u10 q => q = (r, u') → xG p l e rX8_split s m args below meth c t Q 7 0 0 10 u10 [(3, .int (iI x3_8)), (4, .int (iI x4_9)), (0, .ref (t.2.2.1 3)), (1, .ref (t.2.2.1 k1)), (2, .int (iI x2))] []) ?_ n x3_8 x4_9 u10 _ h rfl
    intro go7 igo7 x3_8 x4_9 u10 q h hq H locs ls hG hS hl
    subst hq
    unfold s_X8_split_10 at h
    refine lv_iload X.1.1 X.1.2.1 dX8_split_10 (lv_at hl 1 rfl) ?_
    refine lv_iload_n X.1.1 X.1.2.1 dX8_split_12 rfl (lv_at hl 4 rfl) ?_
    obtain ⟨g11, h⟩ := xgd_of h
    refine x_icmp_ge (tgt := 97) X g11.1 g11.2 dX8_split_13 (by decide) (fun c12 => ?_) (fun c12 => ?_)
    · replace h := xif_t h c12
      exact Jj3 _ h _ _ _ hG hS (lv_sub hl [2] rfl)
    · replace h := xif_f h c12
      refine lv_iload X.1.1 X.1.2.1 dX8_split_16 (lv_at hl 1 rfl) ?_
      refine lv_aload_n X.1.1 X.1.2.1 dX8_split_18 rfl (lv_at hl 3 rfl) ?_
      refine x_alen X hG (arr_f g1).1 (arr_f g1).2.1 (arr_f g1).2.2 dX8_split_19 ?_
      obtain ⟨g13, h⟩ := xgd_of h
      refine x_icmp_ge (tgt := 97) X g13.1 g13.2 dX8_split_20 (by decide) (fun c14 => ?_) (fun c14 => ?_)
      · replace h := xif_t h c14
        exact Jj3 _ h _ _ _ hG hS (lv_sub hl [2] rfl)
      · replace h := xif_f h c14
        refine lv_aload_n X.1.1 X.1.2.1 dX8_split_23 rfl (lv_at hl 3 rfl) ?_
        refine lv_iload X.1.1 X.1.2.1 dX8_split_24 (lv_at hl 1 rfl) ?_
        obtain ⟨g15, h⟩ := xgd_of h
        refine x_iald X hG (arr_f g1).1 (arr_f g1).2.1 (arr_f g1).2.2 g15 (sN_lt _) dX8_split_26 ?_
        obtain ⟨v16, u17, hf, h⟩ := xbd_of h
        refine x_callSi0 X hG hS (c_X8_kindOf l t _ _ _ _ hf) (va_cwS 1 X.1.2.2.2.2 gX8_split_X8_kindOf rfl rfl rfl hds_X8_kindOf ⟨Nat.le_of_ble_eq_true rfl, Nat.le_of_ble_eq_true rfl⟩) (by rfl) hl.1 (Nat.le_of_ble_eq_true rfl) dX8_split_27 ⟨by decide, by decide⟩ rfl (fun H locs hG hS => ?_)
        refine lv_istore (lv' := [(5, .int (iI v16)), (3, .int (iI x3_8)), (4, .int (iI x4_9)), (0, .ref (t.2.2.1 3)), (1, .ref (t.2.2.1 k1)), (2, .int (iI x2))]) X.1.1 X.1.2.1 dX8_split_30 hl (by decide) rfl (fun ls hl => ?_)
        refine lv_iload X.1.1 X.1.2.1 dX8_split_32 (lv_at hl 0 rfl) ?_
        refine lv_iload_n X.1.1 X.1.2.1 dX8_split_34 rfl (lv_at hl 1 rfl) ?_
        obtain ⟨g18, h⟩ := xgd_of h
        obtain ⟨j19, ej19, h⟩ := xlet_of h
        have Jj19 : ∀ (s20 : Int) (u21 : uS), j19 s20 u21 = some (r, u') → xG p l e rX8_split s m args below meth c t Q 7 0 0 55 u21 [(0, .ref (t.2.2.1 3)), (1, .ref (t.2.2.1 k1)), (2, .int (iI x2)), (4, .int (iI x4_9)), (5, .int (iI v16))] [.int (iI s20)] := by
            intro s20 u21 h H locs ls hG hS hl
            replace h := (congrFun (congrFun ej19 s20) u21).symm.trans h
            refine lv_istore (lv' := [(6, .int (iI s20)), (0, .ref (t.2.2.1 3)), (1, .ref (t.2.2.1 k1)), (2, .int (iI x2)), (4, .int (iI x4_9)), (5, .int (iI v16))]) X.1.1 X.1.2.1 dX8_split_55 hl (by decide) rfl (fun ls hl => ?_)
            refine lv_iload X.1.1 X.1.2.1 dX8_split_57 (lv_at hl 5 rfl) ?_
            obtain ⟨g22, h⟩ := xgd_of h
            obtain ⟨j23, ej23, h⟩ := xlet_of h
            have Jj23 : ∀ (u24 : uS), j23 u24 = some (r, u') → xG p l e rX8_split s m args below meth c t Q 7 0 0 75 u24 [(0, .ref (t.2.2.1 3)), (1, .ref (t.2.2.1 k1)), (2, .int (iI x2)), (4, .int (iI x4_9)), (5, .int (iI v16))] [] := by
                intro u24 h H locs ls hG hS hl
                replace h := (congrFun ej23 u24).symm.trans h
                refine lv_iload X.1.1 X.1.2.1 dX8_split_75 (lv_at hl 4 rfl) ?_
                obtain ⟨g25, h⟩ := xgd_of h
                obtain ⟨j26, ej26, h⟩ := xlet_of h
                have Jj26 : ∀ (u27 : uS), j26 u27 = some (r, u') → xG p l e rX8_split s m args below meth c t Q 7 0 0 88 u27 [(0, .ref (t.2.2.1 3)), (1, .ref (t.2.2.1 k1)), (2, .int (iI x2)), (4, .int (iI x4_9)), (5, .int (iI v16))] [] := by
                    intro u27 h H locs ls hG hS hl
                    replace h := (congrFun ej26 u27).symm.trans h
                    refine lv_iload X.1.1 X.1.2.1 dX8_split_88 (lv_at hl 4 rfl) ?_
                    refine lv_istore_n (lv' := [(3, .int (iI v16)), (0, .ref (t.2.2.1 3)), (1, .ref (t.2.2.1 k1)), (2, .int (iI x2)), (4, .int (iI x4_9)), (5, .int (iI v16))]) X.1.1 X.1.2.1 dX8_split_90 rfl hl (by decide) rfl (fun ls hl => ?_)
                    refine lv_iinc (v := (iI (x4_9 + 1))) (lv' := [(4, .int (iI (x4_9 + 1))), (3, .int (iI v16)), (0, .ref (t.2.2.1 3)), (1, .ref (t.2.2.1 k1)), (2, .int (iI x2)), (5, .int (iI v16))]) X.1.1 X.1.2.1 dX8_split_91 hl (k := 4) rfl (iI_add _ _) (by decide) rfl (fun ls hl => ?_)
                    refine lv_goto (tgt := 10) X.1.1 X.1.2.1 dX8_split_94 (by decide) ?_
                    exact igo7 _ _ _ _ h rfl _ _ _ hG hS (lv_sub hl [1, 0, 2, 3, 4] rfl)
                refine x_if_eq (tgt := 88) X g25 dX8_split_77 (by decide) (fun c28 => ?_) (fun c28 => ?_)
                · replace h := xif_t h c28
                  exact Jj26 _ h _ _ _ hG hS (lv_sub hl [0, 1, 2, 3, 4] rfl)
                · replace h := xif_f h c28
                  refine lv_aload_n X.1.1 X.1.2.1 dX8_split_80 rfl (lv_at hl 0 rfl) ?_
                  refine lv_aload_n X.1.1 X.1.2.1 dX8_split_81 rfl (lv_at hl 1 rfl) ?_
                  refine lv_iload X.1.1 X.1.2.1 dX8_split_82 (lv_at hl 3 rfl) ?_
                  obtain ⟨g29, h⟩ := xgd_of h
                  refine x_iald X hG (arr_f g1).1 (arr_f g1).2.1 (arr_f g1).2.2 g29 (sN_lt _) dX8_split_84 ?_
                  obtain ⟨v30, u31, hf, h⟩ := xbd_of h
                  refine x_callVv0 X hG hS (c_X8_extend l t _ _ _ _ hf) (cwV 1 X.1.2.2.2.2 gX8_split_X8_extend rfl rfl rfl hd_X8_extend ⟨Nat.le_of_ble_eq_true rfl, Nat.le_of_ble_eq_true rfl⟩) q3.1 q3.2 rfl (by decide) (by rfl) hl.1 (Nat.le_of_ble_eq_true rfl) dX8_split_85 ⟨by decide, by decide⟩ rfl (fun H locs hG hS => ?_)
                  exact Jj26 _ h _ _ _ hG hS (lv_sub hl [0, 1, 2, 3, 4] rfl)
            refine x_if_eq (tgt := 75) X g22 dX8_split_59 (by decide) (fun c32 => ?_) (fun c32 => ?_)
            · replace h := xif_t h c32
              exact Jj23 _ h _ _ _ hG hS (lv_sub hl [1, 2, 3, 4, 5] rfl)
            · replace h := xif_f h c32
              refine lv_iload X.1.1 X.1.2.1 dX8_split_62 (lv_at hl 0 rfl) ?_
              obtain ⟨g33, h⟩ := xgd_of h
              refine x_if_ne (tgt := 75) X g33 dX8_split_64 (by decide) (fun c34 => ?_) (fun c34 => ?_)
              · replace h := xif_f h c34
                exact Jj23 _ h _ _ _ hG hS (lv_sub hl [1, 2, 3, 4, 5] rfl)
              · replace h := xif_t h c34
                refine lv_aload_n X.1.1 X.1.2.1 dX8_split_67 rfl (lv_at hl 1 rfl) ?_
                refine lv_iload X.1.1 X.1.2.1 dX8_split_68 (lv_at hl 5 rfl) ?_
                refine lv_iload X.1.1 X.1.2.1 dX8_split_70 (lv_at hl 4 rfl) ?_
                obtain ⟨v35, u36, hf, h⟩ := xbd_of h
                refine x_callVv0 X hG hS (c_X8_open l t _ _ _ _ _ hf) (cwV 2 X.1.2.2.2.2 gX8_split_X8_open rfl rfl rfl hd_X8_open ⟨Nat.le_of_ble_eq_true rfl, Nat.le_of_ble_eq_true rfl⟩) q3.1 q3.2 rfl (by decide) (by rfl) hl.1 (Nat.le_of_ble_eq_true rfl) dX8_split_72 ⟨by decide, by decide⟩ rfl (fun H locs hG hS => ?_)
                exact Jj23 _ h _ _ _ hG hS (lv_sub hl [1, 2, 3, 4, 5] rfl)
        obtain ⟨j37, ej37, h⟩ := xlet_of h
        have Jj37 : ∀ (u38 : uS), j37 u38 = some (r, u') → xG p l e rX8_split s m args below meth c t Q 7 0 0 54 u38 [(0, .ref (t.2.2.1 3)), (1, .ref (t.2.2.1 k1)), (2, .int (iI x2)), (4, .int (iI x4_9)), (5, .int (iI v16))] [] := by
            intro u38 h H locs ls hG hS hl
            replace h := (congrFun ej37 u38).symm.trans h
            refine x_iconst X dX8_split_54 ?_
            exact Jj19 _ _ h _ _ _ hG hS (lv_sub hl [0, 1, 2, 3, 4] rfl)
        refine x_icmp_ne (tgt := 54) X g18.1 g18.2 dX8_split_35 (by decide) (fun c39 => ?_) (fun c39 => ?_)
        · replace h := xif_f h c39
          exact Jj37 _ h _ _ _ hG hS (lv_sub hl [3, 4, 5, 2, 0] rfl)
        · replace h := xif_t h c39
          refine lv_iload X.1.1 X.1.2.1 dX8_split_38 (lv_at hl 0 rfl) ?_
          refine x_iconst X dX8_split_40 ?_
          obtain ⟨g40, h⟩ := xgd_of h
          refine x_icmp_eq (tgt := 50) X g40 ⟨by decide, by decide⟩ dX8_split_41 (by decide) (fun c41 => ?_) (fun c41 => ?_)
          · replace h := xif_t h c41
            refine x_iconst X dX8_split_50 ?_
            refine lv_goto (tgt := 55) X.1.1 X.1.2.1 dX8_split_51 (by decide) ?_
            exact Jj19 _ _ h _ _ _ hG hS (lv_sub hl [3, 4, 5, 2, 0] rfl)
          · replace h := xif_f h c41
            refine lv_iload X.1.1 X.1.2.1 dX8_split_44 (lv_at hl 0 rfl) ?_
            refine x_iconst X dX8_split_46 ?_
            obtain ⟨g42, h⟩ := xgd_of h
            refine x_icmp_ne (tgt := 54) X g42 ⟨by decide, by decide⟩ dX8_split_47 (by decide) (fun c43 => ?_) (fun c43 => ?_)
            · replace h := xif_f h c43
              exact Jj37 _ h _ _ _ hG hS (lv_sub hl [3, 4, 5, 2, 0] rfl)
            · replace h := xif_t h c43
              refine x_iconst X dX8_split_50 ?_
              refine lv_goto (tgt := 55) X.1.1 X.1.2.1 dX8_split_51 (by decide) ?_
              exact Jj19 _ _ h _ _ _ hG hS (lv_sub hl [3, 4, 5, 2, 0] rfl)
  exact Lgo7 FU _ _ _ h _ _ _ hG hS (lv_sub hl [1, 0, 2, 3, 4] rfl)
theorem hd_X8_split : yX8_split.cls = RX8 ∧ yX8_split.cls ≠ "java/lang/invoke/MethodHandle" ∧ yX8_split.cls ≠ "java/lang/invoke/VarHandle" ∧ (parseMethodDescriptor yX8_split.desc).map (fun d => d.parameters.length) = some 2 := by decide +kernel
abbrev rX5_distanceFromNode : Room := { frames := 0, cells := 0, slots := 0, locals := 0 }
set_option maxRecDepth 100000 in
set_option maxHeartbeats 8000000 in
theorem c_X5_distanceFromNode (l : Launch) (t : gP) (k0 : Nat) (x1 : Int) (x2 : Int) (u : uS) (r : Int) (u' : uS) (h : f_X5_distanceFromNode k0 x1 x2 u = some (r, u')) : xMi l yX5_distanceFromNode wsX5_distanceFromNode rX5_distanceFromNode t [.ref (t.2.2.1 k0), .int (iI x1), .int (iI x2)] u r u' 0 0 := by
  refine x_ofWi (cc := cX5_distanceFromNode) (maxL := 4) (ret := .int) (own := RX5) (by decide) rfl rfl (Nat.le_of_ble_eq_true rfl) ?_
  intro p e s m args below meth c Q X hret H locs ls hG hS hl
  replace hl : lv_has ls 4 [(0, .ref (t.2.2.1 k0)), (1, .int (iI x1)), (2, .int (iI x2))] := hl
  have iX5 : ∀ w ∈ wsX50, w ∈ wsX5_distanceFromNode := by decide +kernel
  have w1 : Cond.fieldLink RX5 35 "TriggerNetwork$Network" "nodeDistances" "[I" ∈ wsX5_distanceFromNode := x_w 1 rfl
  unfold f_X5_distanceFromNode at h
  obtain ⟨g1, h⟩ := xgd_of h
  refine lv_iload_n X.1.1 X.1.2.1 dX5_distanceFromNode_0 rfl (lv_at hl 1 rfl) ?_
  refine x_bipush X dX5_distanceFromNode_1 (by decide) ?_
  refine x_imul X dX5_distanceFromNode_3 ?_
  refine lv_iload_n X.1.1 X.1.2.1 dX5_distanceFromNode_4 rfl (lv_at hl 2 rfl) ?_
  refine x_iadd X dX5_distanceFromNode_5 ?_
  refine x_name (fun x3_2 ex3_2 => ?_)
  replace h := xlet_at ex3_2 h
  refine lv_istore_n (lv' := [(3, .int (iI x3_2)), (0, .ref (t.2.2.1 k0)), (1, .int (iI x1)), (2, .int (iI x2))]) X.1.1 X.1.2.1 dX5_distanceFromNode_6 rfl hl (by decide) rfl (fun ls hl => ?_)
  refine lv_iload_n X.1.1 X.1.2.1 dX5_distanceFromNode_7 rfl (lv_at hl 0 rfl) ?_
  obtain ⟨g3, h⟩ := xgd_of h
  refine x_if_lt (tgt := 29) X g3 dX5_distanceFromNode_8 (by decide) (fun c4 => ?_) (fun c4 => ?_)
  · replace h := xif_t h c4
    refine x_iconst X dX5_distanceFromNode_29 ?_
    cases h
    exact hret _ _ _ _ dX5_distanceFromNode_30 rfl hG hS
  · replace h := xif_f h c4
    refine lv_iload_n X.1.1 X.1.2.1 dX5_distanceFromNode_11 rfl (lv_at hl 0 rfl) ?_
    refine lv_aload_n X.1.1 X.1.2.1 dX5_distanceFromNode_12 rfl (lv_at hl 1 rfl) ?_
    refine x_getr X hG 9 14 k0 8 (inC := iX5) rfl g1.1 g1.2 ⟨by decide, by decide, by decide, rfl, by decide, by decide⟩ w1 dX5_distanceFromNode_13 ?_
    refine x_alen X hG (fx_9_14 g1).1 (fx_9_14 g1).2.1 (n := 1152) (fx_9_14 g1).2.2 dX5_distanceFromNode_16 ?_
    obtain ⟨g5, h⟩ := xgd_of h
    refine x_icmp_ge (tgt := 29) X g5 ⟨by decide, by decide⟩ dX5_distanceFromNode_17 (by decide) (fun c6 => ?_) (fun c6 => ?_)
    · replace h := xif_t h c6
      refine x_iconst X dX5_distanceFromNode_29 ?_
      cases h
      exact hret _ _ _ _ dX5_distanceFromNode_30 rfl hG hS
    · replace h := xif_f h c6
      refine lv_aload_n X.1.1 X.1.2.1 dX5_distanceFromNode_20 rfl (lv_at hl 1 rfl) ?_
      refine x_getr X hG 9 14 k0 8 (inC := iX5) rfl g1.1 g1.2 ⟨by decide, by decide, by decide, rfl, by decide, by decide⟩ w1 dX5_distanceFromNode_21 ?_
      refine lv_iload_n X.1.1 X.1.2.1 dX5_distanceFromNode_24 rfl (lv_at hl 0 rfl) ?_
      obtain ⟨g7, h⟩ := xgd_of h
      refine x_iald X hG (fx_9_14 g1).1 (fx_9_14 g1).2.1 (n := 1152) (fx_9_14 g1).2.2 g7 (by decide) dX5_distanceFromNode_25 ?_
      refine lv_goto (tgt := 30) X.1.1 X.1.2.1 dX5_distanceFromNode_26 (by decide) ?_
      cases h
      exact hret _ _ _ _ dX5_distanceFromNode_30 rfl hG hS
theorem hd_X5_distanceFromNode : yX5_distanceFromNode.cls = RX5 ∧ yX5_distanceFromNode.cls ≠ "java/lang/invoke/MethodHandle" ∧ yX5_distanceFromNode.cls ≠ "java/lang/invoke/VarHandle" ∧ (parseMethodDescriptor yX5_distanceFromNode.desc).map (fun d => d.parameters.length) = some 2 := by decide +kernel
abbrev rX5_travelFromNode : Room := { frames := 1, cells := 0, slots := 0, locals := 23 }
set_option maxRecDepth 100000 in
set_option maxHeartbeats 8000000 in
theorem c_X5_travelFromNode (l : Launch) (t : gP) (k0 : Nat) (x1 : Int) (x2 : Int) (u : uS) (r : Int) (u' : uS) (h : f_X5_travelFromNode k0 x1 x2 u = some (r, u')) : xMi l yX5_travelFromNode wsX5_travelFromNode rX5_travelFromNode t [.ref (t.2.2.1 k0), .int (iI x1), .int (iI x2)] u r u' 0 0 := by
  refine x_ofWi (cc := cX5_travelFromNode) (maxL := 3) (ret := .int) (own := RX5) (by decide) rfl rfl (Nat.le_of_ble_eq_true rfl) ?_
  intro p e s m args below meth c Q X hret H locs ls hG hS hl
  replace hl : lv_has ls 3 [(0, .ref (t.2.2.1 k0)), (1, .int (iI x1)), (2, .int (iI x2))] := hl
  unfold f_X5_travelFromNode at h
  obtain ⟨g1, h⟩ := xgd_of h
  refine lv_aload_n X.1.1 X.1.2.1 dX5_travelFromNode_0 rfl (lv_at hl 0 rfl) ?_
  refine lv_aload_n X.1.1 X.1.2.1 dX5_travelFromNode_1 rfl (lv_at hl 0 rfl) ?_
  refine lv_iload_n X.1.1 X.1.2.1 dX5_travelFromNode_2 rfl (lv_at hl 1 rfl) ?_
  refine lv_iload_n X.1.1 X.1.2.1 dX5_travelFromNode_3 rfl (lv_at hl 2 rfl) ?_
  obtain ⟨v2, u3, hf, h⟩ := xbd_of h
  refine x_callVi0 X hG hS (c_X5_distanceFromNode l t _ _ _ _ _ _ hf) (cwV 2 X.1.2.2.2.2 gX5_travelFromNode_X5_distanceFromNode rfl rfl rfl hd_X5_distanceFromNode ⟨Nat.le_of_ble_eq_true rfl, Nat.le_of_ble_eq_true rfl⟩) g1.1 g1.2 rfl (by decide) (by rfl) hl.1 (Nat.le_of_ble_eq_true rfl) dX5_travelFromNode_4 ⟨by decide, by decide⟩ rfl (fun H locs hG hS => ?_)
  obtain ⟨v4, u5, hf, h⟩ := xbd_of h
  refine x_callVi0 X hG hS (c_X5_travelOver l t _ _ _ _ _ hf) (cwV 1 X.1.2.2.2.2 gX5_travelFromNode_X5_travelOver rfl rfl rfl hd_X5_travelOver ⟨Nat.le_of_ble_eq_true rfl, Nat.le_of_ble_eq_true rfl⟩) g1.1 g1.2 rfl (by decide) (by rfl) hl.1 (Nat.le_of_ble_eq_true rfl) dX5_travelFromNode_7 ⟨by decide, by decide⟩ rfl (fun H locs hG hS => ?_)
  cases h
  exact hret _ _ _ _ dX5_travelFromNode_10 rfl hG hS
theorem hd_X5_travelFromNode : yX5_travelFromNode.cls = RX5 ∧ yX5_travelFromNode.cls ≠ "java/lang/invoke/MethodHandle" ∧ yX5_travelFromNode.cls ≠ "java/lang/invoke/VarHandle" ∧ (parseMethodDescriptor yX5_travelFromNode.desc).map (fun d => d.parameters.length) = some 2 := by decide +kernel
abbrev rX6_magnitudeOf : Room := { frames := 0, cells := 0, slots := 0, locals := 0 }
set_option maxRecDepth 100000 in
set_option maxHeartbeats 8000000 in
theorem c_X6_magnitudeOf (l : Launch) (t : gP) (k0 : Nat) (x1 : Int) (u : uS) (r : Int) (u' : uS) (h : f_X6_magnitudeOf k0 x1 u = some (r, u')) : xMi l yX6_magnitudeOf wsX6_magnitudeOf rX6_magnitudeOf t [.ref (t.2.2.1 k0), .int (iI x1)] u r u' 0 0 := by
  refine x_ofWi (cc := cX6_magnitudeOf) (maxL := 4) (ret := .int) (own := RX6) (by decide) rfl rfl (Nat.le_of_ble_eq_true rfl) ?_
  intro p e s m args below meth c Q X hret H locs ls hG hS hl
  replace hl : lv_has ls 4 [(0, .ref (t.2.2.1 k0)), (1, .int (iI x1))] := hl
  have iX6 : ∀ w ∈ wsX60, w ∈ wsX6_magnitudeOf := by decide +kernel
  have w1 : Cond.fieldLink RX6 18 "TriggerNetwork$Rungs" "count" "I" ∈ wsX6_magnitudeOf := x_w 1 rfl
  have w2 : Cond.fieldLink RX6 9 "TriggerNetwork$Rungs" "amplitudes" "[I" ∈ wsX6_magnitudeOf := x_w 2 rfl
  have w3 : Cond.fieldLink RX6 15 "TriggerNetwork$Rungs" "magnitudes" "[I" ∈ wsX6_magnitudeOf := x_w 3 rfl
  unfold f_X6_magnitudeOf at h
  obtain ⟨g1, h⟩ := xgd_of h
  refine x_iconst X dX6_magnitudeOf_0 ?_
  refine lv_istore_n (lv' := [(2, .int (iI (-1))), (0, .ref (t.2.2.1 k0)), (1, .int (iI x1))]) X.1.1 X.1.2.1 dX6_magnitudeOf_1 rfl hl (by decide) rfl (fun ls hl => ?_)
  refine x_iconst X dX6_magnitudeOf_2 ?_
  refine lv_istore_n (lv' := [(3, .int (iI 0)), (2, .int (iI (-1))), (0, .ref (t.2.2.1 k0)), (1, .int (iI x1))]) X.1.1 X.1.2.1 dX6_magnitudeOf_3 rfl hl (by decide) rfl (fun ls hl => ?_)
  have Lgo2 : ∀ (n : Nat) (x2_3 : Int) (x3_4 : Int) (u5 : uS), xl3 (s_X6_magnitudeOf_4 k0 x1) n x2_3 x3_4 u5 = some (r, u') → xG p l e rX6_magnitudeOf s m args below meth c t Q 4 0 0 4 u5 [(2, .int (iI x2_3)), (3, .int (iI x3_4)), (0, .ref (t.2.2.1 k0)), (1, .int (iI x1))] [] := by
    intro n x2_3 x3_4 u5 h
    refine xl3_W (F := s_X6_magnitudeOf_4 k0 x1) (fun x2_3 x3_4 u5 q => q = (r, u') → xG p l e rX6_magnitudeOf s m args below meth c t Q 4 0 0 4 u5 [(2, .int (iI x2_3)), (3, .int (iI x3_4)), (0, .ref (t.2.2.1 k0)), (1, .int (iI x1))] []) ?_ n x2_3 x3_4 u5 _ h rfl
    intro go2 igo2 x2_3 x3_4 u5 q h hq H locs ls hG hS hl
    subst hq
    unfold s_X6_magnitudeOf_4 at h
    refine lv_iload_n X.1.1 X.1.2.1 dX6_magnitudeOf_4 rfl (lv_at hl 1 rfl) ?_
    refine lv_aload_n X.1.1 X.1.2.1 dX6_magnitudeOf_5 rfl (lv_at hl 2 rfl) ?_
    refine x_geti X hG 10 0 k0 0 (inC := iX6) rfl g1.1 g1.2 ⟨by decide, by decide, by decide, rfl, rfl⟩ w1 dX6_magnitudeOf_6 ?_
    obtain ⟨g6, h⟩ := xgd_of h
    refine x_icmp_ge (tgt := 41) X g6.1 g6.2 dX6_magnitudeOf_9 (by decide) (fun c7 => ?_) (fun c7 => ?_)
    · replace h := xif_t h c7
      refine lv_iload_n X.1.1 X.1.2.1 dX6_magnitudeOf_41 rfl (lv_at hl 0 rfl) ?_
      cases h
      exact hret _ _ _ _ dX6_magnitudeOf_42 rfl hG hS
    · replace h := xif_f h c7
      refine lv_iload_n X.1.1 X.1.2.1 dX6_magnitudeOf_12 rfl (lv_at hl 1 rfl) ?_
      refine x_bipush X dX6_magnitudeOf_13 (by decide) ?_
      obtain ⟨g8, h⟩ := xgd_of h
      refine x_icmp_ge (tgt := 41) X g8 ⟨by decide, by decide⟩ dX6_magnitudeOf_15 (by decide) (fun c9 => ?_) (fun c9 => ?_)
      · replace h := xif_t h c9
        refine lv_iload_n X.1.1 X.1.2.1 dX6_magnitudeOf_41 rfl (lv_at hl 0 rfl) ?_
        cases h
        exact hret _ _ _ _ dX6_magnitudeOf_42 rfl hG hS
      · replace h := xif_f h c9
        refine lv_aload_n X.1.1 X.1.2.1 dX6_magnitudeOf_18 rfl (lv_at hl 2 rfl) ?_
        refine x_getr X hG 10 1 k0 1 (inC := iX6) rfl g1.1 g1.2 ⟨by decide, by decide, by decide, rfl, by decide, by decide⟩ w2 dX6_magnitudeOf_19 ?_
        refine lv_iload_n X.1.1 X.1.2.1 dX6_magnitudeOf_22 rfl (lv_at hl 1 rfl) ?_
        obtain ⟨g10, h⟩ := xgd_of h
        refine x_iald X hG (fx_10_1 g1).1 (fx_10_1 g1).2.1 (n := 8) (fx_10_1 g1).2.2 g10 (by decide) dX6_magnitudeOf_23 ?_
        refine lv_iload_n X.1.1 X.1.2.1 dX6_magnitudeOf_24 rfl (lv_at hl 3 rfl) ?_
        obtain ⟨g11, h⟩ := xgd_of h
        refine x_icmp_gt (tgt := 35) X g11.1 g11.2 dX6_magnitudeOf_25 (by decide) (fun c12 => ?_) (fun c12 => ?_)
        · replace h := xif_t h c12
          refine lv_iinc (v := (iI (x3_4 + 1))) (lv' := [(3, .int (iI (x3_4 + 1))), (2, .int (iI x2_3)), (0, .ref (t.2.2.1 k0)), (1, .int (iI x1))]) X.1.1 X.1.2.1 dX6_magnitudeOf_35 hl (k := 1) rfl (iI_add _ _) (by decide) rfl (fun ls hl => ?_)
          refine lv_goto (tgt := 4) X.1.1 X.1.2.1 dX6_magnitudeOf_38 (by decide) ?_
          exact igo2 _ _ _ _ h rfl _ _ _ hG hS (lv_sub hl [1, 0, 2, 3] rfl)
        · replace h := xif_f h c12
          refine lv_aload_n X.1.1 X.1.2.1 dX6_magnitudeOf_28 rfl (lv_at hl 2 rfl) ?_
          refine x_getr X hG 10 2 k0 2 (inC := iX6) rfl g1.1 g1.2 ⟨by decide, by decide, by decide, rfl, by decide, by decide⟩ w3 dX6_magnitudeOf_29 ?_
          refine lv_iload_n X.1.1 X.1.2.1 dX6_magnitudeOf_32 rfl (lv_at hl 1 rfl) ?_
          obtain ⟨g13, h⟩ := xgd_of h
          refine x_iald X hG (fx_10_2 g1).1 (fx_10_2 g1).2.1 (n := 8) (fx_10_2 g1).2.2 g13 (by decide) dX6_magnitudeOf_33 ?_
          refine x_name (fun x2_14 ex2_14 => ?_)
          replace h := xlet_at ex2_14 h
          refine lv_istore_n (lv' := [(2, .int (iI x2_14)), (3, .int (iI x3_4)), (0, .ref (t.2.2.1 k0)), (1, .int (iI x1))]) X.1.1 X.1.2.1 dX6_magnitudeOf_34 rfl hl (by decide) rfl (fun ls hl => ?_)
          refine lv_iinc (v := (iI (x3_4 + 1))) (lv' := [(3, .int (iI (x3_4 + 1))), (2, .int (iI x2_14)), (0, .ref (t.2.2.1 k0)), (1, .int (iI x1))]) X.1.1 X.1.2.1 dX6_magnitudeOf_35 hl (k := 1) rfl (iI_add _ _) (by decide) rfl (fun ls hl => ?_)
          refine lv_goto (tgt := 4) X.1.1 X.1.2.1 dX6_magnitudeOf_38 (by decide) ?_
          exact igo2 _ _ _ _ h rfl _ _ _ hG hS (lv_sub hl [1, 0, 2, 3] rfl)
  exact Lgo2 FU _ _ _ h _ _ _ hG hS (lv_sub hl [1, 0, 2, 3] rfl)
theorem hd_X6_magnitudeOf : yX6_magnitudeOf.cls = RX6 ∧ yX6_magnitudeOf.cls ≠ "java/lang/invoke/MethodHandle" ∧ yX6_magnitudeOf.cls ≠ "java/lang/invoke/VarHandle" ∧ (parseMethodDescriptor yX6_magnitudeOf.desc).map (fun d => d.parameters.length) = some 1 := by decide +kernel
abbrev rX9_copyRow : Room := { frames := 1, cells := 0, slots := 0, locals := 60 }
set_option maxRecDepth 100000 in
set_option maxHeartbeats 8000000 in
theorem c_X9_copyRow (l : Launch) (t : gP) (k0 : Nat) (k1 : Nat) (u : uS) (r : Int) (u' : uS) (h : f_X9_copyRow k0 k1 u = some (r, u')) : xMv l yX9_copyRow wsX9_copyRow rX9_copyRow t [.ref (t.2.2.1 k0), .ref (t.2.2.1 k1)] u u' 0 0 := by
  refine x_ofWv (cc := cX9_copyRow) (maxL := 2) (own := RX9) (by decide) rfl rfl (Nat.le_of_ble_eq_true rfl) ?_
  intro p e s m args below meth c Q X hret H locs ls hG hS hl
  replace hl : lv_has ls 2 [(0, .ref (t.2.2.1 k0)), (1, .ref (t.2.2.1 k1))] := hl
  have w1 : Cond.methodLink RX9 386 Lib.Math.min.name ∈ wsX9_copyRow := x_w 1 rfl
  have w2 : Cond.static Lib.Math.min.name ∈ wsX9_copyRow := x_w 2 rfl
  have w3 : Cond.initialized "java/lang/Math" ∈ wsX9_copyRow := x_w 3 rfl
  have w4 : Cond.code Lib.Math.min.name Lib.Math.min.code 2 (some .int) ∈ wsX9_copyRow := x_w 4 rfl
  have w5 : Cond.methodLink RX9 391 arraycopyName ∈ wsX9_copyRow := x_w 5 rfl
  have w6 : Cond.native arraycopyName ∈ wsX9_copyRow := x_w 6 rfl
  have w7 : Cond.static arraycopyName ∈ wsX9_copyRow := x_w 7 rfl
  have w8 : Cond.initialized "java/lang/System" ∈ wsX9_copyRow := x_w 8 rfl
  unfold f_X9_copyRow at h
  obtain ⟨g1, h⟩ := xgd_of h
  refine lv_aload_n X.1.1 X.1.2.1 dX9_copyRow_0 rfl (lv_at hl 0 rfl) ?_
  refine x_iconst X dX9_copyRow_1 ?_
  refine lv_aload_n X.1.1 X.1.2.1 dX9_copyRow_2 rfl (lv_at hl 1 rfl) ?_
  refine x_iconst X dX9_copyRow_3 ?_
  refine lv_aload_n X.1.1 X.1.2.1 dX9_copyRow_4 rfl (lv_at hl 0 rfl) ?_
  refine x_alen X hG (arr_f g1.1).1 (arr_f g1.1).2.1 (arr_f g1.1).2.2 dX9_copyRow_5 ?_
  refine lv_aload_n X.1.1 X.1.2.1 dX9_copyRow_6 rfl (lv_at hl 1 rfl) ?_
  refine x_alen X hG (arr_f g1.2).1 (arr_f g1.2).2.1 (arr_f g1.2).2.2 dX9_copyRow_7 ?_
  obtain ⟨g2, h⟩ := xgd_of h
  refine x_mmin (R := rX9_copyRow) X g2.1 g2.2 hl.1 w1 w2 w3 w4 (by decide) (by decide) dX9_copyRow_8 (Nat.le_of_ble_eq_true rfl) ⟨by decide, by decide⟩ ?_
  obtain ⟨g3, h⟩ := xgd_of h
  refine x_acopy (R := rX9_copyRow) X hG hS (arr_f g1.1).1 (arr_f g1.1).2.1 (arr_f g1.2).1 (arr_f g1.2).2.1 hl.1 w5 w6 w7 w8 g3.1 g3.2 (by decide) (by decide) dX9_copyRow_11 (Nat.le_of_ble_eq_true rfl) (fun H locs hG hS => ?_)
  obtain ⟨u4, eu4, h⟩ := xlet_of h
  replace hG : G t u4 H := by rw [eu4]; exact hG
  cases h
  exact hret _ _ _ _ dX9_copyRow_14 hG hS
theorem hds_X9_copyRow : yX9_copyRow.cls ≠ "java/lang/invoke/MethodHandle" ∧ yX9_copyRow.cls ≠ "java/lang/invoke/VarHandle" ∧ (parseMethodDescriptor yX9_copyRow.desc).map (fun d => d.parameters.length) = some 2 := by decide +kernel
