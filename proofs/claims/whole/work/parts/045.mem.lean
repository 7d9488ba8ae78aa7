abbrev rX4_forget : Room := { frames := 0, cells := 0, slots := 0, locals := 0 }
set_option maxRecDepth 100000 in
set_option maxHeartbeats 8000000 in
theorem c_X4_forget (l : Launch) (t : gP) (u : uS) (r : Int) (u' : uS) (h : f_X4_forget u = some (r, u')) : xMv l yX4_forget wsX4_forget rX4_forget t [.ref (t.2.2.1 33)] u u' 0 0 := by
  refine x_ofWv (cc := cX4_forget) (maxL := 2) (own := RX4) (by decide) rfl rfl (Nat.le_of_ble_eq_true rfl) ?_
  intro p e s m args below meth c Q X hret H locs ls hG hS hl
  replace hl : lv_has ls 2 [(0, .ref (t.2.2.1 33))] := hl
  have q33 : 33 < NN ∧ sT 33 = 8 := by decide
  have iX4 : ∀ w ∈ wsX40, w ∈ wsX4_forget := by decide +kernel
  have w1 : Cond.fieldLink RX4 28 "TriggerNetwork$Memory" "count" "I" ∈ wsX4_forget := x_w 1 rfl
  have w2 : Cond.fieldLink RX4 20 "TriggerNetwork$Memory" "filled" "[Z" ∈ wsX4_forget := x_w 2 rfl
  have q36 : 36 < NN ∧ sT 36 = 101 ∧ sN 36 = 2 := by decide
  unfold f_X4_forget at h
  refine lv_aload_n X.1.1 X.1.2.1 dX4_forget_0 rfl (lv_at hl 0 rfl) ?_
  refine x_iconst X dX4_forget_1 ?_
  refine x_puti X hG hS 8 4 33 4 _ tyX4 tyX4_ok nmX4 (inC := iX4) rfl q33.1 q33.2 ⟨by decide, by decide, by decide, rfl, rfl⟩ rfl (by decide +kernel) w1 dX4_forget_2 (fun H locs hG hS => ?_)
  obtain ⟨u1, eu1, h⟩ := xlet_of h
  replace hG : G t u1 H := by rw [eu1]; exact hG
  refine x_iconst X dX4_forget_5 ?_
  refine lv_istore_n (lv' := [(1, .int (iI 0)), (0, .ref (t.2.2.1 33))]) X.1.1 X.1.2.1 dX4_forget_6 rfl hl (by decide) rfl (fun ls hl => ?_)
  have Lgo2 : ∀ (n : Nat) (x1_3 : Int) (u4 : uS), xl2 (s_X4_forget_7) n x1_3 u4 = some (r, u') → xG p l e rX4_forget s m args below meth c t Q 2 0 0 7 u4 [(1, .int (iI x1_3)), (0, .ref (t.2.2.1 33))] [] := by
    intro n x1_3 u4 h
    refine xl2_W (F := s_X4_forget_7) (fun x1_3 u4 q => q = (r, u') → xG p l e rX4_forget s m args below meth c t Q 2 0 0 7 u4 [(1, .int (iI x1_3)), (0, .ref (t.2.2.1 33))] []) ?_ n x1_3 u4 _ h rfl
    intro go2 igo2 x1_3 u4 q h hq H locs ls hG hS hl
    subst hq
    unfold s_X4_forget_7 at h
    refine lv_iload_n X.1.1 X.1.2.1 dX4_forget_7 rfl (lv_at hl 0 rfl) ?_
    refine x_iconst X dX4_forget_8 ?_
    obtain ⟨g5, h⟩ := xgd_of h
    refine x_icmp_ge (tgt := 25) X g5 ⟨by decide, by decide⟩ dX4_forget_9 (by decide) (fun c6 => ?_) (fun c6 => ?_)
    · replace h := xif_t h c6
      cases h
      exact hret _ _ _ _ dX4_forget_25 hG hS
    · replace h := xif_f h c6
      refine lv_aload_n X.1.1 X.1.2.1 dX4_forget_12 rfl (lv_at hl 1 rfl) ?_
      refine x_getr X hG 8 2 33 3 (inC := iX4) rfl q33.1 q33.2 ⟨by decide, by decide, by decide, rfl, by decide, by decide⟩ w2 dX4_forget_13 ?_
      refine lv_iload_n X.1.1 X.1.2.1 dX4_forget_16 rfl (lv_at hl 0 rfl) ?_
      refine x_iconst X dX4_forget_17 ?_
      obtain ⟨g7, h⟩ := xgd_of h
      refine x_zast X hG hS q36.1 q36.2.1 (n := 2) q36.2.2 g7 (by decide) (by decide) dX4_forget_18 (fun H locs hG hS => ?_)
      obtain ⟨u8, eu8, h⟩ := xlet_of h
      replace hG : G t u8 H := by rw [eu8]; exact hG
      refine lv_iinc (v := (iI (x1_3 + 1))) (lv' := [(1, .int (iI (x1_3 + 1))), (0, .ref (t.2.2.1 33))]) X.1.1 X.1.2.1 dX4_forget_19 hl (k := 0) rfl (iI_add _ _) (by decide) rfl (fun ls hl => ?_)
      refine lv_goto (tgt := 7) X.1.1 X.1.2.1 dX4_forget_22 (by decide) ?_
      exact igo2 _ _ _ h rfl _ _ _ hG hS (lv_sub hl [0, 1] rfl)
  exact Lgo2 FU _ _ h _ _ _ hG hS (lv_sub hl [0, 1] rfl)
theorem hd_X4_forget : yX4_forget.cls = RX4 ∧ yX4_forget.cls ≠ "java/lang/invoke/MethodHandle" ∧ yX4_forget.cls ≠ "java/lang/invoke/VarHandle" ∧ (parseMethodDescriptor yX4_forget.desc).map (fun d => d.parameters.length) = some 0 := by decide +kernel
abbrev rX4_remember : Room := { frames := 3, cells := 0, slots := 0, locals := 102 }
set_option maxRecDepth 100000 in
set_option maxHeartbeats 8000000 in
theorem c_X4_remember (l : Launch) (t : gP) (k1 : Nat) (u : uS) (r : Int) (u' : uS) (h : f_X4_remember k1 u = some (r, u')) : xMv l yX4_remember wsX4_remember rX4_remember t [.ref (t.2.2.1 33), .ref (t.2.2.1 k1)] u u' 0 0 := by
  refine x_ofWv (cc := cX4_remember) (maxL := 3) (own := RX4) (by decide) rfl rfl (Nat.le_of_ble_eq_true rfl) ?_
  intro p e s m args below meth c Q X hret H locs ls hG hS hl
  replace hl : lv_has ls 3 [(0, .ref (t.2.2.1 33)), (1, .ref (t.2.2.1 k1))] := hl
  have q33 : 33 < NN ∧ sT 33 = 8 := by decide
  have iX4 : ∀ w ∈ wsX40, w ∈ wsX4_remember := by decide +kernel
  have w1 : Cond.fieldLink RX4 11 "TriggerNetwork$Memory" "undone" "[LTriggerNetwork$Situation;" ∈ wsX4_remember := x_w 1 rfl
  have q34 : 34 < NN ∧ sT 34 = 104 ∧ sN 34 = 10 := by decide
  have w2 : Cond.fieldLink RX4 24 "TriggerNetwork$Memory" "next" "I" ∈ wsX4_remember := x_w 2 rfl
  have w3 : Cond.fieldLink RX4 28 "TriggerNetwork$Memory" "count" "I" ∈ wsX4_remember := x_w 3 rfl
  have w4 : Cond.methodLink RX4 36 Lib.Math.min.name ∈ wsX4_remember := x_w 4 rfl
  have w5 : Cond.static Lib.Math.min.name ∈ wsX4_remember := x_w 5 rfl
  have w6 : Cond.initialized "java/lang/Math" ∈ wsX4_remember := x_w 6 rfl
  have w7 : Cond.code Lib.Math.min.name Lib.Math.min.code 2 (some .int) ∈ wsX4_remember := x_w 7 rfl
  unfold f_X4_remember at h
  obtain ⟨g1, h⟩ := xgd_of h
  refine lv_aload_n X.1.1 X.1.2.1 dX4_remember_0 rfl (lv_at hl 0 rfl) ?_
  refine x_getr X hG 8 0 33 1 (inC := iX4) rfl q33.1 q33.2 ⟨by decide, by decide, by decide, rfl, by decide, by decide⟩ w1 dX4_remember_1 ?_
  refine lv_aload_n X.1.1 X.1.2.1 dX4_remember_4 rfl (lv_at hl 0 rfl) ?_
  refine x_geti X hG 8 3 33 3 (inC := iX4) rfl q33.1 q33.2 ⟨by decide, by decide, by decide, rfl, rfl⟩ w2 dX4_remember_5 ?_
  obtain ⟨g2, h⟩ := xgd_of h
  obtain ⟨n3, en3, h⟩ := xlet_of h
  refine x_aald X hG q34.1 q34.2.1 (n := 10) (b := 84) q34.2.2 rfl g2 (by decide) dX4_remember_8 ?_
  rw [← en3]
  obtain ⟨g4, h⟩ := xgd_of h
  refine lv_astore_n (lv' := [(2, .ref (t.2.2.1 n3)), (0, .ref (t.2.2.1 33)), (1, .ref (t.2.2.1 k1))]) X.1.1 X.1.2.1 dX4_remember_9 rfl hl (by decide) rfl (fun ls hl => ?_)
  refine lv_aload_n X.1.1 X.1.2.1 dX4_remember_10 rfl (lv_at hl 0 rfl) ?_
  refine lv_ifnull X.1.1 X.1.2.1 dX4_remember_11 ?_
  refine lv_aload_n X.1.1 X.1.2.1 dX4_remember_14 rfl (lv_at hl 0 rfl) ?_
  refine lv_aload_n X.1.1 X.1.2.1 dX4_remember_15 rfl (lv_at hl 2 rfl) ?_
  obtain ⟨v5, u6, hf, h⟩ := xbd_of h
  refine x_callVv0 X hG hS (c_X7_copyFrom l t _ _ _ _ _ hf) (cwV 1 X.1.2.2.2.2 gX4_remember_X7_copyFrom rfl rfl rfl hd_X7_copyFrom ⟨Nat.le_of_ble_eq_true rfl, Nat.le_of_ble_eq_true rfl⟩) g4.1 g4.2 rfl (by decide) (by rfl) hl.1 (Nat.le_of_ble_eq_true rfl) dX4_remember_16 ⟨by decide, by decide⟩ rfl (fun H locs hG hS => ?_)
  refine lv_aload_n X.1.1 X.1.2.1 dX4_remember_19 rfl (lv_at hl 1 rfl) ?_
  refine lv_aload_n X.1.1 X.1.2.1 dX4_remember_20 rfl (lv_at hl 1 rfl) ?_
  refine x_geti X hG 8 3 33 3 (inC := iX4) rfl q33.1 q33.2 ⟨by decide, by decide, by decide, rfl, rfl⟩ w2 dX4_remember_21 ?_
  refine x_iconst X dX4_remember_24 ?_
  refine x_iadd X dX4_remember_25 ?_
  refine x_bipush X dX4_remember_26 (by decide) ?_
  obtain ⟨g7, h⟩ := xgd_of h
  refine x_irem X g7 ⟨by decide, by decide⟩ (by decide) dX4_remember_28 ?_
  refine x_puti X hG hS 8 3 33 3 _ tyX4 tyX4_ok nmX4 (inC := iX4) rfl q33.1 q33.2 ⟨by decide, by decide, by decide, rfl, rfl⟩ rfl (by decide +kernel) w2 dX4_remember_29 (fun H locs hG hS => ?_)
  obtain ⟨u8, eu8, h⟩ := xlet_of h
  replace hG : G t u8 H := by rw [eu8]; exact hG
  refine lv_aload_n X.1.1 X.1.2.1 dX4_remember_32 rfl (lv_at hl 1 rfl) ?_
  refine lv_aload_n X.1.1 X.1.2.1 dX4_remember_33 rfl (lv_at hl 1 rfl) ?_
  refine x_geti X hG 8 4 33 4 (inC := iX4) rfl q33.1 q33.2 ⟨by decide, by decide, by decide, rfl, rfl⟩ w3 dX4_remember_34 ?_
  refine x_iconst X dX4_remember_37 ?_
  refine x_iadd X dX4_remember_38 ?_
  refine x_bipush X dX4_remember_39 (by decide) ?_
  obtain ⟨g9, h⟩ := xgd_of h
  refine x_mmin (R := rX4_remember) X g9 ⟨by decide, by decide⟩ hl.1 w4 w5 w6 w7 (by decide) (by decide) dX4_remember_41 (Nat.le_of_ble_eq_true rfl) ⟨by decide, by decide⟩ ?_
  refine x_puti X hG hS 8 4 33 4 _ tyX4 tyX4_ok nmX4 (inC := iX4) rfl q33.1 q33.2 ⟨by decide, by decide, by decide, rfl, rfl⟩ rfl (by decide +kernel) w3 dX4_remember_44 (fun H locs hG hS => ?_)
  obtain ⟨u10, eu10, h⟩ := xlet_of h
  replace hG : G t u10 H := by rw [eu10]; exact hG
  cases h
  exact hret _ _ _ _ dX4_remember_47 hG hS
theorem hd_X4_remember : yX4_remember.cls = RX4 ∧ yX4_remember.cls ≠ "java/lang/invoke/MethodHandle" ∧ yX4_remember.cls ≠ "java/lang/invoke/VarHandle" ∧ (parseMethodDescriptor yX4_remember.desc).map (fun d => d.parameters.length) = some 1 := by decide +kernel
abbrev rX4_takeBack : Room := { frames := 3, cells := 0, slots := 0, locals := 102 }
set_option maxRecDepth 100000 in
set_option maxHeartbeats 8000000 in
theorem c_X4_takeBack (l : Launch) (t : gP) (k1 : Nat) (u : uS) (r : Int) (u' : uS) (h : f_X4_takeBack k1 u = some (r, u')) : xMi l yX4_takeBack wsX4_takeBack rX4_takeBack t [.ref (t.2.2.1 33), .ref (t.2.2.1 k1)] u r u' 0 0 := by
  refine x_ofWi (cc := cX4_takeBack) (maxL := 3) (ret := .int) (own := RX4) (by decide) rfl rfl (Nat.le_of_ble_eq_true rfl) ?_
  intro p e s m args below meth c Q X hret H locs ls hG hS hl
  replace hl : lv_has ls 3 [(0, .ref (t.2.2.1 33)), (1, .ref (t.2.2.1 k1))] := hl
  have q33 : 33 < NN ∧ sT 33 = 8 := by decide
  have iX4 : ∀ w ∈ wsX40, w ∈ wsX4_takeBack := by decide +kernel
  have w1 : Cond.fieldLink RX4 28 "TriggerNetwork$Memory" "count" "I" ∈ wsX4_takeBack := x_w 1 rfl
  have w2 : Cond.fieldLink RX4 24 "TriggerNetwork$Memory" "next" "I" ∈ wsX4_takeBack := x_w 2 rfl
  have w3 : Cond.fieldLink RX4 11 "TriggerNetwork$Memory" "undone" "[LTriggerNetwork$Situation;" ∈ wsX4_takeBack := x_w 3 rfl
  have q34 : 34 < NN ∧ sT 34 = 104 ∧ sN 34 = 10 := by decide
  unfold f_X4_takeBack at h
  obtain ⟨g1, h⟩ := xgd_of h
  refine lv_aload_n X.1.1 X.1.2.1 dX4_takeBack_0 rfl (lv_at hl 0 rfl) ?_
  refine x_geti X hG 8 4 33 4 (inC := iX4) rfl q33.1 q33.2 ⟨by decide, by decide, by decide, rfl, rfl⟩ w1 dX4_takeBack_1 ?_
  obtain ⟨g2, h⟩ := xgd_of h
  refine x_if_ne (tgt := 9) X g2 dX4_takeBack_4 (by decide) (fun c3 => ?_) (fun c3 => ?_)
  · replace h := xif_f h c3
    refine lv_aload_n X.1.1 X.1.2.1 dX4_takeBack_9 rfl (lv_at hl 0 rfl) ?_
    refine lv_aload_n X.1.1 X.1.2.1 dX4_takeBack_10 rfl (lv_at hl 0 rfl) ?_
    refine x_geti X hG 8 3 33 3 (inC := iX4) rfl q33.1 q33.2 ⟨by decide, by decide, by decide, rfl, rfl⟩ w2 dX4_takeBack_11 ?_
    refine x_bipush X dX4_takeBack_14 (by decide) ?_
    refine x_iadd X dX4_takeBack_16 ?_
    refine x_iconst X dX4_takeBack_17 ?_
    refine x_isub X dX4_takeBack_18 ?_
    refine x_bipush X dX4_takeBack_19 (by decide) ?_
    obtain ⟨g4, h⟩ := xgd_of h
    refine x_irem X g4 ⟨by decide, by decide⟩ (by decide) dX4_takeBack_21 ?_
    refine x_puti X hG hS 8 3 33 3 _ tyX4 tyX4_ok nmX4 (inC := iX4) rfl q33.1 q33.2 ⟨by decide, by decide, by decide, rfl, rfl⟩ rfl (by decide +kernel) w2 dX4_takeBack_22 (fun H locs hG hS => ?_)
    obtain ⟨u5, eu5, h⟩ := xlet_of h
    replace hG : G t u5 H := by rw [eu5]; exact hG
    refine lv_aload_n X.1.1 X.1.2.1 dX4_takeBack_25 rfl (lv_at hl 0 rfl) ?_
    refine lv_dup X.1.1 X.1.2.1 dX4_takeBack_26 rfl ?_
    refine x_geti X hG 8 4 33 4 (inC := iX4) rfl q33.1 q33.2 ⟨by decide, by decide, by decide, rfl, rfl⟩ w1 dX4_takeBack_27 ?_
    refine x_iconst X dX4_takeBack_30 ?_
    refine x_isub X dX4_takeBack_31 ?_
    refine x_puti X hG hS 8 4 33 4 _ tyX4 tyX4_ok nmX4 (inC := iX4) rfl q33.1 q33.2 ⟨by decide, by decide, by decide, rfl, rfl⟩ rfl (by decide +kernel) w1 dX4_takeBack_32 (fun H locs hG hS => ?_)
    obtain ⟨u6, eu6, h⟩ := xlet_of h
    replace hG : G t u6 H := by rw [eu6]; exact hG
    refine lv_aload_n X.1.1 X.1.2.1 dX4_takeBack_35 rfl (lv_at hl 0 rfl) ?_
    refine x_getr X hG 8 0 33 1 (inC := iX4) rfl q33.1 q33.2 ⟨by decide, by decide, by decide, rfl, by decide, by decide⟩ w3 dX4_takeBack_36 ?_
    refine lv_aload_n X.1.1 X.1.2.1 dX4_takeBack_39 rfl (lv_at hl 0 rfl) ?_
    refine x_geti X hG 8 3 33 3 (inC := iX4) rfl q33.1 q33.2 ⟨by decide, by decide, by decide, rfl, rfl⟩ w2 dX4_takeBack_40 ?_
    obtain ⟨g7, h⟩ := xgd_of h
    obtain ⟨n8, en8, h⟩ := xlet_of h
    refine x_aald X hG q34.1 q34.2.1 (n := 10) (b := 84) q34.2.2 rfl g7 (by decide) dX4_takeBack_43 ?_
    rw [← en8]
    obtain ⟨g9, h⟩ := xgd_of h
    refine lv_astore_n (lv' := [(2, .ref (t.2.2.1 n8)), (0, .ref (t.2.2.1 33)), (1, .ref (t.2.2.1 k1))]) X.1.1 X.1.2.1 dX4_takeBack_44 rfl hl (by decide) rfl (fun ls hl => ?_)
    refine lv_aload_n X.1.1 X.1.2.1 dX4_takeBack_45 rfl (lv_at hl 0 rfl) ?_
    refine lv_ifnull X.1.1 X.1.2.1 dX4_takeBack_46 ?_
    refine lv_aload_n X.1.1 X.1.2.1 dX4_takeBack_49 rfl (lv_at hl 2 rfl) ?_
    refine lv_aload_n X.1.1 X.1.2.1 dX4_takeBack_50 rfl (lv_at hl 0 rfl) ?_
    obtain ⟨v10, u11, hf, h⟩ := xbd_of h
    refine x_callVv0 X hG hS (c_X7_copyFrom l t _ _ _ _ _ hf) (cwV 1 X.1.2.2.2.2 gX4_takeBack_X7_copyFrom rfl rfl rfl hd_X7_copyFrom ⟨Nat.le_of_ble_eq_true rfl, Nat.le_of_ble_eq_true rfl⟩) g1.1 g1.2 rfl (by decide) (by rfl) hl.1 (Nat.le_of_ble_eq_true rfl) dX4_takeBack_51 ⟨by decide, by decide⟩ rfl (fun H locs hG hS => ?_)
    refine lv_aload_n X.1.1 X.1.2.1 dX4_takeBack_54 rfl (lv_at hl 1 rfl) ?_
    refine x_geti X hG 8 4 33 4 (inC := iX4) rfl q33.1 q33.2 ⟨by decide, by decide, by decide, rfl, rfl⟩ w1 dX4_takeBack_55 ?_
    cases h
    exact hret _ _ _ _ dX4_takeBack_58 rfl hG hS
  · replace h := xif_t h c3
    refine x_iconst X dX4_takeBack_7 ?_
    cases h
    exact hret _ _ _ _ dX4_takeBack_8 rfl hG hS
theorem hd_X4_takeBack : yX4_takeBack.cls = RX4 ∧ yX4_takeBack.cls ≠ "java/lang/invoke/MethodHandle" ∧ yX4_takeBack.cls ≠ "java/lang/invoke/VarHandle" ∧ (parseMethodDescriptor yX4_takeBack.desc).map (fun d => d.parameters.length) = some 1 := by decide +kernel
abbrev rX4_store : Room := { frames := 3, cells := 0, slots := 0, locals := 102 }
set_option maxRecDepth 100000 in
set_option maxHeartbeats 8000000 in
theorem c_X4_store (l : Launch) (t : gP) (x1 : Int) (k2 : Nat) (u : uS) (r : Int) (u' : uS) (h : f_X4_store x1 k2 u = some (r, u')) : xMi l yX4_store wsX4_store rX4_store t [.ref (t.2.2.1 33), .int (iI x1), .ref (t.2.2.1 k2)] u r u' 0 0 := by
  refine x_ofWi (cc := cX4_store) (maxL := 5) (ret := .boolean) (own := RX4) (by decide) rfl rfl (Nat.le_of_ble_eq_true rfl) ?_
  intro p e s m args below meth c Q X hret H locs ls hG hS hl
  replace hl : lv_has ls 5 [(0, .ref (t.2.2.1 33)), (1, .int (iI x1)), (2, .ref (t.2.2.1 k2))] := hl
  have q33 : 33 < NN ∧ sT 33 = 8 := by decide
  have iX4 : ∀ w ∈ wsX40, w ∈ wsX4_store := by decide +kernel
  have w1 : Cond.fieldLink RX4 20 "TriggerNetwork$Memory" "filled" "[Z" ∈ wsX4_store := x_w 1 rfl
  have q36 : 36 < NN ∧ sT 36 = 101 ∧ sN 36 = 2 := by decide
  have w2 : Cond.fieldLink RX4 17 "TriggerNetwork$Memory" "slots" "[LTriggerNetwork$Situation;" ∈ wsX4_store := x_w 2 rfl
  have q35 : 35 < NN ∧ sT 35 = 104 ∧ sN 35 = 2 := by decide
  unfold f_X4_store at h
  obtain ⟨g1, h⟩ := xgd_of h
  refine lv_aload_n X.1.1 X.1.2.1 dX4_store_0 rfl (lv_at hl 0 rfl) ?_
  refine x_getr X hG 8 2 33 3 (inC := iX4) rfl q33.1 q33.2 ⟨by decide, by decide, by decide, rfl, by decide, by decide⟩ w1 dX4_store_1 ?_
  refine lv_iload_n X.1.1 X.1.2.1 dX4_store_4 rfl (lv_at hl 1 rfl) ?_
  obtain ⟨g2, h⟩ := xgd_of h
  refine x_zald X hG q36.1 q36.2.1 (n := 2) q36.2.2 g2 (by decide) dX4_store_5 ?_
  refine x_name (fun x3_3 ex3_3 => ?_)
  replace h := xlet_at ex3_3 h
  refine lv_istore_n (lv' := [(3, .int (iI x3_3)), (0, .ref (t.2.2.1 33)), (1, .int (iI x1)), (2, .ref (t.2.2.1 k2))]) X.1.1 X.1.2.1 dX4_store_6 rfl hl (by decide) rfl (fun ls hl => ?_)
  refine lv_aload_n X.1.1 X.1.2.1 dX4_store_7 rfl (lv_at hl 1 rfl) ?_
  refine x_getr X hG 8 1 33 2 (inC := iX4) rfl q33.1 q33.2 ⟨by decide, by decide, by decide, rfl, by decide, by decide⟩ w2 dX4_store_8 ?_
  refine lv_iload_n X.1.1 X.1.2.1 dX4_store_11 rfl (lv_at hl 2 rfl) ?_
  obtain ⟨g4, h⟩ := xgd_of h
  obtain ⟨n5, en5, h⟩ := xlet_of h
  refine x_aald X hG q35.1 q35.2.1 (n := 2) (b := 234) q35.2.2 rfl g4 (by decide) dX4_store_12 ?_
  rw [← en5]
  obtain ⟨g6, h⟩ := xgd_of h
  refine lv_astore (lv' := [(4, .ref (t.2.2.1 n5)), (3, .int (iI x3_3)), (0, .ref (t.2.2.1 33)), (1, .int (iI x1)), (2, .ref (t.2.2.1 k2))]) X.1.1 X.1.2.1 dX4_store_13 hl (by decide) rfl (fun ls hl => ?_)
  refine lv_aload X.1.1 X.1.2.1 dX4_store_15 (lv_at hl 0 rfl) ?_
  refine lv_ifnull X.1.1 X.1.2.1 dX4_store_17 ?_
  refine lv_aload X.1.1 X.1.2.1 dX4_store_20 (lv_at hl 0 rfl) ?_
  refine lv_aload_n X.1.1 X.1.2.1 dX4_store_22 rfl (lv_at hl 4 rfl) ?_
  obtain ⟨v7, u8, hf, h⟩ := xbd_of h
  refine x_callVv0 X hG hS (c_X7_copyFrom l t _ _ _ _ _ hf) (cwV 1 X.1.2.2.2.2 gX4_store_X7_copyFrom rfl rfl rfl hd_X7_copyFrom ⟨Nat.le_of_ble_eq_true rfl, Nat.le_of_ble_eq_true rfl⟩) g6.1 g6.2 rfl (by decide) (by rfl) hl.1 (Nat.le_of_ble_eq_true rfl) dX4_store_23 ⟨by decide, by decide⟩ rfl (fun H locs hG hS => ?_)
  refine lv_aload_n X.1.1 X.1.2.1 dX4_store_26 rfl (lv_at hl 2 rfl) ?_
  refine x_getr X hG 8 2 33 3 (inC := iX4) rfl q33.1 q33.2 ⟨by decide, by decide, by decide, rfl, by decide, by decide⟩ w1 dX4_store_27 ?_
  refine lv_iload_n X.1.1 X.1.2.1 dX4_store_30 rfl (lv_at hl 3 rfl) ?_
  refine x_iconst X dX4_store_31 ?_
  obtain ⟨g9, h⟩ := xgd_of h
  refine x_zast X hG hS q36.1 q36.2.1 (n := 2) q36.2.2 g9 (by decide) (by decide) dX4_store_32 (fun H locs hG hS => ?_)
  obtain ⟨u10, eu10, h⟩ := xlet_of h
  replace hG : G t u10 H := by rw [eu10]; exact hG
  refine lv_iload_n X.1.1 X.1.2.1 dX4_store_33 rfl (lv_at hl 1 rfl) ?_
  obtain ⟨g11, h⟩ := xgd_of h
  cases h
  exact hret _ _ _ _ dX4_store_34 (nz_of g11) hG hS
theorem hd_X4_store : yX4_store.cls = RX4 ∧ yX4_store.cls ≠ "java/lang/invoke/MethodHandle" ∧ yX4_store.cls ≠ "java/lang/invoke/VarHandle" ∧ (parseMethodDescriptor yX4_store.desc).map (fun d => d.parameters.length) = some 2 := by decide +kernel
abbrev rX4_fetch : Room := { frames := 3, cells := 0, slots := 0, locals := 102 }
set_option maxRecDepth 100000 in
set_option maxHeartbeats 8000000 in
theorem c_X4_fetch (l : Launch) (t : gP) (x1 : Int) (k2 : Nat) (u : uS) (r : Int) (u' : uS) (h : f_X4_fetch x1 k2 u = some (r, u')) : xMv l yX4_fetch wsX4_fetch rX4_fetch t [.ref (t.2.2.1 33), .int (iI x1), .ref (t.2.2.1 k2)] u u' 0 0 := by
  refine x_ofWv (cc := cX4_fetch) (maxL := 4) (own := RX4) (by decide) rfl rfl (Nat.le_of_ble_eq_true rfl) ?_
  intro p e s m args below meth c Q X hret H locs ls hG hS hl
  replace hl : lv_has ls 4 [(0, .ref (t.2.2.1 33)), (1, .int (iI x1)), (2, .ref (t.2.2.1 k2))] := hl
  have q33 : 33 < NN ∧ sT 33 = 8 := by decide
  have iX4 : ∀ w ∈ wsX40, w ∈ wsX4_fetch := by decide +kernel
  have w1 : Cond.fieldLink RX4 17 "TriggerNetwork$Memory" "slots" "[LTriggerNetwork$Situation;" ∈ wsX4_fetch := x_w 1 rfl
  have q35 : 35 < NN ∧ sT 35 = 104 ∧ sN 35 = 2 := by decide
  have w2 : Cond.fieldLink RX4 28 "TriggerNetwork$Memory" "count" "I" ∈ wsX4_fetch := x_w 2 rfl
  unfold f_X4_fetch at h
  obtain ⟨g1, h⟩ := xgd_of h
  refine lv_aload_n X.1.1 X.1.2.1 dX4_fetch_0 rfl (lv_at hl 0 rfl) ?_
  refine x_getr X hG 8 1 33 2 (inC := iX4) rfl q33.1 q33.2 ⟨by decide, by decide, by decide, rfl, by decide, by decide⟩ w1 dX4_fetch_1 ?_
  refine lv_iload_n X.1.1 X.1.2.1 dX4_fetch_4 rfl (lv_at hl 1 rfl) ?_
  obtain ⟨g2, h⟩ := xgd_of h
  obtain ⟨n3, en3, h⟩ := xlet_of h
  refine x_aald X hG q35.1 q35.2.1 (n := 2) (b := 234) q35.2.2 rfl g2 (by decide) dX4_fetch_5 ?_
  rw [← en3]
  obtain ⟨g4, h⟩ := xgd_of h
  refine lv_astore_n (lv' := [(3, .ref (t.2.2.1 n3)), (0, .ref (t.2.2.1 33)), (1, .int (iI x1)), (2, .ref (t.2.2.1 k2))]) X.1.1 X.1.2.1 dX4_fetch_6 rfl hl (by decide) rfl (fun ls hl => ?_)
  refine lv_aload_n X.1.1 X.1.2.1 dX4_fetch_7 rfl (lv_at hl 0 rfl) ?_
  refine lv_ifnull X.1.1 X.1.2.1 dX4_fetch_8 ?_
  refine lv_aload_n X.1.1 X.1.2.1 dX4_fetch_11 rfl (lv_at hl 3 rfl) ?_
  refine lv_aload_n X.1.1 X.1.2.1 dX4_fetch_12 rfl (lv_at hl 0 rfl) ?_
  obtain ⟨v5, u6, hf, h⟩ := xbd_of h
  refine x_callVv0 X hG hS (c_X7_copyFrom l t _ _ _ _ _ hf) (cwV 1 X.1.2.2.2.2 gX4_fetch_X7_copyFrom rfl rfl rfl hd_X7_copyFrom ⟨Nat.le_of_ble_eq_true rfl, Nat.le_of_ble_eq_true rfl⟩) g1.1 g1.2 rfl (by decide) (by rfl) hl.1 (Nat.le_of_ble_eq_true rfl) dX4_fetch_13 ⟨by decide, by decide⟩ rfl (fun H locs hG hS => ?_)
  refine lv_aload_n X.1.1 X.1.2.1 dX4_fetch_16 rfl (lv_at hl 1 rfl) ?_
  refine x_iconst X dX4_fetch_17 ?_
  refine x_puti X hG hS 8 4 33 4 _ tyX4 tyX4_ok nmX4 (inC := iX4) rfl q33.1 q33.2 ⟨by decide, by decide, by decide, rfl, rfl⟩ rfl (by decide +kernel) w2 dX4_fetch_18 (fun H locs hG hS => ?_)
  obtain ⟨u7, eu7, h⟩ := xlet_of h
  replace hG : G t u7 H := by rw [eu7]; exact hG
  cases h
  exact hret _ _ _ _ dX4_fetch_21 hG hS
theorem hd_X4_fetch : yX4_fetch.cls = RX4 ∧ yX4_fetch.cls ≠ "java/lang/invoke/MethodHandle" ∧ yX4_fetch.cls ≠ "java/lang/invoke/VarHandle" ∧ (parseMethodDescriptor yX4_fetch.desc).map (fun d => d.parameters.length) = some 2 := by decide +kernel
