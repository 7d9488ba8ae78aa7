abbrev rX4_forget : Room := { frames := 0, cells := 0, slots := 0, locals := 0 }
set_option maxRecDepth 100000 in
set_option maxHeartbeats 8000000 in
theorem c_X4_forget (l : Launch) (t : gP) (u : uS) (r : Int) (u' : uS) (h : f_X4_forget u = some (r, u')) : xMv l yX4_forget wsX4_forget rX4_forget t [.ref (t.2.2.1 33)] u u' 0 0 := by
  refine x_ofWv (cc := cX4_forget) (maxL := 2) (own := RX4) (by decide) rfl rfl (Nat.le_of_ble_eq_true rfl) ?_
  intro p e s m args below meth c Q X hret H locs ls hG hS hl
  replace hl : lv_has ls 2 [(0, .ref (t.2.2.1 33))] := hl
  have q33 : 33 < NN ∧ sT 33 = 8 := by decide
  have iX4 : ∀ w ∈ wsX40, w ∈ wsX4_forget := by decide +kernel
  have w1 : Cond.fieldLink RX4 28 "TriggerNetwork$Memory" "count" "I" ∈ wsX4_forget := x_w 1 rfl
  have w2 : Cond.fieldLink RX4 20 "TriggerNetwork$Memory" "filled" "[Z" ∈ wsX4_forget := x_w 2 rfl
  have q36 : 36 < NN ∧ sT 36 = 101 ∧ sN 36 = 2 := by decide
  unfold f_X4_forget at h
  refine lv_aload_n X.1.1 X.1.2.1 dX4_forget_0 rfl (lv_at hl 0 rfl) ?_
  refine x_iconst X dX4_forget_1 ?_
  refine x_puti X hG hS 8 4 33 4 _ tyX4 tyX4_ok nmX4 (inC := iX4) rfl q33.1 q33.2 ⟨by decide, by decide, by decide, rfl, rfl⟩ rfl (by decide +kernel) w1 dX4_forget_2 (fun H locs hG hS => ?_)
  obtain ⟨u1, eu1, h⟩ := xlet_of h
  replace hG : G t u1 H := by rw [eu1]; exact hG
  refine x_iconst X dX4_forget_5 ?_
  refine lv_istore_n (lv' := [(1, .int (iI 0)), (0, .ref (t.2.2.1 33))]) X.1.1 X.1.2.1 dX4_forget_6 rfl hl (by decide) rfl (fun ls hl => ?_)
  have Lgo2 : ∀ (n : Nat) (x1_3 : Int) (u4 : uS), xl2 (s_X4_forget_7) n x1_3 u4 = some (r, u') → xG p l e rX4_forget s m args below meth c t Q 2 0 0 7 u4 [(1, .int (iI x1_3)), (0, .ref (t.2.2.1 33))] [] := by
    intro n x1_3 u4 h
    refine xl2_W (F := s_X4_forget_7) (fun x1_3 u4 q => q = (r, u') → xG p l e rX4_forget s m args below meth c t Q 2 0 0 7 u4 [(1, .int (iI x1_3)), (0, .ref (t.2.2.1 33))] []) ?_ n x1_3 u4 _ h rfl
    intro go2 igo2 x1_3 u4 q h hq H locs ls hG hS hl
    subst hq
    unfold s_X4_forget_7 at h
    refine lv_iload_n X.1.1 X.1.2.1 dX4_forget_7 rfl (lv_at hl 0 rfl) ?_
    refine x_iconst X dX4_forget_8 ?_
    obtain ⟨g5, h⟩ := xgd_of h
    refine x_icmp_ge (tgt := 25) X g5 ⟨by decide, by decide⟩ dX4_forget_9 (by decide) (fun c6 => ?_) (fun c6 => ?_)
    · replace h := xif_t h c6
      cases h
      exact hret _ _ _ _ dX4_forget_25 hG hS
    · replace h := xif_f h c6
      refine lv_aload_n X.1.1 X.1.2.1 dX4_forget_12 rfl (lv_at hl 1 rfl) ?_
      refine x_getr X hG 8 2 33 3 (inC := iX4) rfl q33.1 q33.2 ⟨by decide, by decide, by decide, rfl, by decide, by decide⟩ w2 dX4_forget_13 ?_
      refine lv_iload_n X.1.1 X.1.2.1 dX4_forget_16 rfl (lv_at hl 0 rfl) ?_
      refine x_iconst X dX4_forget_17 ?_
      obtain ⟨g7, h⟩ := xgd_of h
      refine x_zast X hG hS q36.1 q36.2.1 (n := 2) q36.2.2 g7 (by decide) (by decide) dX4_forget_18 (fun H locs hG hS => ?_)
      obtain ⟨u8, eu8, h⟩ := xlet_of h
      replace hG : G t u8 H := by rw [eu8]; exact hG
      refine lv_iinc (v := (iI (x1_3 + 1))) (lv' := [(1, .int (iI (x1_3 + 1))), (0, .ref (t.2.2.1 33))]) X.1.1 X.1.2.1 dX4_forget_19 hl (k := 0) rfl (iI_add _ _) (by decide) rfl (fun ls hl => ?_)
      refine lv_goto (tgt := 7) X.1.1 X.1.2.1 dX4_forget_22 (by decide) ?_
      exact igo2 _ _ _ h rfl _ _ _ hG hS (lv_sub hl [0, 1] rfl)
  exact Lgo2 FU _ _ h _ _ _ hG hS (lv_sub hl [0, 1] rfl)
theorem hd_X4_forget : yX4_forget.cls = RX4 ∧ yX4_forget.cls ≠ "java/lang/invoke/MethodHandle" ∧ yX4_forget.cls ≠ "java/lang/invoke/VarHandle" ∧ (parseMethodDescriptor yX4_forget.desc).map (fun d => d.parameters.length) = some 0 := by decide +kernel
abbrev rX4_remember : Room := { frames := 3, cells := 0, slots := 0, locals := 102 }
set_option maxRecDepth 100000 in
set_option maxHeartbeats 8000000 in
theorem c_X4_remember (l : Launch) (t : gP) (k1 : Nat) (u : uS) (r : Int) (u' : uS) (h : f_X4_remember k1 u = some (r, u')) : xMv l yX4_remember wsX4_remember rX4_remember t [.ref (t.2.2.1 33), .ref (t.2.2.1 k1)] u u' 0 0 := by
  refine x_ofWv (cc := cX4_remember) (maxL := 3) (own := RX4) (by decide) rfl rfl (Nat.le_of_ble_eq_true rfl) ?_
  intro p e s m args below meth c Q X hret H locs ls hG hS hl
  replace hl : lv_has ls 3 [(0, .ref (t.2.2.1 33)), (1, .ref (t.2.2.1 k1))] := hl
  have q33 : 33 < NN ∧ sT 33 = 8 := by decide
  have iX4 : ∀ w ∈ wsX40, w ∈ wsX4_remember := by decide +kernel
  have w1 : Cond.fieldLink RX4 11 "TriggerNetwork$Memory" "undone" "[LTriggerNetwork$Situation;" ∈ wsX4_remember := x_w 1 rfl
  have q34 : 34 < NN ∧ sT 34 = 104 ∧ sN 34 = 10 := by decide
  have w2 : Cond.fieldLink RX4 24 "TriggerNetwork$Memory" "next" "I" ∈ wsX4_remember := x_w 2 rfl
  have w3 : Cond.fieldLink RX4 28 "TriggerNetwork$Memory" "count" "I" ∈ wsX4_remember := x_w 3 rfl
  have w4 : Cond.methodLink RX4 36 Lib.Math.min.name ∈ wsX4_remember := x_w 4 rfl
  have w5 : Cond.static Lib.Math.min.name ∈ wsX4_remember := x_w 5 rfl
  have w6 : Cond.initialized "java/lang/Math" ∈ wsX4_remember := x_w 6 rfl
  have w7 : Cond.code Lib.Math.min.name Lib.Math.min.code 2 (some .int) ∈ wsX4_remember := x_w 7 rfl
  unfold f_X4_remember at h
  obtain ⟨g1, h⟩ := xgd_of h
  refine lv_aload_n X.1.1 X.1.2.1 dX4_remember_0 rfl (lv_at hl 0 rfl) ?_
  refine x_getr X hG 8 0 33 1 (inC := iX4) rfl q33.1 q33.2 ⟨by decide, by decide, by decide, rfl, by decide, by decide⟩ w1 dX4_remember_1 ?_
  refine lv_aload_n X.1.1 X.1.2.1 dX4_remember_4 rfl (lv_at hl 0 rfl) ?_
  refine x_geti X hG 8 3 33 3 (inC := iX4) rfl q33.1 q33.2 ⟨by decide, by decide, by decide, rfl, rfl⟩ w2 dX4_remember_5 ?_
  obtain ⟨g2, h⟩ := xgd_of h
  obtain ⟨n3, en3, h⟩ := xlet_of h
  refine x_aald X hG q34.1 q34.2.1 (n := 10) (b := 84) q34.2.2 rfl g2 (by decide) dX4_remember_8 ?_
  rw [← en3]
  obtain ⟨g4, h⟩ := xgd_of h
  refine lv_astore_n (lv' := [(2, .ref (t.2.2.1 n3)), (0, .ref (t.2.2.1 33)), (1, .ref (t.2.2.1 k1))]) X.1.1 X.1.2.1 dX4_remember_9 rfl hl (by decide) rfl (fun ls hl => ?_)
  refine lv_aload_n X.1.1 X.1.2.1 dX4_remember_10 rfl (lv_at hl 0 rfl) ?_
  refine lv_ifnull X.1.1 X.1.2.1 dX4_remember_11 ?_
  refine lv_aload_n X.1.1 X.1.2.1 dX4_remember_14 rfl (lv_at hl 0 rfl) ?_
  refine lv_aload_n X.1.1 X.1.2.1 dX4_remember_15 rfl (lv_at hl 2 rfl) ?_
  obtain ⟨v5, u6, hf, h⟩ := xbd_of h
  refine x_callVv0 X hG hS (c_X7_copyFrom l t _ _ _ _ _ hf) (cwV 1 X.1.2.2.2.2 gX4_remember_X7_copyFrom rfl rfl rfl hd_X7_copyFrom ⟨Nat.le_of_ble_eq_true rfl, Nat.le_of_ble_eq_true rfl⟩) g4.1 g4.2 rfl (by decide) (by rfl) hl.1 (Nat.le_of_ble_eq_true rfl) dX4_remember_16 ⟨by decide, by decide⟩ rfl (fun H locs hG hS => ?_)
  refine lv_aload_n X.1.1 X.1.2.1 dX4_remember_19 rfl (lv_at hl 1 rfl) ?_
  refine lv_aload_n X.1.1 X.1.2.1 dX4_remember_20 rfl (lv_at hl 1 rfl) ?_
  refine x_geti X hG 8 3 33 3 (inC := iX4) rfl q33.1 q33.2 ⟨by decide, by decide, by decide, rfl, rfl⟩ w2 dX4_remember_21 ?_
  refine x_iconst X dX4_remember_24 ?_
  refine x_iadd X dX4_remember_25 ?_
  refine x_bipush X dX4_remember_26 (by decide) ?_
  obtain ⟨g7, h⟩ := xgd_of h
  refine x_irem X g7 ⟨by decide, by decide⟩ (by decide) dX4_remember_28 ?_
  refine x_puti X hG hS 8 3 33 3 _ tyX4 tyX4_ok nmX4 (inC := iX4) rfl q33.1 q33.2 ⟨by decide, by decide, by decide, rfl, rfl⟩ rfl (by decide +kernel) w2 dX4_remember_29 (fun H locs hG hS => ?_)
  obtain ⟨u8, eu8, h⟩ := xlet_of h
  replace hG : G t u8 H := by rw [eu8]; exact hG
  refine lv_aload_n X.1.1 X.1.2.1 dX4_remember_32 rfl (lv_at hl 1 rfl) ?_
  refine lv_aload_n X.1.1 X.1.2.1 dX4_remember_33 rfl (lv_at hl 1 rfl) ?_
  refine x_geti X hG 8 4 33 4 (inC := iX4) rfl q33.1 q33.2 ⟨by decide, by decide, by decide, rfl, rfl⟩ w3 dX4_remember_34 ?_
  refine x_iconst X dX4_remember_37 ?_
  refine x_iadd X dX4_remember_38 ?_
  refine x_bipush X dX4_remember_39 (by decide) ?_
  obtain ⟨g9, h⟩ := xgd_of h
  refine x_mmin (R := rX4_remember) X g9 ⟨by decide, by decide⟩ hl.1 w4 w5 w6 w7 (by decide) (by decide) dX4_remember_41 (Nat.le_of_ble_eq_true rfl) ⟨by decide, by decide⟩ ?_
  refine x_puti X hG hS 8 4 33 4 _ tyX4 tyX4_ok nmX4 (inC := iX4) rfl q33.1 q33.2 ⟨by decide, by decide, by decide, rfl, rfl⟩ rfl (by decide +kernel) w3 dX4_remember_44 (fun H locs hG hS => ?_)
  obtain ⟨u10, eu10, h⟩ := xlet_of h
  replace hG : G t u10 H := by rw [eu10]; exact hG
  cases h
  exact hret _ _ _ _ dX4_remember_47 hG hS
theorem hd_X4_remember : yX4_remember.cls = RX4 ∧ yX4_remember.cls ≠ "java/lang/invoke/MethodHandle" ∧ yX4_remember.cls ≠ "java/lang/invoke/VarHandle" ∧ (parseMethodDescriptor yX4_remember.desc).map (fun d => d.parameters.length) = some 1 := by decide +kernel
