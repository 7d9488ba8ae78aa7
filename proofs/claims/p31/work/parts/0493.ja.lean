abbrev rJ5_length_8abf5 : Room := { frames := 0, cells := 0, slots := 0, locals := 0 }
set_option maxRecDepth 100000 in
set_option maxHeartbeats 8000000 in
theorem c_J5_length_8abf5 (l : Launch) (t : gP) (u : uS) (r : Int) (u' : uS) (h : f_J5_length_8abf5 u = some (r, u')) : xMi l yJ5_length_8abf5 wsJ5_length_8abf5 rJ5_length_8abf5 t [.ref (t.2.2.1 37)] u r u' 0 0 := by
  refine x_ofWi (cc := cJ5_length_8abf5) (maxL := 1) (ret := .int) (own := RJ5) (by decide) rfl rfl (Nat.le_of_ble_eq_true rfl) ?_
  intro p e s m args below meth c Q X hret H locs ls hG hS hl
  replace hl : lv_has ls 1 [(0, .ref (t.2.2.1 37))] := hl
  have q37 : 37 < NN ∧ sT 37 = 1 := by decide
  have iJ4 : ∀ w ∈ wsJ40, w ∈ wsJ5_length_8abf5 := by decide +kernel
  have w1 : Cond.fieldLink RJ5 79 "java/lang/AbstractStringBuilder" "count" "I" ∈ wsJ5_length_8abf5 := x_w 1 rfl
  unfold f_J5_length_8abf5 at h
  refine lv_aload_n X.1.1 X.1.2.1 dJ5_length_8abf5_0 rfl (lv_at hl 0 rfl) ?_
  refine x_geti X hG 1 3 37 3 (inC := iJ4) rfl q37.1 q37.2 ⟨by decide, by decide, by decide, rfl, rfl⟩ w1 dJ5_length_8abf5_1 ?_
  cases h
  exact hret _ _ _ _ dJ5_length_8abf5_4 rfl hG hS
theorem hd_J5_length_8abf5 : yJ5_length_8abf5.cls = RJ5 ∧ yJ5_length_8abf5.cls ≠ "java/lang/invoke/MethodHandle" ∧ yJ5_length_8abf5.cls ≠ "java/lang/invoke/VarHandle" ∧ (parseMethodDescriptor yJ5_length_8abf5.desc).map (fun d => d.parameters.length) = some 0 := by decide +kernel
abbrev rJ5_isLatin1_aae02 : Room := { frames := 0, cells := 0, slots := 0, locals := 0 }
set_option maxRecDepth 100000 in
set_option maxHeartbeats 8000000 in
theorem c_J5_isLatin1_aae02 (l : Launch) (t : gP) (u : uS) (r : Int) (u' : uS) (h : f_J5_isLatin1_aae02 u = some (r, u')) : xMi l yJ5_isLatin1_aae02 wsJ5_isLatin1_aae02 rJ5_isLatin1_aae02 t [.ref (t.2.2.1 37)] u r u' 0 0 := by
  refine x_ofWi (cc := cJ5_isLatin1_aae02) (maxL := 1) (ret := .boolean) (own := RJ5) (by decide) rfl rfl (Nat.le_of_ble_eq_true rfl) ?_
  intro p e s m args below meth c Q X hret H locs ls hG hS hl
  replace hl : lv_has ls 1 [(0, .ref (t.2.2.1 37))] := hl
  have q37 : 37 < NN ∧ sT 37 = 1 := by decide
  have w1 : Cond.fieldLink RJ5 18 "java/lang/String" "COMPACT_STRINGS" "Z" ∈ wsJ5_isLatin1_aae02 := x_w 1 rfl
  have iJ4 : ∀ w ∈ wsJ40, w ∈ wsJ5_isLatin1_aae02 := by decide +kernel
  have w2 : Cond.fieldLink RJ5 22 "java/lang/AbstractStringBuilder" "coder" "B" ∈ wsJ5_isLatin1_aae02 := x_w 2 rfl
  unfold f_J5_isLatin1_aae02 at h
  refine va_gets X.1.1 X.1.2.1 X.2.2.1.2.2.1.1 hS X.1.2.2.2.1 (X.1.2.2.2.2 _ w1) (fun _ h9 => h9) dJ5_isLatin1_aae02_0 ?_
  refine x_one ?_
  refine x_if_eq (tgt := 17) X ⟨by decide, by decide⟩ dJ5_isLatin1_aae02_3 (by decide) (fun c1 => ?_) (fun c1 => ?_)
  · replace h := xif_t h c1
    refine x_iconst X dJ5_isLatin1_aae02_17 ?_
    cases h
    exact hret _ _ _ _ dJ5_isLatin1_aae02_18 (by decide) hG hS
  · replace h := xif_f h c1
    refine lv_aload_n X.1.1 X.1.2.1 dJ5_isLatin1_aae02_6 rfl (lv_at hl 0 rfl) ?_
    refine x_geti X hG 1 1 37 1 (inC := iJ4) rfl q37.1 q37.2 ⟨by decide, by decide, by decide, rfl, rfl⟩ w2 dJ5_isLatin1_aae02_7 ?_
    obtain ⟨g2, h⟩ := xgd_of h
    refine x_if_ne (tgt := 17) X g2 dJ5_isLatin1_aae02_10 (by decide) (fun c3 => ?_) (fun c3 => ?_)
    · replace h := xif_f h c3
      refine x_iconst X dJ5_isLatin1_aae02_17 ?_
      cases h
      exact hret _ _ _ _ dJ5_isLatin1_aae02_18 (by decide) hG hS
    · replace h := xif_t h c3
      refine x_iconst X dJ5_isLatin1_aae02_13 ?_
      refine lv_goto (tgt := 18) X.1.1 X.1.2.1 dJ5_isLatin1_aae02_14 (by decide) ?_
      cases h
      exact hret _ _ _ _ dJ5_isLatin1_aae02_18 (by decide) hG hS
theorem hd_J5_isLatin1_aae02 : yJ5_isLatin1_aae02.cls = RJ5 ∧ yJ5_isLatin1_aae02.cls ≠ "java/lang/invoke/MethodHandle" ∧ yJ5_isLatin1_aae02.cls ≠ "java/lang/invoke/VarHandle" ∧ (parseMethodDescriptor yJ5_isLatin1_aae02.desc).map (fun d => d.parameters.length) = some 0 := by decide +kernel
abbrev rJ1_canEncode_fc78d : Room := { frames := 0, cells := 0, slots := 0, locals := 0 }
set_option maxRecDepth 100000 in
set_option maxHeartbeats 8000000 in
theorem c_J1_canEncode_fc78d (l : Launch) (t : gP) (x0 : Int) (u : uS) (r : Int) (u' : uS) (h : f_J1_canEncode_fc78d x0 u = some (r, u')) : xMi l yJ1_canEncode_fc78d wsJ1_canEncode_fc78d rJ1_canEncode_fc78d t [.int (iI x0)] u r u' 0 0 := by
  refine x_ofWi (cc := cJ1_canEncode_fc78d) (maxL := 1) (ret := .boolean) (own := RJ1) (by decide) rfl rfl (Nat.le_of_ble_eq_true rfl) ?_
  intro p e s m args below meth c Q X hret H locs ls hG hS hl
  replace hl : lv_has ls 1 [(0, .int (iI x0))] := hl
  unfold f_J1_canEncode_fc78d at h
  refine lv_iload_n X.1.1 X.1.2.1 dJ1_canEncode_fc78d_0 rfl (lv_at hl 0 rfl) ?_
  refine x_sipush X dJ1_canEncode_fc78d_1 (by decide) ?_
  obtain ⟨g1, h⟩ := xgd_of h
  refine x_icmp_gt (tgt := 11) X g1 ⟨by decide, by decide⟩ dJ1_canEncode_fc78d_4 (by decide) (fun c2 => ?_) (fun c2 => ?_)
  · replace h := xif_t h c2
    refine x_iconst X dJ1_canEncode_fc78d_11 ?_
    cases h
    exact hret _ _ _ _ dJ1_canEncode_fc78d_12 (by decide) hG hS
  · replace h := xif_f h c2
    refine x_iconst X dJ1_canEncode_fc78d_7 ?_
    refine lv_goto (tgt := 12) X.1.1 X.1.2.1 dJ1_canEncode_fc78d_8 (by decide) ?_
    cases h
    exact hret _ _ _ _ dJ1_canEncode_fc78d_12 (by decide) hG hS
theorem hds_J1_canEncode_fc78d : yJ1_canEncode_fc78d.cls ≠ "java/lang/invoke/MethodHandle" ∧ yJ1_canEncode_fc78d.cls ≠ "java/lang/invoke/VarHandle" ∧ (parseMethodDescriptor yJ1_canEncode_fc78d.desc).map (fun d => d.parameters.length) = some 1 := by decide +kernel
abbrev rJ8_newLength_cabcc : Room := { frames := 1, cells := 0, slots := 0, locals := 60 }
set_option maxRecDepth 100000 in
set_option maxHeartbeats 8000000 in
theorem c_J8_newLength_cabcc (l : Launch) (t : gP) (x0 : Int) (x1 : Int) (x2 : Int) (u : uS) (r : Int) (u' : uS) (h : f_J8_newLength_cabcc x0 x1 x2 u = some (r, u')) : xMi l yJ8_newLength_cabcc wsJ8_newLength_cabcc rJ8_newLength_cabcc t [.int (iI x0), .int (iI x1), .int (iI x2)] u r u' 0 0 := by
  refine x_ofWi (cc := cJ8_newLength_cabcc) (maxL := 4) (ret := .int) (own := RJ8) (by decide) rfl rfl (Nat.le_of_ble_eq_true rfl) ?_
  intro p e s m args below meth c Q X hret H locs ls hG hS hl
  replace hl : lv_has ls 4 [(0, .int (iI x0)), (1, .int (iI x1)), (2, .int (iI x2))] := hl
  have w1 : Cond.methodLink RJ8 194 Lib.Math.max.name ∈ wsJ8_newLength_cabcc := x_w 1 rfl
  have w2 : Cond.static Lib.Math.max.name ∈ wsJ8_newLength_cabcc := x_w 2 rfl
  have w3 : Cond.initialized "java/lang/Math" ∈ wsJ8_newLength_cabcc := x_w 3 rfl
  have w4 : Cond.code Lib.Math.max.name Lib.Math.max.code 2 (some .int) ∈ wsJ8_newLength_cabcc := x_w 4 rfl
  have w5 : Cond.constant RJ8 200 (2147483639) ∈ wsJ8_newLength_cabcc := x_w 5 rfl
  unfold f_J8_newLength_cabcc at h
  refine lv_iload_n X.1.1 X.1.2.1 dJ8_newLength_cabcc_0 rfl (lv_at hl 0 rfl) ?_
  refine lv_iload_n X.1.1 X.1.2.1 dJ8_newLength_cabcc_1 rfl (lv_at hl 1 rfl) ?_
  refine lv_iload_n X.1.1 X.1.2.1 dJ8_newLength_cabcc_2 rfl (lv_at hl 2 rfl) ?_
  obtain ⟨g1, h⟩ := xgd_of h
  refine x_mmax (R := rJ8_newLength_cabcc) X g1.1 g1.2 hl.1 w1 w2 w3 w4 (by decide) (by decide) dJ8_newLength_cabcc_3 (Nat.le_of_ble_eq_true rfl) ⟨by decide, by decide⟩ ?_
  refine x_iadd X dJ8_newLength_cabcc_6 ?_
  refine x_name (fun x3_2 ex3_2 => ?_)
  replace h := xlet_at ex3_2 h
  refine lv_istore_n (lv' := [(3, .int (iI x3_2)), (0, .int (iI x0)), (1, .int (iI x1)), (2, .int (iI x2))]) X.1.1 X.1.2.1 dJ8_newLength_cabcc_7 rfl hl (by decide) rfl (fun ls hl => ?_)
  refine x_iconst X dJ8_newLength_cabcc_8 ?_
  refine lv_iload_n X.1.1 X.1.2.1 dJ8_newLength_cabcc_9 rfl (lv_at hl 0 rfl) ?_
  obtain ⟨g3, h⟩ := xgd_of h
  obtain ⟨j4, ej4, h⟩ := xlet_of h
  have Jj4 : ∀ (u5 : uS), j4 u5 = some (r, u') → xG p l e rJ8_newLength_cabcc s m args below meth c t Q 4 0 0 21 u5 [(0, .int (iI x0)), (1, .int (iI x1))] [] := by
      intro u5 h H locs ls hG hS hl
      replace h := (congrFun ej4 u5).symm.trans h
      refine lv_iload_n X.1.1 X.1.2.1 dJ8_newLength_cabcc_21 rfl (lv_at hl 0 rfl) ?_
      refine lv_iload_n X.1.1 X.1.2.1 dJ8_newLength_cabcc_22 rfl (lv_at hl 1 rfl) ?_
      cases h
  refine x_icmp_ge (tgt := 21) X ⟨by decide, by decide⟩ g3 dJ8_newLength_cabcc_10 (by decide) (fun c6 => ?_) (fun c6 => ?_)
  · replace h := xif_t h c6
    exact Jj4 _ h _ _ _ hG hS (lv_sub hl [1, 2] rfl)
  · replace h := xif_f h c6
    refine lv_iload_n X.1.1 X.1.2.1 dJ8_newLength_cabcc_13 rfl (lv_at hl 0 rfl) ?_
    refine x_ldc X 2147483639 rfl w5 dJ8_newLength_cabcc_14 ?_
    obtain ⟨g7, h⟩ := xgd_of h
    refine x_icmp_gt (tgt := 21) X g7 ⟨by decide, by decide⟩ dJ8_newLength_cabcc_16 (by decide) (fun c8 => ?_) (fun c8 => ?_)
    · replace h := xif_t h c8
      exact Jj4 _ h _ _ _ hG hS (lv_sub hl [1, 2] rfl)
    · replace h := xif_f h c8
      refine lv_iload_n X.1.1 X.1.2.1 dJ8_newLength_cabcc_19 rfl (lv_at hl 0 rfl) ?_
      cases h
      exact hret _ _ _ _ dJ8_newLength_cabcc_20 rfl hG hS
theorem hds_J8_newLength_cabcc : yJ8_newLength_cabcc.cls ≠ "java/lang/invoke/MethodHandle" ∧ yJ8_newLength_cabcc.cls ≠ "java/lang/invoke/VarHandle" ∧ (parseMethodDescriptor yJ8_newLength_cabcc.desc).map (fun d => d.parameters.length) = some 3 := by decide +kernel
abbrev rJ5_newCapacity_0f7a4 : Room := { frames := 2, cells := 0, slots := 0, locals := 83 }
set_option maxRecDepth 100000 in
set_option maxHeartbeats 8000000 in
theorem c_J5_newCapacity_0f7a4 (l : Launch) (t : gP) (x1 : Int) (u : uS) (r : Int) (u' : uS) (h : f_J5_newCapacity_0f7a4 x1 u = some (r, u')) : xMi l yJ5_newCapacity_0f7a4 wsJ5_newCapacity_0f7a4 rJ5_newCapacity_0f7a4 t [.ref (t.2.2.1 37), .int (iI x1)] u r u' 0 0 := by
  refine x_ofWi (cc := cJ5_newCapacity_0f7a4) (maxL := 6) (ret := .int) (own := RJ5) (by decide) rfl rfl (Nat.le_of_ble_eq_true rfl) ?_
  intro p e s m args below meth c Q X hret H locs ls hG hS hl
  replace hl : lv_has ls 6 [(0, .ref (t.2.2.1 37)), (1, .int (iI x1))] := hl
  have q37 : 37 < NN ∧ sT 37 = 1 := by decide
  have iJ4 : ∀ w ∈ wsJ40, w ∈ wsJ5_newCapacity_0f7a4 := by decide +kernel
  have w1 : Cond.fieldLink RJ5 15 "java/lang/AbstractStringBuilder" "value" "[B" ∈ wsJ5_newCapacity_0f7a4 := x_w 1 rfl
  have q38 : 38 < NN ∧ sT 38 = 105 ∧ sN 38 = 0 := by decide
  have w2 : Cond.fieldLink RJ5 22 "java/lang/AbstractStringBuilder" "coder" "B" ∈ wsJ5_newCapacity_0f7a4 := x_w 2 rfl
  have w3 : Cond.constant RJ5 39 (2147483647) ∈ wsJ5_newCapacity_0f7a4 := x_w 3 rfl
  unfold f_J5_newCapacity_0f7a4 at h
  refine lv_aload_n X.1.1 X.1.2.1 dJ5_newCapacity_0f7a4_0 rfl (lv_at hl 0 rfl) ?_
  refine x_getr X hG 1 0 37 1 (inC := iJ4) rfl q37.1 q37.2 ⟨by decide, by decide, by decide, rfl, by decide, by decide⟩ w1 dJ5_newCapacity_0f7a4_1 ?_
  obtain ⟨g1, h⟩ := xgd_of h
  refine x_sblen X hG g1 dJ5_newCapacity_0f7a4_4 ?_
  refine x_name (fun x2_2 ex2_2 => ?_)
  replace h := xlet_at ex2_2 h
  refine lv_istore_n (lv' := [(2, .int (iI x2_2)), (0, .ref (t.2.2.1 37)), (1, .int (iI x1))]) X.1.1 X.1.2.1 dJ5_newCapacity_0f7a4_5 rfl hl (by decide) rfl (fun ls hl => ?_)
  refine lv_iload_n X.1.1 X.1.2.1 dJ5_newCapacity_0f7a4_6 rfl (lv_at hl 2 rfl) ?_
  refine lv_aload_n X.1.1 X.1.2.1 dJ5_newCapacity_0f7a4_7 rfl (lv_at hl 1 rfl) ?_
  refine x_geti X hG 1 1 37 1 (inC := iJ4) rfl q37.1 q37.2 ⟨by decide, by decide, by decide, rfl, rfl⟩ w2 dJ5_newCapacity_0f7a4_8 ?_
  obtain ⟨g3, h⟩ := xgd_of h
  refine x_ishl X g3 dJ5_newCapacity_0f7a4_11 ?_
  refine x_name (fun x3_4 ex3_4 => ?_)
  replace h := xlet_at ex3_4 h
  refine lv_istore_n (lv' := [(3, .int (iI x3_4)), (2, .int (iI x2_2)), (0, .ref (t.2.2.1 37)), (1, .int (iI x1))]) X.1.1 X.1.2.1 dJ5_newCapacity_0f7a4_12 rfl hl (by decide) rfl (fun ls hl => ?_)
  refine lv_iload_n X.1.1 X.1.2.1 dJ5_newCapacity_0f7a4_13 rfl (lv_at hl 0 rfl) ?_
  refine lv_iload_n X.1.1 X.1.2.1 dJ5_newCapacity_0f7a4_14 rfl (lv_at hl 1 rfl) ?_
  refine x_isub X dJ5_newCapacity_0f7a4_15 ?_
  refine x_name (fun x4_5 ex4_5 => ?_)
  replace h := xlet_at ex4_5 h
  refine lv_istore (lv' := [(4, .int (iI x4_5)), (3, .int (iI x3_4)), (2, .int (iI x2_2)), (0, .ref (t.2.2.1 37)), (1, .int (iI x1))]) X.1.1 X.1.2.1 dJ5_newCapacity_0f7a4_16 hl (by decide) rfl (fun ls hl => ?_)
  refine lv_iload_n X.1.1 X.1.2.1 dJ5_newCapacity_0f7a4_18 rfl (lv_at hl 2 rfl) ?_
  refine lv_iload X.1.1 X.1.2.1 dJ5_newCapacity_0f7a4_19 (lv_at hl 0 rfl) ?_
  refine lv_iload_n X.1.1 X.1.2.1 dJ5_newCapacity_0f7a4_21 rfl (lv_at hl 2 rfl) ?_
  refine x_iconst X dJ5_newCapacity_0f7a4_22 ?_
  refine lv_aload_n X.1.1 X.1.2.1 dJ5_newCapacity_0f7a4_23 rfl (lv_at hl 3 rfl) ?_
  refine x_geti X hG 1 1 37 1 (inC := iJ4) rfl q37.1 q37.2 ⟨by decide, by decide, by decide, rfl, rfl⟩ w2 dJ5_newCapacity_0f7a4_24 ?_
  obtain ⟨g6, h⟩ := xgd_of h
  refine x_ishl X g6 dJ5_newCapacity_0f7a4_27 ?_
  refine x_iadd X dJ5_newCapacity_0f7a4_28 ?_
  obtain ⟨v7, u8, hf, h⟩ := xbd_of h
  refine x_callSi0 X hG hS (c_J8_newLength_cabcc l t _ _ _ _ _ _ hf) (va_cwS 3 X.1.2.2.2.2 gJ5_newCapacity_0f7a4_J8_newLength_cabcc rfl rfl rfl hds_J8_newLength_cabcc ⟨Nat.le_of_ble_eq_true rfl, Nat.le_of_ble_eq_true rfl⟩) (by rfl) hl.1 (Nat.le_of_ble_eq_true rfl) dJ5_newCapacity_0f7a4_29 ⟨by decide, by decide⟩ rfl (fun H locs hG hS => ?_)
  refine lv_istore (lv' := [(5, .int (iI v7)), (4, .int (iI x4_5)), (3, .int (iI x3_4)), (2, .int (iI x2_2)), (0, .ref (t.2.2.1 37)), (1, .int (iI x1))]) X.1.1 X.1.2.1 dJ5_newCapacity_0f7a4_32 hl (by decide) rfl (fun ls hl => ?_)
  refine lv_iload X.1.1 X.1.2.1 dJ5_newCapacity_0f7a4_34 (lv_at hl 0 rfl) ?_
  refine x_ldc X 2147483647 rfl w3 dJ5_newCapacity_0f7a4_36 ?_
  obtain ⟨g9, h⟩ := xgd_of h
  refine x_icmp_ne (tgt := 51) X g9 ⟨by decide, by decide⟩ dJ5_newCapacity_0f7a4_38 (by decide) (fun c10 => ?_) (fun c10 => ?_)
  · replace h := xif_f h c10
    refine lv_iload X.1.1 X.1.2.1 dJ5_newCapacity_0f7a4_51 (lv_at hl 0 rfl) ?_
    refine lv_aload_n X.1.1 X.1.2.1 dJ5_newCapacity_0f7a4_53 rfl (lv_at hl 4 rfl) ?_
    refine x_geti X hG 1 1 37 1 (inC := iJ4) rfl q37.1 q37.2 ⟨by decide, by decide, by decide, rfl, rfl⟩ w2 dJ5_newCapacity_0f7a4_54 ?_
    obtain ⟨g11, h⟩ := xgd_of h
    refine x_ishr X g11.1 g11.2 dJ5_newCapacity_0f7a4_57 ?_
    cases h
    exact hret _ _ _ _ dJ5_newCapacity_0f7a4_58 rfl hG hS
  · replace h := xif_t h c10
    cases h
theorem hd_J5_newCapacity_0f7a4 : yJ5_newCapacity_0f7a4.cls = RJ5 ∧ yJ5_newCapacity_0f7a4.cls ≠ "java/lang/invoke/MethodHandle" ∧ yJ5_newCapacity_0f7a4.cls ≠ "java/lang/invoke/VarHandle" ∧ (parseMethodDescriptor yJ5_newCapacity_0f7a4.desc).map (fun d => d.parameters.length) = some 1 := by decide +kernel
abbrev rJ6_stringSize_0f7a4 : Room := { frames := 0, cells := 0, slots := 0, locals := 0 }
set_option maxRecDepth 100000 in
set_option maxHeartbeats 8000000 in
theorem c_J6_stringSize_0f7a4 (l : Launch) (t : gP) (x0 : Int) (u : uS) (r : Int) (u' : uS) (h : f_J6_stringSize_0f7a4 x0 u = some (r, u')) : xMi l yJ6_stringSize_0f7a4 wsJ6_stringSize_0f7a4 rJ6_stringSize_0f7a4 t [.int (iI x0)] u r u' 0 0 := by
  refine x_ofWi (cc := cJ6_stringSize_0f7a4) (maxL := 4) (ret := .int) (own := RJ6) (by decide) rfl rfl (Nat.le_of_ble_eq_true rfl) ?_
  intro p e s m args below meth c Q X hret H locs ls hG hS hl
  replace hl : lv_has ls 4 [(0, .int (iI x0))] := hl
  unfold f_J6_stringSize_0f7a4 at h
  refine x_iconst X dJ6_stringSize_0f7a4_0 ?_
  refine lv_istore_n (lv' := [(1, .int (iI 1)), (0, .int (iI x0))]) X.1.1 X.1.2.1 dJ6_stringSize_0f7a4_1 rfl hl (by decide) rfl (fun ls hl => ?_)
  refine lv_iload_n X.1.1 X.1.2.1 dJ6_stringSize_0f7a4_2 rfl (lv_at hl 1 rfl) ?_
  obtain ⟨g1, h⟩ := xgd_of h
  obtain ⟨j2, ej2, h⟩ := xlet_of h
  have Jj2 : ∀ (x0_3 : Int) (x1_4 : Int) (u5 : uS), j2 x0_3 x1_4 u5 = some (r, u') → xG p l e rJ6_stringSize_0f7a4 s m args below meth c t Q 4 0 0 11 u5 [(0, .int (iI x0_3)), (1, .int (iI x1_4))] [] := by
      intro x0_3 x1_4 u5 h H locs ls hG hS hl
      replace h := (congrFun (congrFun (congrFun ej2 x0_3) x1_4) u5).symm.trans h
      refine x_bipush X dJ6_stringSize_0f7a4_11 (by decide) ?_
      refine lv_istore_n (lv' := [(2, .int (iI (-10))), (0, .int (iI x0_3)), (1, .int (iI x1_4))]) X.1.1 X.1.2.1 dJ6_stringSize_0f7a4_13 rfl hl (by decide) rfl (fun ls hl => ?_)
      refine x_iconst X dJ6_stringSize_0f7a4_14 ?_
      refine lv_istore_n (lv' := [(3, .int (iI 1)), (2, .int (iI (-10))), (0, .int (iI x0_3)), (1, .int (iI x1_4))]) X.1.1 X.1.2.1 dJ6_stringSize_0f7a4_15 rfl hl (by decide) rfl (fun ls hl => ?_)
      obtain ⟨j6, ej6, h⟩ := xlet_of h
      have Jj6 : ∀ (u7 : uS), j6 u7 = some (r, u') → xG p l e rJ6_stringSize_0f7a4 s m args below meth c t Q 4 0 0 42 u7 [(1, .int (iI x1_4))] [] := by
          intro u7 h H locs ls hG hS hl
          replace h := (congrFun ej6 u7).symm.trans h
          refine x_bipush X dJ6_stringSize_0f7a4_42 (by decide) ?_
          refine lv_iload_n X.1.1 X.1.2.1 dJ6_stringSize_0f7a4_44 rfl (lv_at hl 0 rfl) ?_
          refine x_iadd X dJ6_stringSize_0f7a4_45 ?_
          cases h
          exact hret _ _ _ _ dJ6_stringSize_0f7a4_46 rfl hG hS
      obtain ⟨j8, ej8, h⟩ := xlet_of h
      have Jj8 : ∀ (x3_9 : Int) (u10 : uS), j8 x3_9 u10 = some (r, u') → xG p l e rJ6_stringSize_0f7a4 s m args below meth c t Q 4 0 0 27 u10 [(1, .int (iI x1_4)), (3, .int (iI x3_9))] [] := by
          intro x3_9 u10 h H locs ls hG hS hl
          replace h := (congrFun (congrFun ej8 x3_9) u10).symm.trans h
          refine lv_iload_n X.1.1 X.1.2.1 dJ6_stringSize_0f7a4_27 rfl (lv_at hl 1 rfl) ?_
          refine lv_iload_n X.1.1 X.1.2.1 dJ6_stringSize_0f7a4_28 rfl (lv_at hl 0 rfl) ?_
          refine x_iadd X dJ6_stringSize_0f7a4_29 ?_
          cases h
          exact hret _ _ _ _ dJ6_stringSize_0f7a4_30 rfl hG hS
      have Lgo11 : ∀ (n : Nat) (x2_12 : Int) (x3_13 : Int) (u14 : uS), xl3 (s_J6_stringSize_0f7a4_16 j6 x0_3 j8) n x2_12 x3_13 u14 = some (r, u') → xG p l e rJ6_stringSize_0f7a4 s m args below meth c t Q 4 0 0 16 u14 [(2, .int (iI x2_12)), (3, .int (iI x3_13)), (0, .int (iI x0_3)), (1, .int (iI x1_4))] [] := by
        intro n x2_12 x3_13 u14 h
        refine xl3_W (F := s_J6_stringSize_0f7a4_16 j6 x0_3 j8) (fun x2_12 x3_13 u14 q => q = (r, u') → xG p l e rJ6_stringSize_0f7a4 s m args below meth c t Q 4 0 0 16 u14 [(2, .int (iI x2_12)), (3, .int (iI x3_13)), (0, .int (iI x0_3)), (1, .int (iI x1_4))] []) ?_ n x2_12 x3_13 u14 _ h rfl
        intro go11 igo11 x2_12 x3_13 u14 q h hq H locs ls hG hS hl
        subst hq
        unfold s_J6_stringSize_0f7a4_16 at h
        refine lv_iload_n X.1.1 X.1.2.1 dJ6_stringSize_0f7a4_16 rfl (lv_at hl 1 rfl) ?_
        refine x_bipush X dJ6_stringSize_0f7a4_17 (by decide) ?_
        obtain ⟨g15, h⟩ := xgd_of h
        refine x_icmp_ge (tgt := 42) X g15 ⟨by decide, by decide⟩ dJ6_stringSize_0f7a4_19 (by decide) (fun c16 => ?_) (fun c16 => ?_)
        · replace h := xif_t h c16
          exact Jj6 _ h _ _ _ hG hS (lv_sub hl [3] rfl)
        · replace h := xif_f h c16
          refine lv_iload_n X.1.1 X.1.2.1 dJ6_stringSize_0f7a4_22 rfl (lv_at hl 2 rfl) ?_
          refine lv_iload_n X.1.1 X.1.2.1 dJ6_stringSize_0f7a4_23 rfl (lv_at hl 0 rfl) ?_
          obtain ⟨g17, h⟩ := xgd_of h
          refine x_icmp_le (tgt := 31) X g17.1 g17.2 dJ6_stringSize_0f7a4_24 (by decide) (fun c18 => ?_) (fun c18 => ?_)
          · replace h := xif_t h c18
            refine x_bipush X dJ6_stringSize_0f7a4_31 (by decide) ?_
            refine lv_iload_n X.1.1 X.1.2.1 dJ6_stringSize_0f7a4_33 rfl (lv_at hl 0 rfl) ?_
            refine x_imul X dJ6_stringSize_0f7a4_34 ?_
            refine x_name (fun x2_19 ex2_19 => ?_)
            replace h := xlet_at ex2_19 h
            refine lv_istore_n (lv' := [(2, .int (iI x2_19)), (3, .int (iI x3_13)), (0, .int (iI x0_3)), (1, .int (iI x1_4))]) X.1.1 X.1.2.1 dJ6_stringSize_0f7a4_35 rfl hl (by decide) rfl (fun ls hl => ?_)
            refine lv_iinc (v := (iI (x3_13 + 1))) (lv' := [(3, .int (iI (x3_13 + 1))), (2, .int (iI x2_19)), (0, .int (iI x0_3)), (1, .int (iI x1_4))]) X.1.1 X.1.2.1 dJ6_stringSize_0f7a4_36 hl (k := 1) rfl (iI_add _ _) (by decide) rfl (fun ls hl => ?_)
            refine lv_goto (tgt := 16) X.1.1 X.1.2.1 dJ6_stringSize_0f7a4_39 (by decide) ?_
            exact igo11 _ _ _ _ h rfl _ _ _ hG hS (lv_sub hl [1, 0, 2, 3] rfl)
          · replace h := xif_f h c18
            exact Jj8 _ _ h _ _ _ hG hS (lv_sub hl [3, 1] rfl)
      exact Lgo11 FU _ _ _ h _ _ _ hG hS (lv_sub hl [1, 0, 2, 3] rfl)
  refine x_if_lt (tgt := 11) X g1 dJ6_stringSize_0f7a4_3 (by decide) (fun c20 => ?_) (fun c20 => ?_)
  · replace h := xif_t h c20
    exact Jj2 _ _ _ h _ _ _ hG hS (lv_sub hl [1, 0] rfl)
  · replace h := xif_f h c20
    refine x_iconst X dJ6_stringSize_0f7a4_6 ?_
    refine lv_istore_n (lv' := [(1, .int (iI 0)), (0, .int (iI x0))]) X.1.1 X.1.2.1 dJ6_stringSize_0f7a4_7 rfl hl (by decide) rfl (fun ls hl => ?_)
    refine lv_iload_n X.1.1 X.1.2.1 dJ6_stringSize_0f7a4_8 rfl (lv_at hl 1 rfl) ?_
    refine x_ineg X dJ6_stringSize_0f7a4_9 ?_
    refine x_name (fun x0_21 ex0_21 => ?_)
    replace h := xlet_at ex0_21 h
    refine lv_istore_n (lv' := [(0, .int (iI x0_21)), (1, .int (iI 0))]) X.1.1 X.1.2.1 dJ6_stringSize_0f7a4_10 rfl hl (by decide) rfl (fun ls hl => ?_)
    exact Jj2 _ _ _ h _ _ _ hG hS (lv_sub hl [0, 1] rfl)
theorem hds_J6_stringSize_0f7a4 : yJ6_stringSize_0f7a4.cls ≠ "java/lang/invoke/MethodHandle" ∧ yJ6_stringSize_0f7a4.cls ≠ "java/lang/invoke/VarHandle" ∧ (parseMethodDescriptor yJ6_stringSize_0f7a4.desc).map (fun d => d.parameters.length) = some 1 := by decide +kernel
abbrev rJ6_getChars_ba4f3 : Room := { frames := 0, cells := 0, slots := 0, locals := 0 }
set_option maxRecDepth 100000 in
set_option maxHeartbeats 8000000 in
theorem c_J6_getChars_ba4f3 (l : Launch) (t : gP) (x0 : Int) (x1 : Int) (u : uS) (r : Int) (u' : uS) (h : f_J6_getChars_ba4f3 x0 x1 u = some (r, u')) : xMi l yJ6_getChars_ba4f3 wsJ6_getChars_ba4f3 rJ6_getChars_ba4f3 t [.int (iI x0), .int (iI x1), .ref (t.2.2.1 38)] u r u' 0 0 := by
  refine x_ofWi (cc := cJ6_getChars_ba4f3) (maxL := 7) (ret := .int) (own := RJ6) (by decide) rfl rfl (Nat.le_of_ble_eq_true rfl) ?_
  intro p e s m args below meth c Q X hret H locs ls hG hS hl
  replace hl : lv_has ls 7 [(0, .int (iI x0)), (1, .int (iI x1)), (2, .ref (t.2.2.1 38))] := hl
  have q38 : 38 < NN ∧ sT 38 = 105 ∧ sN 38 = 0 := by decide
  obtain ⟨aDigitOnes, zDigitOnes, yDigitOnes⟩ := X.2.2.1.2.1 _ (x_m 4 rfl)
  have w1 : Cond.fieldLink RJ6 83 "java/lang/Integer" "DigitOnes" "[B" ∈ wsJ6_getChars_ba4f3 := x_w 1 rfl
  obtain ⟨aDigitTens, zDigitTens, yDigitTens⟩ := X.2.2.1.2.1 _ (x_m 5 rfl)
  have w2 : Cond.fieldLink RJ6 87 "java/lang/Integer" "DigitTens" "[B" ∈ wsJ6_getChars_ba4f3 := x_w 2 rfl
  unfold f_J6_getChars_ba4f3 at h
  refine lv_iload_n X.1.1 X.1.2.1 dJ6_getChars_ba4f3_0 rfl (lv_at hl 1 rfl) ?_
  refine lv_istore (lv' := [(5, .int (iI x1)), (0, .int (iI x0)), (1, .int (iI x1)), (2, .ref (t.2.2.1 38))]) X.1.1 X.1.2.1 dJ6_getChars_ba4f3_1 hl (by decide) rfl (fun ls hl => ?_)
  refine lv_iload_n X.1.1 X.1.2.1 dJ6_getChars_ba4f3_3 rfl (lv_at hl 1 rfl) ?_
  obtain ⟨g1, h⟩ := xgd_of h
  obtain ⟨j2, ej2, h⟩ := xlet_of h
  have Jj2 : ∀ (s3 : Int) (u4 : uS), j2 s3 u4 = some (r, u') → xG p l e rJ6_getChars_ba4f3 s m args below meth c t Q 7 0 0 12 u4 [(0, .int (iI x0)), (2, .ref (t.2.2.1 38)), (5, .int (iI x1))] [.int (iI s3)] := by
      intro s3 u4 h H locs ls hG hS hl
      replace h := (congrFun (congrFun ej2 s3) u4).symm.trans h
      refine lv_istore (lv' := [(6, .int (iI s3)), (0, .int (iI x0)), (2, .ref (t.2.2.1 38)), (5, .int (iI x1))]) X.1.1 X.1.2.1 dJ6_getChars_ba4f3_12 hl (by decide) rfl (fun ls hl => ?_)
      refine lv_iload X.1.1 X.1.2.1 dJ6_getChars_ba4f3_14 (lv_at hl 0 rfl) ?_
      obtain ⟨g5, h⟩ := xgd_of h
      refine x_if_ne (tgt := 22) X g5 dJ6_getChars_ba4f3_16 (by decide) (fun c6 => ?_) (fun c6 => ?_)
      · replace h := xif_f h c6
        obtain ⟨j7, ej7, h⟩ := xlet_of h
        have Jj7 : ∀ (x0_8 : Int) (x5_9 : Int) (u10 : uS), j7 x0_8 x5_9 u10 = some (r, u') → xG p l e rJ6_getChars_ba4f3 s m args below meth c t Q 7 0 0 72 u10 [(0, .int (iI x0_8)), (2, .ref (t.2.2.1 38)), (5, .int (iI x5_9)), (6, .int (iI s3))] [] := by
            intro x0_8 x5_9 u10 h H locs ls hG hS hl
            replace h := (congrFun (congrFun (congrFun ej7 x0_8) x5_9) u10).symm.trans h
            refine lv_aload_n X.1.1 X.1.2.1 dJ6_getChars_ba4f3_72 rfl (lv_at hl 1 rfl) ?_
            refine lv_iinc (v := (iI (x5_9 + (-1)))) (lv' := [(5, .int (iI (x5_9 + (-1)))), (0, .int (iI x0_8)), (2, .ref (t.2.2.1 38)), (6, .int (iI s3))]) X.1.1 X.1.2.1 dJ6_getChars_ba4f3_73 hl (k := 2) rfl (iI_add _ _) (by decide) rfl (fun ls hl => ?_)
            refine lv_iload X.1.1 X.1.2.1 dJ6_getChars_ba4f3_76 (lv_at hl 0 rfl) ?_
            refine va_gets X.1.1 X.1.2.1 zDigitOnes hS X.1.2.2.2.1 (X.1.2.2.2.2 _ w1) (fun _ h9 => h9) dJ6_getChars_ba4f3_78 ?_
            refine lv_iload_n X.1.1 X.1.2.1 dJ6_getChars_ba4f3_81 rfl (lv_at hl 1 rfl) ?_
            refine x_ineg X dJ6_getChars_ba4f3_82 ?_
            obtain ⟨g11, h⟩ := xgd_of h
            refine x_stldb X yDigitOnes hS (L := gL_DigitOnes) g11 (by decide) dJ6_getChars_ba4f3_83 ?_
            obtain ⟨g12, h⟩ := xgd_of h
            refine x_sbst X hG hS g12.1 g12.2 dJ6_getChars_ba4f3_84 (fun H locs hG hS => ?_)
            obtain ⟨u13, eu13, h⟩ := xlet_of h
            replace hG : G t u13 H := by rw [eu13]; exact hG
            refine lv_iload_n X.1.1 X.1.2.1 dJ6_getChars_ba4f3_85 rfl (lv_at hl 1 rfl) ?_
            refine x_bipush X dJ6_getChars_ba4f3_86 (by decide) ?_
            obtain ⟨g14, h⟩ := xgd_of h
            obtain ⟨j15, ej15, h⟩ := xlet_of h
            have Jj15 : ∀ (x5_16 : Int) (u17 : uS), j15 x5_16 u17 = some (r, u') → xG p l e rJ6_getChars_ba4f3 s m args below meth c t Q 7 0 0 104 u17 [(2, .ref (t.2.2.1 38)), (5, .int (iI x5_16)), (6, .int (iI s3))] [] := by
                intro x5_16 u17 h H locs ls hG hS hl
                replace h := (congrFun (congrFun ej15 x5_16) u17).symm.trans h
                refine lv_iload X.1.1 X.1.2.1 dJ6_getChars_ba4f3_104 (lv_at hl 2 rfl) ?_
                obtain ⟨g18, h⟩ := xgd_of h
                refine x_if_eq (tgt := 118) X g18 dJ6_getChars_ba4f3_106 (by decide) (fun c19 => ?_) (fun c19 => ?_)
                · replace h := xif_t h c19
                  refine lv_iload X.1.1 X.1.2.1 dJ6_getChars_ba4f3_118 (lv_at hl 1 rfl) ?_
                  cases h
                  exact hret _ _ _ _ dJ6_getChars_ba4f3_120 rfl hG hS
                · replace h := xif_f h c19
                  refine lv_aload_n X.1.1 X.1.2.1 dJ6_getChars_ba4f3_109 rfl (lv_at hl 0 rfl) ?_
                  refine lv_iinc (v := (iI (x5_16 + (-1)))) (lv' := [(5, .int (iI (x5_16 + (-1)))), (2, .ref (t.2.2.1 38)), (6, .int (iI s3))]) X.1.1 X.1.2.1 dJ6_getChars_ba4f3_110 hl (k := 1) rfl (iI_add _ _) (by decide) rfl (fun ls hl => ?_)
                  refine lv_iload X.1.1 X.1.2.1 dJ6_getChars_ba4f3_113 (lv_at hl 0 rfl) ?_
                  refine x_bipush X dJ6_getChars_ba4f3_115 (by decide) ?_
                  obtain ⟨g20, h⟩ := xgd_of h
                  refine x_sbst X hG hS g20.1 g20.2 dJ6_getChars_ba4f3_117 (fun H locs hG hS => ?_)
                  obtain ⟨u21, eu21, h⟩ := xlet_of h
                  replace hG : G t u21 H := by rw [eu21]; exact hG
                  refine lv_iload X.1.1 X.1.2.1 dJ6_getChars_ba4f3_118 (lv_at hl 0 rfl) ?_
                  cases h
                  exact hret _ _ _ _ dJ6_getChars_ba4f3_120 rfl hG hS
            refine x_icmp_ge (tgt := 104) X g14 ⟨by decide, by decide⟩ dJ6_getChars_ba4f3_88 (by decide) (fun c22 => ?_) (fun c22 => ?_)
            · replace h := xif_t h c22
              exact Jj15 _ _ h _ _ _ hG hS (lv_sub hl [2, 0, 3] rfl)
            · replace h := xif_f h c22
              refine lv_aload_n X.1.1 X.1.2.1 dJ6_getChars_ba4f3_91 rfl (lv_at hl 2 rfl) ?_
              refine lv_iinc (v := (iI ((x5_9 + (-1)) + (-1)))) (lv' := [(5, .int (iI ((x5_9 + (-1)) + (-1)))), (0, .int (iI x0_8)), (2, .ref (t.2.2.1 38)), (6, .int (iI s3))]) X.1.1 X.1.2.1 dJ6_getChars_ba4f3_92 hl (k := 0) rfl (iI_add _ _) (by decide) rfl (fun ls hl => ?_)
              refine lv_iload X.1.1 X.1.2.1 dJ6_getChars_ba4f3_95 (lv_at hl 0 rfl) ?_
              refine va_gets X.1.1 X.1.2.1 zDigitTens hS X.1.2.2.2.1 (X.1.2.2.2.2 _ w2) (fun _ h9 => h9) dJ6_getChars_ba4f3_97 ?_
              refine lv_iload_n X.1.1 X.1.2.1 dJ6_getChars_ba4f3_100 rfl (lv_at hl 1 rfl) ?_
              refine x_ineg X dJ6_getChars_ba4f3_101 ?_
              obtain ⟨g23, h⟩ := xgd_of h
              refine x_stldb X yDigitTens hS (L := gL_DigitTens) g23 (by decide) dJ6_getChars_ba4f3_102 ?_
              obtain ⟨g24, h⟩ := xgd_of h
              refine x_sbst X hG hS g24.1 g24.2 dJ6_getChars_ba4f3_103 (fun H locs hG hS => ?_)
              obtain ⟨u25, eu25, h⟩ := xlet_of h
              replace hG : G t u25 H := by rw [eu25]; exact hG
              exact Jj15 _ _ h _ _ _ hG hS (lv_sub hl [2, 0, 3] rfl)
        have Lgo26 : ∀ (n : Nat) (x0_27 : Int) (x5_28 : Int) (u29 : uS), xl3 (s_J6_getChars_ba4f3_22 j7) n x0_27 x5_28 u29 = some (r, u') → xG p l e rJ6_getChars_ba4f3 s m args below meth c t Q 7 0 0 22 u29 [(0, .int (iI x0_27)), (5, .int (iI x5_28)), (2, .ref (t.2.2.1 38)), (6, .int (iI s3))] [] := by
          intro n x0_27 x5_28 u29 h
          refine xl3_W (F := s_J6_getChars_ba4f3_22 j7) (fun x0_27 x5_28 u29 q => q = (r, u') → xG p l e rJ6_getChars_ba4f3 s m args below meth c t Q 7 0 0 22 u29 [(0, .int (iI x0_27)), (5, .int (iI x5_28)), (2, .ref (t.2.2.1 38)), (6, .int (iI s3))] []) ?_ n x0_27 x5_28 u29 _ h rfl
          intro go26 igo26 x0_27 x5_28 u29 q h hq H locs ls hG hS hl
          subst hq
          unfold s_J6_getChars_ba4f3_22 at h
          refine lv_iload_n X.1.1 X.1.2.1 dJ6_getChars_ba4f3_22 rfl (lv_at hl 0 rfl) ?_
          refine x_bipush X dJ6_getChars_ba4f3_23 (by decide) ?_
          obtain ⟨g30, h⟩ := xgd_of h
          refine x_icmp_gt (tgt := 72) X g30 ⟨by decide, by decide⟩ dJ6_getChars_ba4f3_25 (by decide) (fun c31 => ?_) (fun c31 => ?_)
          · replace h := xif_t h c31
            exact Jj7 _ _ _ h _ _ _ hG hS (lv_sub hl [0, 2, 1, 3] rfl)
          · replace h := xif_f h c31
            refine lv_iload_n X.1.1 X.1.2.1 dJ6_getChars_ba4f3_28 rfl (lv_at hl 0 rfl) ?_
            refine x_bipush X dJ6_getChars_ba4f3_29 (by decide) ?_
            obtain ⟨g32, h⟩ := xgd_of h
            refine x_idiv X g32 ⟨by decide, by decide⟩ (by decide) dJ6_getChars_ba4f3_31 ?_
            refine x_name (fun x3_33 ex3_33 => ?_)
            replace h := xlet_at ex3_33 h
            refine lv_istore_n (lv' := [(3, .int (iI x3_33)), (0, .int (iI x0_27)), (5, .int (iI x5_28)), (2, .ref (t.2.2.1 38)), (6, .int (iI s3))]) X.1.1 X.1.2.1 dJ6_getChars_ba4f3_32 rfl hl (by decide) rfl (fun ls hl => ?_)
            refine lv_iload_n X.1.1 X.1.2.1 dJ6_getChars_ba4f3_33 rfl (lv_at hl 0 rfl) ?_
            refine x_bipush X dJ6_getChars_ba4f3_34 (by decide) ?_
            refine x_imul X dJ6_getChars_ba4f3_36 ?_
            refine lv_iload_n X.1.1 X.1.2.1 dJ6_getChars_ba4f3_37 rfl (lv_at hl 1 rfl) ?_
            refine x_isub X dJ6_getChars_ba4f3_38 ?_
            refine x_name (fun x4_34 ex4_34 => ?_)
            replace h := xlet_at ex4_34 h
            refine lv_istore (lv' := [(4, .int (iI x4_34)), (3, .int (iI x3_33)), (0, .int (iI x0_27)), (5, .int (iI x5_28)), (2, .ref (t.2.2.1 38)), (6, .int (iI s3))]) X.1.1 X.1.2.1 dJ6_getChars_ba4f3_39 hl (by decide) rfl (fun ls hl => ?_)
            refine lv_iload_n X.1.1 X.1.2.1 dJ6_getChars_ba4f3_41 rfl (lv_at hl 1 rfl) ?_
            refine lv_istore_n (lv' := [(0, .int (iI x3_33)), (4, .int (iI x4_34)), (3, .int (iI x3_33)), (5, .int (iI x5_28)), (2, .ref (t.2.2.1 38)), (6, .int (iI s3))]) X.1.1 X.1.2.1 dJ6_getChars_ba4f3_42 rfl hl (by decide) rfl (fun ls hl => ?_)
            refine lv_aload_n X.1.1 X.1.2.1 dJ6_getChars_ba4f3_43 rfl (lv_at hl 4 rfl) ?_
            refine lv_iinc (v := (iI (x5_28 + (-1)))) (lv' := [(5, .int (iI (x5_28 + (-1)))), (0, .int (iI x3_33)), (4, .int (iI x4_34)), (3, .int (iI x3_33)), (2, .ref (t.2.2.1 38)), (6, .int (iI s3))]) X.1.1 X.1.2.1 dJ6_getChars_ba4f3_44 hl (k := 3) rfl (iI_add _ _) (by decide) rfl (fun ls hl => ?_)
            refine lv_iload X.1.1 X.1.2.1 dJ6_getChars_ba4f3_47 (lv_at hl 0 rfl) ?_
            refine va_gets X.1.1 X.1.2.1 zDigitOnes hS X.1.2.2.2.1 (X.1.2.2.2.2 _ w1) (fun _ h9 => h9) dJ6_getChars_ba4f3_49 ?_
            refine lv_iload X.1.1 X.1.2.1 dJ6_getChars_ba4f3_52 (lv_at hl 2 rfl) ?_
            obtain ⟨g35, h⟩ := xgd_of h
            refine x_stldb X yDigitOnes hS (L := gL_DigitOnes) g35 (by decide) dJ6_getChars_ba4f3_54 ?_
            obtain ⟨g36, h⟩ := xgd_of h
            refine x_sbst X hG hS g36.1 g36.2 dJ6_getChars_ba4f3_55 (fun H locs hG hS => ?_)
            obtain ⟨u37, eu37, h⟩ := xlet_of h
            replace hG : G t u37 H := by rw [eu37]; exact hG
            refine lv_aload_n X.1.1 X.1.2.1 dJ6_getChars_ba4f3_56 rfl (lv_at hl 4 rfl) ?_
            refine lv_iinc (v := (iI ((x5_28 + (-1)) + (-1)))) (lv' := [(5, .int (iI ((x5_28 + (-1)) + (-1)))), (0, .int (iI x3_33)), (4, .int (iI x4_34)), (3, .int (iI x3_33)), (2, .ref (t.2.2.1 38)), (6, .int (iI s3))]) X.1.1 X.1.2.1 dJ6_getChars_ba4f3_57 hl (k := 0) rfl (iI_add _ _) (by decide) rfl (fun ls hl => ?_)
            refine lv_iload X.1.1 X.1.2.1 dJ6_getChars_ba4f3_60 (lv_at hl 0 rfl) ?_
            refine va_gets X.1.1 X.1.2.1 zDigitTens hS X.1.2.2.2.1 (X.1.2.2.2.2 _ w2) (fun _ h9 => h9) dJ6_getChars_ba4f3_62 ?_
            refine lv_iload X.1.1 X.1.2.1 dJ6_getChars_ba4f3_65 (lv_at hl 2 rfl) ?_
            obtain ⟨g38, h⟩ := xgd_of h
            refine x_stldb X yDigitTens hS (L := gL_DigitTens) g38 (by decide) dJ6_getChars_ba4f3_67 ?_
            obtain ⟨g39, h⟩ := xgd_of h
            refine x_sbst X hG hS g39.1 g39.2 dJ6_getChars_ba4f3_68 (fun H locs hG hS => ?_)
            obtain ⟨u40, eu40, h⟩ := xlet_of h
            replace hG : G t u40 H := by rw [eu40]; exact hG
            refine lv_goto (tgt := 22) X.1.1 X.1.2.1 dJ6_getChars_ba4f3_69 (by decide) ?_
            exact igo26 _ _ _ _ h rfl _ _ _ hG hS (lv_sub hl [1, 0, 4, 5] rfl)
        exact Lgo26 FU _ _ _ h _ _ _ hG hS (lv_sub hl [1, 3, 2, 0] rfl)
      · replace h := xif_t h c6
        refine lv_iload_n X.1.1 X.1.2.1 dJ6_getChars_ba4f3_19 rfl (lv_at hl 1 rfl) ?_
        refine x_ineg X dJ6_getChars_ba4f3_20 ?_
        refine x_name (fun x0_41 ex0_41 => ?_)
        replace h := xlet_at ex0_41 h
        refine lv_istore_n (lv' := [(0, .int (iI x0_41)), (6, .int (iI s3)), (2, .ref (t.2.2.1 38)), (5, .int (iI x1))]) X.1.1 X.1.2.1 dJ6_getChars_ba4f3_21 rfl hl (by decide) rfl (fun ls hl => ?_)
        obtain ⟨j42, ej42, h⟩ := xlet_of h
        have Jj42 : ∀ (x0_43 : Int) (x5_44 : Int) (u45 : uS), j42 x0_43 x5_44 u45 = some (r, u') → xG p l e rJ6_getChars_ba4f3 s m args below meth c t Q 7 0 0 72 u45 [(0, .int (iI x0_43)), (2, .ref (t.2.2.1 38)), (5, .int (iI x5_44)), (6, .int (iI s3))] [] := by
            intro x0_43 x5_44 u45 h H locs ls hG hS hl
            replace h := (congrFun (congrFun (congrFun ej42 x0_43) x5_44) u45).symm.trans h
            refine lv_aload_n X.1.1 X.1.2.1 dJ6_getChars_ba4f3_72 rfl (lv_at hl 1 rfl) ?_
            refine lv_iinc (v := (iI (x5_44 + (-1)))) (lv' := [(5, .int (iI (x5_44 + (-1)))), (0, .int (iI x0_43)), (2, .ref (t.2.2.1 38)), (6, .int (iI s3))]) X.1.1 X.1.2.1 dJ6_getChars_ba4f3_73 hl (k := 2) rfl (iI_add _ _) (by decide) rfl (fun ls hl => ?_)
            refine lv_iload X.1.1 X.1.2.1 dJ6_getChars_ba4f3_76 (lv_at hl 0 rfl) ?_
            refine va_gets X.1.1 X.1.2.1 zDigitOnes hS X.1.2.2.2.1 (X.1.2.2.2.2 _ w1) (fun _ h9 => h9) dJ6_getChars_ba4f3_78 ?_
            refine lv_iload_n X.1.1 X.1.2.1 dJ6_getChars_ba4f3_81 rfl (lv_at hl 1 rfl) ?_
            refine x_ineg X dJ6_getChars_ba4f3_82 ?_
            obtain ⟨g46, h⟩ := xgd_of h
            refine x_stldb X yDigitOnes hS (L := gL_DigitOnes) g46 (by decide) dJ6_getChars_ba4f3_83 ?_
            obtain ⟨g47, h⟩ := xgd_of h
            refine x_sbst X hG hS g47.1 g47.2 dJ6_getChars_ba4f3_84 (fun H locs hG hS => ?_)
            obtain ⟨u48, eu48, h⟩ := xlet_of h
            replace hG : G t u48 H := by rw [eu48]; exact hG
            refine lv_iload_n X.1.1 X.1.2.1 dJ6_getChars_ba4f3_85 rfl (lv_at hl 1 rfl) ?_
            refine x_bipush X dJ6_getChars_ba4f3_86 (by decide) ?_
            obtain ⟨g49, h⟩ := xgd_of h
            obtain ⟨j50, ej50, h⟩ := xlet_of h
            have Jj50 : ∀ (x5_51 : Int) (u52 : uS), j50 x5_51 u52 = some (r, u') → xG p l e rJ6_getChars_ba4f3 s m args below meth c t Q 7 0 0 104 u52 [(2, .ref (t.2.2.1 38)), (5, .int (iI x5_51)), (6, .int (iI s3))] [] := by
                intro x5_51 u52 h H locs ls hG hS hl
                replace h := (congrFun (congrFun ej50 x5_51) u52).symm.trans h
                refine lv_iload X.1.1 X.1.2.1 dJ6_getChars_ba4f3_104 (lv_at hl 2 rfl) ?_
                obtain ⟨g53, h⟩ := xgd_of h
                refine x_if_eq (tgt := 118) X g53 dJ6_getChars_ba4f3_106 (by decide) (fun c54 => ?_) (fun c54 => ?_)
                · replace h := xif_t h c54
                  refine lv_iload X.1.1 X.1.2.1 dJ6_getChars_ba4f3_118 (lv_at hl 1 rfl) ?_
                  cases h
                  exact hret _ _ _ _ dJ6_getChars_ba4f3_120 rfl hG hS
                · replace h := xif_f h c54
                  refine lv_aload_n X.1.1 X.1.2.1 dJ6_getChars_ba4f3_109 rfl (lv_at hl 0 rfl) ?_
                  refine lv_iinc (v := (iI (x5_51 + (-1)))) (lv' := [(5, .int (iI (x5_51 + (-1)))), (2, .ref (t.2.2.1 38)), (6, .int (iI s3))]) X.1.1 X.1.2.1 dJ6_getChars_ba4f3_110 hl (k := 1) rfl (iI_add _ _) (by decide) rfl (fun ls hl => ?_)
                  refine lv_iload X.1.1 X.1.2.1 dJ6_getChars_ba4f3_113 (lv_at hl 0 rfl) ?_
                  refine x_bipush X dJ6_getChars_ba4f3_115 (by decide) ?_
                  obtain ⟨g55, h⟩ := xgd_of h
                  refine x_sbst X hG hS g55.1 g55.2 dJ6_getChars_ba4f3_117 (fun H locs hG hS => ?_)
                  obtain ⟨u56, eu56, h⟩ := xlet_of h
                  replace hG : G t u56 H := by rw [eu56]; exact hG
                  refine lv_iload X.1.1 X.1.2.1 dJ6_getChars_ba4f3_118 (lv_at hl 0 rfl) ?_
                  cases h
                  exact hret _ _ _ _ dJ6_getChars_ba4f3_120 rfl hG hS
            refine x_icmp_ge (tgt := 104) X g49 ⟨by decide, by decide⟩ dJ6_getChars_ba4f3_88 (by decide) (fun c57 => ?_) (fun c57 => ?_)
            · replace h := xif_t h c57
              exact Jj50 _ _ h _ _ _ hG hS (lv_sub hl [2, 0, 3] rfl)
            · replace h := xif_f h c57
              refine lv_aload_n X.1.1 X.1.2.1 dJ6_getChars_ba4f3_91 rfl (lv_at hl 2 rfl) ?_
              refine lv_iinc (v := (iI ((x5_44 + (-1)) + (-1)))) (lv' := [(5, .int (iI ((x5_44 + (-1)) + (-1)))), (0, .int (iI x0_43)), (2, .ref (t.2.2.1 38)), (6, .int (iI s3))]) X.1.1 X.1.2.1 dJ6_getChars_ba4f3_92 hl (k := 0) rfl (iI_add _ _) (by decide) rfl (fun ls hl => ?_)
              refine lv_iload X.1.1 X.1.2.1 dJ6_getChars_ba4f3_95 (lv_at hl 0 rfl) ?_
              refine va_gets X.1.1 X.1.2.1 zDigitTens hS X.1.2.2.2.1 (X.1.2.2.2.2 _ w2) (fun _ h9 => h9) dJ6_getChars_ba4f3_97 ?_
              refine lv_iload_n X.1.1 X.1.2.1 dJ6_getChars_ba4f3_100 rfl (lv_at hl 1 rfl) ?_
              refine x_ineg X dJ6_getChars_ba4f3_101 ?_
              obtain ⟨g58, h⟩ := xgd_of h
              refine x_stldb X yDigitTens hS (L := gL_DigitTens) g58 (by decide) dJ6_getChars_ba4f3_102 ?_
              obtain ⟨g59, h⟩ := xgd_of h
              refine x_sbst X hG hS g59.1 g59.2 dJ6_getChars_ba4f3_103 (fun H locs hG hS => ?_)
              obtain ⟨u60, eu60, h⟩ := xlet_of h
              replace hG : G t u60 H := by rw [eu60]; exact hG
              exact Jj50 _ _ h _ _ _ hG hS (lv_sub hl [2, 0, 3] rfl)
        have Lgo61 : ∀ (n : Nat) (x0_62 : Int) (x5_63 : Int) (u64 : uS), xl3 (s_J6_getChars_ba4f3_22b j42) n x0_62 x5_63 u64 = some (r, u') → xG p l e rJ6_getChars_ba4f3 s m args below meth c t Q 7 0 0 22 u64 [(0, .int (iI x0_62)), (5, .int (iI x5_63)), (2, .ref (t.2.2.1 38)), (6, .int (iI s3))] [] := by
          intro n x0_62 x5_63 u64 h
          refine xl3_W (F := s_J6_getChars_ba4f3_22b j42) (fun x0_62 x5_63 u64 q => q = (r, u') → xG p l e rJ6_getChars_ba4f3 s m args below meth c t Q 7 0 0 22 u64 [(0, .int (iI x0_62)), (5, .int (iI x5_63)), (2, .ref (t.2.2.1 38)), (6, .int (iI s3))] []) ?_ n x0_62 x5_63 u64 _ h rfl
          intro go61 igo61 x0_62 x5_63 u64 q h hq H locs ls hG hS hl
          subst hq
          unfold s_J6_getChars_ba4f3_22b at h
          refine lv_iload_n X.1.1 X.1.2.1 dJ6_getChars_ba4f3_22 rfl (lv_at hl 0 rfl) ?_
          refine x_bipush X dJ6_getChars_ba4f3_23 (by decide) ?_
          obtain ⟨g65, h⟩ := xgd_of h
          refine x_icmp_gt (tgt := 72) X g65 ⟨by decide, by decide⟩ dJ6_getChars_ba4f3_25 (by decide) (fun c66 => ?_) (fun c66 => ?_)
          · replace h := xif_t h c66
            exact Jj42 _ _ _ h _ _ _ hG hS (lv_sub hl [0, 2, 1, 3] rfl)
          · replace h := xif_f h c66
            refine lv_iload_n X.1.1 X.1.2.1 dJ6_getChars_ba4f3_28 rfl (lv_at hl 0 rfl) ?_
            refine x_bipush X dJ6_getChars_ba4f3_29 (by decide) ?_
            obtain ⟨g67, h⟩ := xgd_of h
            refine x_idiv X g67 ⟨by decide, by decide⟩ (by decide) dJ6_getChars_ba4f3_31 ?_
            refine x_name (fun x3_68 ex3_68 => ?_)
            replace h := xlet_at ex3_68 h
            refine lv_istore_n (lv' := [(3, .int (iI x3_68)), (0, .int (iI x0_62)), (5, .int (iI x5_63)), (2, .ref (t.2.2.1 38)), (6, .int (iI s3))]) X.1.1 X.1.2.1 dJ6_getChars_ba4f3_32 rfl hl (by decide) rfl (fun ls hl => ?_)
            refine lv_iload_n X.1.1 X.1.2.1 dJ6_getChars_ba4f3_33 rfl (lv_at hl 0 rfl) ?_
            refine x_bipush X dJ6_getChars_ba4f3_34 (by decide) ?_
            refine x_imul X dJ6_getChars_ba4f3_36 ?_
            refine lv_iload_n X.1.1 X.1.2.1 dJ6_getChars_ba4f3_37 rfl (lv_at hl 1 rfl) ?_
            refine x_isub X dJ6_getChars_ba4f3_38 ?_
            refine x_name (fun x4_69 ex4_69 => ?_)
            replace h := xlet_at ex4_69 h
            refine lv_istore (lv' := [(4, .int (iI x4_69)), (3, .int (iI x3_68)), (0, .int (iI x0_62)), (5, .int (iI x5_63)), (2, .ref (t.2.2.1 38)), (6, .int (iI s3))]) X.1.1 X.1.2.1 dJ6_getChars_ba4f3_39 hl (by decide) rfl (fun ls hl => ?_)
            refine lv_iload_n X.1.1 X.1.2.1 dJ6_getChars_ba4f3_41 rfl (lv_at hl 1 rfl) ?_
            refine lv_istore_n (lv' := [(0, .int (iI x3_68)), (4, .int (iI x4_69)), (3, .int (iI x3_68)), (5, .int (iI x5_63)), (2, .ref (t.2.2.1 38)), (6, .int (iI s3))]) X.1.1 X.1.2.1 dJ6_getChars_ba4f3_42 rfl hl (by decide) rfl (fun ls hl => ?_)
            refine lv_aload_n X.1.1 X.1.2.1 dJ6_getChars_ba4f3_43 rfl (lv_at hl 4 rfl) ?_
            refine lv_iinc (v := (iI (x5_63 + (-1)))) (lv' := [(5, .int (iI (x5_63 + (-1)))), (0, .int (iI x3_68)), (4, .int (iI x4_69)), (3, .int (iI x3_68)), (2, .ref (t.2.2.1 38)), (6, .int (iI s3))]) X.1.1 X.1.2.1 dJ6_getChars_ba4f3_44 hl (k := 3) rfl (iI_add _ _) (by decide) rfl (fun ls hl => ?_)
            refine lv_iload X.1.1 X.1.2.1 dJ6_getChars_ba4f3_47 (lv_at hl 0 rfl) ?_
            refine va_gets X.1.1 X.1.2.1 zDigitOnes hS X.1.2.2.2.1 (X.1.2.2.2.2 _ w1) (fun _ h9 => h9) dJ6_getChars_ba4f3_49 ?_
            refine lv_iload X.1.1 X.1.2.1 dJ6_getChars_ba4f3_52 (lv_at hl 2 rfl) ?_
            obtain ⟨g70, h⟩ := xgd_of h
            refine x_stldb X yDigitOnes hS (L := gL_DigitOnes) g70 (by decide) dJ6_getChars_ba4f3_54 ?_
            obtain ⟨g71, h⟩ := xgd_of h
            refine x_sbst X hG hS g71.1 g71.2 dJ6_getChars_ba4f3_55 (fun H locs hG hS => ?_)
            obtain ⟨u72, eu72, h⟩ := xlet_of h
            replace hG : G t u72 H := by rw [eu72]; exact hG
            refine lv_aload_n X.1.1 X.1.2.1 dJ6_getChars_ba4f3_56 rfl (lv_at hl 4 rfl) ?_
            refine lv_iinc (v := (iI ((x5_63 + (-1)) + (-1)))) (lv' := [(5, .int (iI ((x5_63 + (-1)) + (-1)))), (0, .int (iI x3_68)), (4, .int (iI x4_69)), (3, .int (iI x3_68)), (2, .ref (t.2.2.1 38)), (6, .int (iI s3))]) X.1.1 X.1.2.1 dJ6_getChars_ba4f3_57 hl (k := 0) rfl (iI_add _ _) (by decide) rfl (fun ls hl => ?_)
            refine lv_iload X.1.1 X.1.2.1 dJ6_getChars_ba4f3_60 (lv_at hl 0 rfl) ?_
            refine va_gets X.1.1 X.1.2.1 zDigitTens hS X.1.2.2.2.1 (X.1.2.2.2.2 _ w2) (fun _ h9 => h9) dJ6_getChars_ba4f3_62 ?_
            refine lv_iload X.1.1 X.1.2.1 dJ6_getChars_ba4f3_65 (lv_at hl 2 rfl) ?_
            obtain ⟨g73, h⟩ := xgd_of h
            refine x_stldb X yDigitTens hS (L := gL_DigitTens) g73 (by decide) dJ6_getChars_ba4f3_67 ?_
            obtain ⟨g74, h⟩ := xgd_of h
            refine x_sbst X hG hS g74.1 g74.2 dJ6_getChars_ba4f3_68 (fun H locs hG hS => ?_)
            obtain ⟨u75, eu75, h⟩ := xlet_of h
            replace hG : G t u75 H := by rw [eu75]; exact hG
            refine lv_goto (tgt := 22) X.1.1 X.1.2.1 dJ6_getChars_ba4f3_69 (by decide) ?_
            exact igo61 _ _ _ _ h rfl _ _ _ hG hS (lv_sub hl [1, 0, 4, 5] rfl)
        exact Lgo61 FU _ _ _ h _ _ _ hG hS (lv_sub hl [0, 3, 2, 1] rfl)
  refine x_if_ge (tgt := 11) X g1 dJ6_getChars_ba4f3_4 (by decide) (fun c76 => ?_) (fun c76 => ?_)
  · replace h := xif_t h c76
    refine x_iconst X dJ6_getChars_ba4f3_11 ?_
    exact Jj2 _ _ h _ _ _ hG hS (lv_sub hl [1, 3, 0] rfl)
  · replace h := xif_f h c76
    refine x_iconst X dJ6_getChars_ba4f3_7 ?_
    refine lv_goto (tgt := 12) X.1.1 X.1.2.1 dJ6_getChars_ba4f3_8 (by decide) ?_
    exact Jj2 _ _ h _ _ _ hG hS (lv_sub hl [1, 3, 0] rfl)
theorem hds_J6_getChars_ba4f3 : yJ6_getChars_ba4f3.cls ≠ "java/lang/invoke/MethodHandle" ∧ yJ6_getChars_ba4f3.cls ≠ "java/lang/invoke/VarHandle" ∧ (parseMethodDescriptor yJ6_getChars_ba4f3.desc).map (fun d => d.parameters.length) = some 3 := by decide +kernel
abbrev rJ4_length_8abf5 : Room := { frames := 1, cells := 0, slots := 0, locals := 20 }
set_option maxRecDepth 100000 in
set_option maxHeartbeats 8000000 in
theorem c_J4_length_8abf5 (l : Launch) (t : gP) (u : uS) (r : Int) (u' : uS) (h : f_J4_length_8abf5 u = some (r, u')) : xMi l yJ4_length_8abf5 wsJ4_length_8abf5 rJ4_length_8abf5 t [.ref (t.2.2.1 37)] u r u' 0 0 := by
  refine x_ofWi (cc := cJ4_length_8abf5) (maxL := 1) (ret := .int) (own := RJ4) (by decide) rfl rfl (Nat.le_of_ble_eq_true rfl) ?_
  intro p e s m args below meth c Q X hret H locs ls hG hS hl
  replace hl : lv_has ls 1 [(0, .ref (t.2.2.1 37))] := hl
  have q37 : 37 < NN ∧ sT 37 = 1 := by decide
  unfold f_J4_length_8abf5 at h
  refine lv_aload_n X.1.1 X.1.2.1 dJ4_length_8abf5_0 rfl (lv_at hl 0 rfl) ?_
  obtain ⟨v1, u2, hf, h⟩ := xbd_of h
  refine x_ki hS (va_runSU (As := []) (X.2.1.1 1 (RJ4, TJ4, 4) rfl).2 X.1 (c_J5_length_8abf5 l t  _ _ _ hf) (va_cwSU 0 X.1.2.2.2.2 gJ4_length_8abf5_J5_length_8abf5_s343 rfl rfl rfl ⟨by decide, hd_J5_length_8abf5.2.2.2⟩ ⟨Nat.le_of_ble_eq_true rfl, Nat.le_of_ble_eq_true rfl⟩) ⟨x_blind, x_sbrecv X hG, x_pre X hG hS⟩ rfl rfl hl.1 rfl (lv_room (Nat.le_of_ble_eq_true rfl)) dJ4_length_8abf5_1 ⟨by decide, by decide⟩) (fun H locs hG hS => ?_)
  cases h
  exact hret _ _ _ _ dJ4_length_8abf5_4 rfl hG hS
theorem hd_J4_length_8abf5 : yJ4_length_8abf5.cls = RJ4 ∧ yJ4_length_8abf5.cls ≠ "java/lang/invoke/MethodHandle" ∧ yJ4_length_8abf5.cls ≠ "java/lang/invoke/VarHandle" ∧ (parseMethodDescriptor yJ4_length_8abf5.desc).map (fun d => d.parameters.length) = some 0 := by decide +kernel
abbrev rJ5_inflateIfNeededFor_a7421 : Room := { frames := 1, cells := 0, slots := 0, locals := 20 }
set_option maxRecDepth 100000 in
set_option maxHeartbeats 8000000 in
theorem c_J5_inflateIfNeededFor_a7421 (l : Launch) (t : gP) (k1 : Nat) (u : uS) (r : Int) (u' : uS) (h : f_J5_inflateIfNeededFor_a7421 k1 u = some (r, u')) : xMv l yJ5_inflateIfNeededFor_a7421 wsJ5_inflateIfNeededFor_a7421 rJ5_inflateIfNeededFor_a7421 t [.ref (t.2.2.1 37), .ref (t.2.2.1 k1)] u u' 0 0 := by
  refine x_ofWv (cc := cJ5_inflateIfNeededFor_a7421) (maxL := 2) (own := RJ5) (by decide) rfl rfl (Nat.le_of_ble_eq_true rfl) ?_
  intro p e s m args below meth c Q X hret H locs ls hG hS hl
  replace hl : lv_has ls 2 [(0, .ref (t.2.2.1 37)), (1, .ref (t.2.2.1 k1))] := hl
  have q37 : 37 < NN ∧ sT 37 = 1 := by decide
  have w1 : Cond.fieldLink RJ5 18 "java/lang/String" "COMPACT_STRINGS" "Z" ∈ wsJ5_inflateIfNeededFor_a7421 := x_w 1 rfl
  have iJ4 : ∀ w ∈ wsJ40, w ∈ wsJ5_inflateIfNeededFor_a7421 := by decide +kernel
  have w2 : Cond.fieldLink RJ5 22 "java/lang/AbstractStringBuilder" "coder" "B" ∈ wsJ5_inflateIfNeededFor_a7421 := x_w 2 rfl
  unfold f_J5_inflateIfNeededFor_a7421 at h
  obtain ⟨g1, h⟩ := xgd_of h
  refine va_gets X.1.1 X.1.2.1 X.2.2.1.2.2.1.1 hS X.1.2.2.2.1 (X.1.2.2.2.2 _ w1) (fun _ h9 => h9) dJ5_inflateIfNeededFor_a7421_0 ?_
  refine x_one ?_
  refine x_if_eq (tgt := 21) X ⟨by decide, by decide⟩ dJ5_inflateIfNeededFor_a7421_3 (by decide) (fun c2 => ?_) (fun c2 => ?_)
  · replace h := xif_t h c2
    cases h
    exact hret _ _ _ _ dJ5_inflateIfNeededFor_a7421_21 hG hS
  · replace h := xif_f h c2
    refine lv_aload_n X.1.1 X.1.2.1 dJ5_inflateIfNeededFor_a7421_6 rfl (lv_at hl 0 rfl) ?_
    refine x_geti X hG 1 1 37 1 (inC := iJ4) rfl q37.1 q37.2 ⟨by decide, by decide, by decide, rfl, rfl⟩ w2 dJ5_inflateIfNeededFor_a7421_7 ?_
    refine lv_aload_n X.1.1 X.1.2.1 dJ5_inflateIfNeededFor_a7421_10 rfl (lv_at hl 1 rfl) ?_
    obtain ⟨v3, u4, hf, h⟩ := xbd_of h
    refine x_callSti0 X hG hS (c_J0_coder_7d493 l t _ _ _ _ hf) (cwV 0 X.1.2.2.2.2 gJ5_inflateIfNeededFor_a7421_J0_coder_7d493 rfl rfl rfl hd_J0_coder_7d493 ⟨Nat.le_of_ble_eq_true rfl, Nat.le_of_ble_eq_true rfl⟩) g1 (by rfl) hl.1 (Nat.le_of_ble_eq_true rfl) dJ5_inflateIfNeededFor_a7421_11 ⟨by decide, by decide⟩ rfl (fun H locs hG hS => ?_)
    obtain ⟨g5, h⟩ := xgd_of h
    refine x_icmp_eq (tgt := 21) X g5.1 g5.2 dJ5_inflateIfNeededFor_a7421_14 (by decide) (fun c6 => ?_) (fun c6 => ?_)
    · replace h := xif_t h c6
      cases h
      exact hret _ _ _ _ dJ5_inflateIfNeededFor_a7421_21 hG hS
    · replace h := xif_f h c6
      refine lv_aload_n X.1.1 X.1.2.1 dJ5_inflateIfNeededFor_a7421_17 rfl (lv_at hl 0 rfl) ?_
      cases h
theorem hd_J5_inflateIfNeededFor_a7421 : yJ5_inflateIfNeededFor_a7421.cls = RJ5 ∧ yJ5_inflateIfNeededFor_a7421.cls ≠ "java/lang/invoke/MethodHandle" ∧ yJ5_inflateIfNeededFor_a7421.cls ≠ "java/lang/invoke/VarHandle" ∧ (parseMethodDescriptor yJ5_inflateIfNeededFor_a7421.desc).map (fun d => d.parameters.length) = some 1 := by decide +kernel
abbrev rJ0_getBytes_840e7 : Room := { frames := 1, cells := 0, slots := 0, locals := 60 }
set_option maxRecDepth 100000 in
set_option maxHeartbeats 8000000 in
theorem c_J0_getBytes_840e7 (l : Launch) (t : gP) (k0 : Nat) (x2 : Int) (x3 : Int) (u : uS) (r : Int) (u' : uS) (h : f_J0_getBytes_840e7 k0 x2 x3 u = some (r, u')) : xMv l yJ0_getBytes_840e7 wsJ0_getBytes_840e7 rJ0_getBytes_840e7 t [.ref (t.2.2.1 k0), .ref (t.2.2.1 38), .int (iI x2), .int (iI x3)] u u' 0 0 := by
  refine x_ofWv (cc := cJ0_getBytes_840e7) (maxL := 4) (own := RJ0) (by decide) rfl rfl (Nat.le_of_ble_eq_true rfl) ?_
  intro p e s m args below meth c Q X hret H locs ls hG hS hl
  replace hl : lv_has ls 4 [(0, .ref (t.2.2.1 k0)), (1, .ref (t.2.2.1 38)), (2, .int (iI x2)), (3, .int (iI x3))] := hl
  have q38 : 38 < NN ∧ sT 38 = 105 ∧ sN 38 = 0 := by decide
  have w1 : Cond.fieldLink RJ0 9 "java/lang/String" "value" "[B" ∈ wsJ0_getBytes_840e7 := x_w 1 rfl
  have w2 : Cond.methodLink RJ0 212 arraycopyName ∈ wsJ0_getBytes_840e7 := x_w 2 rfl
  have w3 : Cond.native arraycopyName ∈ wsJ0_getBytes_840e7 := x_w 3 rfl
  have w4 : Cond.static arraycopyName ∈ wsJ0_getBytes_840e7 := x_w 4 rfl
  have w5 : Cond.initialized "java/lang/System" ∈ wsJ0_getBytes_840e7 := x_w 5 rfl
  unfold f_J0_getBytes_840e7 at h
  obtain ⟨g1, h⟩ := xgd_of h
  refine lv_aload_n X.1.1 X.1.2.1 dJ0_getBytes_840e7_0 rfl (lv_at hl 0 rfl) ?_
  obtain ⟨v2, u3, hf, h⟩ := xbd_of h
  refine x_callSti0 X hG hS (c_J0_coder_7d493 l t _ _ _ _ hf) (cwV 0 X.1.2.2.2.2 gJ0_getBytes_840e7_J0_coder_7d493 rfl rfl rfl hd_J0_coder_7d493 ⟨Nat.le_of_ble_eq_true rfl, Nat.le_of_ble_eq_true rfl⟩) g1 (by rfl) hl.1 (Nat.le_of_ble_eq_true rfl) dJ0_getBytes_840e7_1 ⟨by decide, by decide⟩ rfl (fun H locs hG hS => ?_)
  refine lv_iload_n X.1.1 X.1.2.1 dJ0_getBytes_840e7_4 rfl (lv_at hl 3 rfl) ?_
  obtain ⟨g4, h⟩ := xgd_of h
  refine x_icmp_ne (tgt := 28) X g4.1 g4.2 dJ0_getBytes_840e7_5 (by decide) (fun c5 => ?_) (fun c5 => ?_)
  · replace h := xif_f h c5
    refine lv_aload_n X.1.1 X.1.2.1 dJ0_getBytes_840e7_28 rfl (lv_at hl 0 rfl) ?_
    have hs6 := x_strf X g1
    refine vk_getf X.1.1 X.1.2.1 hs6.1.2.2.1 hS X.1.2.2.2.1 (X.1.2.2.2.2 _ w1) (fun _ h9 => h9) dJ0_getBytes_840e7_29 ?_
    refine x_iconst X dJ0_getBytes_840e7_32 ?_
    refine lv_aload_n X.1.1 X.1.2.1 dJ0_getBytes_840e7_33 rfl (lv_at hl 1 rfl) ?_
    refine lv_iload_n X.1.1 X.1.2.1 dJ0_getBytes_840e7_34 rfl (lv_at hl 2 rfl) ?_
    refine lv_aload_n X.1.1 X.1.2.1 dJ0_getBytes_840e7_35 rfl (lv_at hl 0 rfl) ?_
    have hs7 := x_strf X g1
    refine vk_getf X.1.1 X.1.2.1 hs7.1.2.2.1 hS X.1.2.2.2.1 (X.1.2.2.2.2 _ w1) (fun _ h9 => h9) dJ0_getBytes_840e7_36 ?_
    refine va_tlen X.1.1 X.1.2.1 hs7.1.2.2.2 hS (iI_nat _) dJ0_getBytes_840e7_39 ?_
    cases h
  · replace h := xif_t h c5
    refine lv_aload_n X.1.1 X.1.2.1 dJ0_getBytes_840e7_8 rfl (lv_at hl 0 rfl) ?_
    have hs8 := x_strf X g1
    refine vk_getf X.1.1 X.1.2.1 hs8.1.2.2.1 hS X.1.2.2.2.1 (X.1.2.2.2.2 _ w1) (fun _ h9 => h9) dJ0_getBytes_840e7_9 ?_
    refine x_iconst X dJ0_getBytes_840e7_12 ?_
    refine lv_aload_n X.1.1 X.1.2.1 dJ0_getBytes_840e7_13 rfl (lv_at hl 1 rfl) ?_
    refine lv_iload_n X.1.1 X.1.2.1 dJ0_getBytes_840e7_14 rfl (lv_at hl 2 rfl) ?_
    refine lv_iload_n X.1.1 X.1.2.1 dJ0_getBytes_840e7_15 rfl (lv_at hl 3 rfl) ?_
    obtain ⟨g9, h⟩ := xgd_of h
    refine x_ishl X g9 dJ0_getBytes_840e7_16 ?_
    refine lv_aload_n X.1.1 X.1.2.1 dJ0_getBytes_840e7_17 rfl (lv_at hl 0 rfl) ?_
    have hs10 := x_strf X g1
    refine vk_getf X.1.1 X.1.2.1 hs10.1.2.2.1 hS X.1.2.2.2.1 (X.1.2.2.2.2 _ w1) (fun _ h9 => h9) dJ0_getBytes_840e7_18 ?_
    refine va_tlen X.1.1 X.1.2.1 hs10.1.2.2.2 hS (iI_nat _) dJ0_getBytes_840e7_21 ?_
    obtain ⟨g11, h⟩ := xgd_of h
    refine x_sbcpy (R := rJ0_getBytes_840e7) X hG hS g1 hl.1 w2 w3 w4 w5 rfl g11 (by decide) (by decide) dJ0_getBytes_840e7_22 (Nat.le_of_ble_eq_true rfl) (fun H locs hG hS => ?_)
    obtain ⟨u12, eu12, h⟩ := xlet_of h
    replace hG : G t u12 H := by rw [eu12]; exact hG
    refine lv_goto (tgt := 43) X.1.1 X.1.2.1 dJ0_getBytes_840e7_25 (by decide) ?_
    cases h
    exact hret _ _ _ _ dJ0_getBytes_840e7_43 hG hS
theorem hd_J0_getBytes_840e7 : yJ0_getBytes_840e7.cls = RJ0 ∧ yJ0_getBytes_840e7.cls ≠ "java/lang/invoke/MethodHandle" ∧ yJ0_getBytes_840e7.cls ≠ "java/lang/invoke/VarHandle" ∧ (parseMethodDescriptor yJ0_getBytes_840e7.desc).map (fun d => d.parameters.length) = some 3 := by decide +kernel
abbrev rJ5_putStringAt_47b60 : Room := { frames := 2, cells := 0, slots := 0, locals := 83 }
set_option maxRecDepth 100000 in
set_option maxHeartbeats 8000000 in
theorem c_J5_putStringAt_47b60 (l : Launch) (t : gP) (x1 : Int) (k2 : Nat) (u : uS) (r : Int) (u' : uS) (h : f_J5_putStringAt_47b60 x1 k2 u = some (r, u')) : xMv l yJ5_putStringAt_47b60 wsJ5_putStringAt_47b60 rJ5_putStringAt_47b60 t [.ref (t.2.2.1 37), .int (iI x1), .ref (t.2.2.1 k2)] u u' 0 0 := by
  refine x_ofWv (cc := cJ5_putStringAt_47b60) (maxL := 3) (own := RJ5) (by decide) rfl rfl (Nat.le_of_ble_eq_true rfl) ?_
  intro p e s m args below meth c Q X hret H locs ls hG hS hl
  replace hl : lv_has ls 3 [(0, .ref (t.2.2.1 37)), (1, .int (iI x1)), (2, .ref (t.2.2.1 k2))] := hl
  have q37 : 37 < NN ∧ sT 37 = 1 := by decide
  have iJ4 : ∀ w ∈ wsJ40, w ∈ wsJ5_putStringAt_47b60 := by decide +kernel
  have w1 : Cond.fieldLink RJ5 15 "java/lang/AbstractStringBuilder" "value" "[B" ∈ wsJ5_putStringAt_47b60 := x_w 1 rfl
  have q38 : 38 < NN ∧ sT 38 = 105 ∧ sN 38 = 0 := by decide
  have w2 : Cond.fieldLink RJ5 22 "java/lang/AbstractStringBuilder" "coder" "B" ∈ wsJ5_putStringAt_47b60 := x_w 2 rfl
  unfold f_J5_putStringAt_47b60 at h
  obtain ⟨g1, h⟩ := xgd_of h
  refine lv_aload_n X.1.1 X.1.2.1 dJ5_putStringAt_47b60_0 rfl (lv_at hl 0 rfl) ?_
  refine lv_aload_n X.1.1 X.1.2.1 dJ5_putStringAt_47b60_1 rfl (lv_at hl 2 rfl) ?_
  obtain ⟨v2, u3, hf, h⟩ := xbd_of h
  refine x_kv hS (va_runU (As := [.ref (t.2.2.1 k2)]) X.1 (c_J5_inflateIfNeededFor_a7421 l t _ _ _ _ hf) (va_cwU 1 X.1.2.2.2.2 gJ5_putStringAt_47b60_J5_inflateIfNeededFor_a7421_u397J4 rfl rfl rfl rfl hd_J5_inflateIfNeededFor_a7421.2 ⟨Nat.le_of_ble_eq_true rfl, Nat.le_of_ble_eq_true rfl⟩) ⟨x_blind, x_sbrecv X hG, x_pre X hG hS⟩ rfl rfl hl.1 rfl (lv_room (Nat.le_of_ble_eq_true rfl)) dJ5_putStringAt_47b60_2 ⟨by decide, by decide⟩) (fun H locs hG hS => ?_)
  refine lv_aload_n X.1.1 X.1.2.1 dJ5_putStringAt_47b60_5 rfl (lv_at hl 2 rfl) ?_
  refine lv_aload_n X.1.1 X.1.2.1 dJ5_putStringAt_47b60_6 rfl (lv_at hl 0 rfl) ?_
  refine x_getr X hG 1 0 37 1 (inC := iJ4) rfl q37.1 q37.2 ⟨by decide, by decide, by decide, rfl, by decide, by decide⟩ w1 dJ5_putStringAt_47b60_7 ?_
  refine lv_iload_n X.1.1 X.1.2.1 dJ5_putStringAt_47b60_10 rfl (lv_at hl 1 rfl) ?_
  refine lv_aload_n X.1.1 X.1.2.1 dJ5_putStringAt_47b60_11 rfl (lv_at hl 0 rfl) ?_
  refine x_geti X hG 1 1 37 1 (inC := iJ4) rfl q37.1 q37.2 ⟨by decide, by decide, by decide, rfl, rfl⟩ w2 dJ5_putStringAt_47b60_12 ?_
  obtain ⟨v4, u5, hf, h⟩ := xbd_of h
  refine x_callStv0 X hG hS (c_J0_getBytes_840e7 l t _ _ _ _ _ _ hf) (cwV 3 X.1.2.2.2.2 gJ5_putStringAt_47b60_J0_getBytes_840e7 rfl rfl rfl hd_J0_getBytes_840e7 ⟨Nat.le_of_ble_eq_true rfl, Nat.le_of_ble_eq_true rfl⟩) g1 (by rfl) hl.1 (Nat.le_of_ble_eq_true rfl) dJ5_putStringAt_47b60_15 ⟨by decide, by decide⟩ rfl (fun H locs hG hS => ?_)
  cases h
  exact hret _ _ _ _ dJ5_putStringAt_47b60_18 hG hS
theorem hd_J5_putStringAt_47b60 : yJ5_putStringAt_47b60.cls = RJ5 ∧ yJ5_putStringAt_47b60.cls ≠ "java/lang/invoke/MethodHandle" ∧ yJ5_putStringAt_47b60.cls ≠ "java/lang/invoke/VarHandle" ∧ (parseMethodDescriptor yJ5_putStringAt_47b60.desc).map (fun d => d.parameters.length) = some 2 := by decide +kernel
