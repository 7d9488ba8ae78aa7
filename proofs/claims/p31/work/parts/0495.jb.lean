abbrev rJ5_append_cf1ce : Room := { frames := 4, cells := 1, slots := 600, locals := 142 }
set_option maxRecDepth 100000 in
set_option maxHeartbeats 8000000 in
theorem c_J5_append_cf1ce (l : Launch) (t : gP) (k1 : Nat) (u : uS) (r : Int) (u' : uS) (h : f_J5_append_cf1ce k1 u = some (r, u')) : xMsm l yJ5_append_cf1ce wsJ5_append_cf1ce rJ5_append_cf1ce t [.ref (t.2.2.1 37), .ref (t.2.2.1 k1)] u r u' 1 600 := by
  refine x_ofWsm (cc := cJ5_append_cf1ce) (maxL := 3) (own := RJ5) (by decide) rfl rfl (Nat.le_of_ble_eq_true rfl) ?_
  intro p e s m args below meth c Q X hret H locs ls hG hS hl
  replace hl : lv_has ls 3 [(0, .ref (t.2.2.1 37)), (1, .ref (t.2.2.1 k1))] := hl
  have q37 : 37 < NN ∧ sT 37 = 1 := by decide
  have iJ4 : ∀ w ∈ wsJ40, w ∈ wsJ5_append_cf1ce := by decide +kernel
  have w1 : Cond.fieldLink RJ5 79 "java/lang/AbstractStringBuilder" "count" "I" ∈ wsJ5_append_cf1ce := x_w 1 rfl
  have X0 := X
  obtain ⟨b, hb⟩ : ∃ b, mv t b = t := ⟨_, mv_self⟩
  replace hG : G (mv t b) u H := by rw [hb]; exact hG
  replace X := X0.mv (b := b)
  unfold f_J5_append_cf1ce at h
  obtain ⟨g1, h⟩ := xgd_of h
  refine lv_aload_n X.1.1 X.1.2.1 dJ5_append_cf1ce_0 rfl (lv_at hl 1 rfl) ?_
  refine lv_ifnonnull (tgt := 9) X.1.1 X.1.2.1 dJ5_append_cf1ce_1 (by decide) ?_
  refine lv_aload_n X.1.1 X.1.2.1 dJ5_append_cf1ce_9 rfl (lv_at hl 1 rfl) ?_
  obtain ⟨v2, u3, hf, h⟩ := xbd_of h
  rw [show t.2.2.1 k1 = (mv t b).2.2.1 k1 from (mv_at (by have := g1; omega)).symm]
  refine x_callSti0 X hG hS (c_J0_length_8abf5 l (mv t b) _ _ _ _ hf) (cwV 0 X.1.2.2.2.2 gJ5_append_cf1ce_J0_length_8abf5 rfl rfl rfl hd_J0_length_8abf5 ⟨Nat.le_of_ble_eq_true rfl, Nat.le_of_ble_eq_true rfl⟩) g1 (by rfl) hl.1 (Nat.le_of_ble_eq_true rfl) dJ5_append_cf1ce_10 ⟨by decide, by decide⟩ rfl (fun H locs hG hS => ?_)
  refine lv_istore_n (lv' := [(2, .int (iI v2)), (0, .ref (t.2.2.1 37)), (1, .ref (t.2.2.1 k1))]) X.1.1 X.1.2.1 dJ5_append_cf1ce_13 rfl hl (by decide) rfl (fun ls hl => ?_)
  refine lv_aload_n X.1.1 X.1.2.1 dJ5_append_cf1ce_14 rfl (lv_at hl 1 rfl) ?_
  refine lv_aload_n X.1.1 X.1.2.1 dJ5_append_cf1ce_15 rfl (lv_at hl 1 rfl) ?_
  refine x_geti X hG 1 3 37 3 (inC := iJ4) rfl q37.1 q37.2 ⟨by decide, by decide, by decide, rfl, rfl⟩ w1 dJ5_append_cf1ce_16 ?_
  refine lv_iload_n X.1.1 X.1.2.1 dJ5_append_cf1ce_19 rfl (lv_at hl 0 rfl) ?_
  refine x_iadd X dJ5_append_cf1ce_20 ?_
  obtain ⟨v4, u5, hf, h⟩ := xbd_of h
  refine x_kvm (t := mv t b) hS (va_runU (As := [.int (iI (u3 37 3 + v2))]) X.1 (c_J5_ensureCapacityInternal_d00df l (mv t b) _ _ _ _ hf) (va_cwU 1 X.1.2.2.2.2 gJ5_append_cf1ce_J5_ensureCapacityInternal_d00df_u100J4 rfl rfl rfl rfl hd_J5_ensureCapacityInternal_d00df.2 ⟨Nat.le_of_ble_eq_true rfl, Nat.le_of_ble_eq_true rfl⟩) ⟨x_blind, x_sbrecv X hG, x_pre X hG hS⟩ rfl rfl hl.1 rfl (lv_room (Nat.le_of_ble_eq_true rfl)) dJ5_append_cf1ce_21 ⟨by decide, by decide⟩) (fun b H locs hG hS => ?_)
  rw [mv_mv] at hG
  replace X := X0.mv (b := b)
  replace hS : va_S (gA t) s.heap H locs := hS
  refine lv_aload_n X.1.1 X.1.2.1 dJ5_append_cf1ce_24 rfl (lv_at hl 1 rfl) ?_
  refine lv_aload_n X.1.1 X.1.2.1 dJ5_append_cf1ce_25 rfl (lv_at hl 1 rfl) ?_
  refine x_geti X hG 1 3 37 3 (inC := iJ4) rfl q37.1 q37.2 ⟨by decide, by decide, by decide, rfl, rfl⟩ w1 dJ5_append_cf1ce_26 ?_
  refine lv_aload_n X.1.1 X.1.2.1 dJ5_append_cf1ce_29 rfl (lv_at hl 2 rfl) ?_
  rw [show t.2.2.1 k1 = (mv t b).2.2.1 k1 from (mv_at (by have := g1; omega)).symm]
  obtain ⟨v6, u7, hf, h⟩ := xbd_of h
  refine x_kv (t := mv t b) hS (va_runU (As := [.int (iI (u5 37 3)), .ref ((mv t b).2.2.1 k1)]) X.1 (c_J5_putStringAt_47b60 l (mv t b) _ _ _ _ _ hf) (va_cwU 2 X.1.2.2.2.2 gJ5_append_cf1ce_J5_putStringAt_47b60_u208J4 rfl rfl rfl rfl hd_J5_putStringAt_47b60.2 ⟨Nat.le_of_ble_eq_true rfl, Nat.le_of_ble_eq_true rfl⟩) ⟨x_blind, x_sbrecv X hG, x_pre X hG hS⟩ rfl rfl hl.1 rfl (lv_room (Nat.le_of_ble_eq_true rfl)) dJ5_append_cf1ce_30 ⟨by decide, by decide⟩) (fun H locs hG hS => ?_)
  refine lv_aload_n X.1.1 X.1.2.1 dJ5_append_cf1ce_33 rfl (lv_at hl 1 rfl) ?_
  refine lv_dup X.1.1 X.1.2.1 dJ5_append_cf1ce_34 rfl ?_
  refine x_geti X hG 1 3 37 3 (inC := iJ4) rfl q37.1 q37.2 ⟨by decide, by decide, by decide, rfl, rfl⟩ w1 dJ5_append_cf1ce_35 ?_
  refine lv_iload_n X.1.1 X.1.2.1 dJ5_append_cf1ce_38 rfl (lv_at hl 0 rfl) ?_
  refine x_iadd X dJ5_append_cf1ce_39 ?_
  refine x_puti X hG hS 1 3 37 3 _ tyJ4 tyJ4_ok nmJ4 (inC := iJ4) rfl q37.1 q37.2 ⟨by decide, by decide, by decide, rfl, rfl⟩ rfl (by decide +kernel) w1 dJ5_append_cf1ce_40 (fun H locs hG hS => ?_)
  obtain ⟨u8, eu8, h⟩ := xlet_of h
  replace hG : G (mv t b) u8 H := by rw [eu8]; exact hG
  refine lv_aload_n X.1.1 X.1.2.1 dJ5_append_cf1ce_43 rfl (lv_at hl 1 rfl) ?_
  cases h
  exact hret _ _ _ _ _ _ _ (by decide) (by decide) dJ5_append_cf1ce_44 hG hS
theorem hd_J5_append_cf1ce : yJ5_append_cf1ce.cls = RJ5 ∧ yJ5_append_cf1ce.cls ≠ "java/lang/invoke/MethodHandle" ∧ yJ5_append_cf1ce.cls ≠ "java/lang/invoke/VarHandle" ∧ (parseMethodDescriptor yJ5_append_cf1ce.desc).map (fun d => d.parameters.length) = some 1 := by decide +kernel
abbrev rJ5_append_3fe6f : Room := { frames := 4, cells := 1, slots := 600, locals := 142 }
set_option maxRecDepth 100000 in
set_option maxHeartbeats 8000000 in
theorem c_J5_append_3fe6f (l : Launch) (t : gP) (x1 : Int) (u : uS) (r : Int) (u' : uS) (h : f_J5_append_3fe6f x1 u = some (r, u')) : xMsm l yJ5_append_3fe6f wsJ5_append_3fe6f rJ5_append_3fe6f t [.ref (t.2.2.1 37), .int (iI x1)] u r u' 1 600 := by
  refine x_ofWsm (cc := cJ5_append_3fe6f) (maxL := 2) (own := RJ5) (by decide) rfl rfl (Nat.le_of_ble_eq_true rfl) ?_
  intro p e s m args below meth c Q X hret H locs ls hG hS hl
  replace hl : lv_has ls 2 [(0, .ref (t.2.2.1 37)), (1, .int (iI x1))] := hl
  have q37 : 37 < NN ∧ sT 37 = 1 := by decide
  have iJ4 : ∀ w ∈ wsJ40, w ∈ wsJ5_append_3fe6f := by decide +kernel
  have w1 : Cond.fieldLink RJ5 79 "java/lang/AbstractStringBuilder" "count" "I" ∈ wsJ5_append_3fe6f := x_w 1 rfl
  have w2 : Cond.fieldLink RJ5 15 "java/lang/AbstractStringBuilder" "value" "[B" ∈ wsJ5_append_3fe6f := x_w 2 rfl
  have q38 : 38 < NN ∧ sT 38 = 105 ∧ sN 38 = 0 := by decide
  have X0 := X
  obtain ⟨b, hb⟩ : ∃ b, mv t b = t := ⟨_, mv_self⟩
  replace hG : G (mv t b) u H := by rw [hb]; exact hG
  replace X := X0.mv (b := b)
  unfold f_J5_append_3fe6f at h
  refine lv_aload_n X.1.1 X.1.2.1 dJ5_append_3fe6f_0 rfl (lv_at hl 0 rfl) ?_
  refine lv_aload_n X.1.1 X.1.2.1 dJ5_append_3fe6f_1 rfl (lv_at hl 0 rfl) ?_
  refine x_geti X hG 1 3 37 3 (inC := iJ4) rfl q37.1 q37.2 ⟨by decide, by decide, by decide, rfl, rfl⟩ w1 dJ5_append_3fe6f_2 ?_
  refine x_iconst X dJ5_append_3fe6f_5 ?_
  refine x_iadd X dJ5_append_3fe6f_6 ?_
  obtain ⟨v1, u2, hf, h⟩ := xbd_of h
  refine x_kvm (t := mv t b) hS (va_runU (As := [.int (iI (u 37 3 + 1))]) X.1 (c_J5_ensureCapacityInternal_d00df l (mv t b) _ _ _ _ hf) (va_cwU 1 X.1.2.2.2.2 gJ5_append_3fe6f_J5_ensureCapacityInternal_d00df_u100J4 rfl rfl rfl rfl hd_J5_ensureCapacityInternal_d00df.2 ⟨Nat.le_of_ble_eq_true rfl, Nat.le_of_ble_eq_true rfl⟩) ⟨x_blind, x_sbrecv X hG, x_pre X hG hS⟩ rfl rfl hl.1 rfl (lv_room (Nat.le_of_ble_eq_true rfl)) dJ5_append_3fe6f_7 ⟨by decide, by decide⟩) (fun b H locs hG hS => ?_)
  rw [mv_mv] at hG
  replace X := X0.mv (b := b)
  replace hS : va_S (gA t) s.heap H locs := hS
  refine lv_aload_n X.1.1 X.1.2.1 dJ5_append_3fe6f_10 rfl (lv_at hl 0 rfl) ?_
  obtain ⟨v3, u4, hf, h⟩ := xbd_of h
  refine x_ki (t := mv t b) hS (va_runU (As := []) X.1 (c_J5_isLatin1_aae02 l (mv t b)  _ _ _ hf) (va_cwU 0 X.1.2.2.2.2 gJ5_append_3fe6f_J5_isLatin1_aae02_u83J4 rfl rfl rfl rfl hd_J5_isLatin1_aae02.2 ⟨Nat.le_of_ble_eq_true rfl, Nat.le_of_ble_eq_true rfl⟩) ⟨x_blind, x_sbrecv X hG, x_pre X hG hS⟩ rfl rfl hl.1 rfl (lv_room (Nat.le_of_ble_eq_true rfl)) dJ5_append_3fe6f_11 ⟨by decide, by decide⟩) (fun H locs hG hS => ?_)
  obtain ⟨g5, h⟩ := xgd_of h
  obtain ⟨j6, ej6, h⟩ := xlet_of h
  have Jj6 : ∀ (b : Nat) (u7 : uS), j6 u7 = some (r, u') → xG p l e rJ5_append_3fe6f s m args below meth c (mv t b) Q 2 1 600 45 u7 [(0, .ref (t.2.2.1 37)), (1, .int (iI x1))] [] := by
      intro b u7 h H locs ls hG hS hl
      replace X := X0.mv (b := b)
      replace h := (congrFun ej6 u7).symm.trans h
      refine lv_aload_n X.1.1 X.1.2.1 dJ5_append_3fe6f_45 rfl (lv_at hl 0 rfl) ?_
      obtain ⟨v8, u9, hf, h⟩ := xbd_of h
      refine x_ki (t := mv t b) hS (va_runU (As := []) X.1 (c_J5_isLatin1_aae02 l (mv t b)  _ _ _ hf) (va_cwU 0 X.1.2.2.2.2 gJ5_append_3fe6f_J5_isLatin1_aae02_u83J4 rfl rfl rfl rfl hd_J5_isLatin1_aae02.2 ⟨Nat.le_of_ble_eq_true rfl, Nat.le_of_ble_eq_true rfl⟩) ⟨x_blind, x_sbrecv X hG, x_pre X hG hS⟩ rfl rfl hl.1 rfl (lv_room (Nat.le_of_ble_eq_true rfl)) dJ5_append_3fe6f_46 ⟨by decide, by decide⟩) (fun H locs hG hS => ?_)
      obtain ⟨g10, h⟩ := xgd_of h
      obtain ⟨j11, ej11, h⟩ := xlet_of h
      have Jj11 : ∀ (b : Nat) (u12 : uS), j11 u12 = some (r, u') → xG p l e rJ5_append_3fe6f s m args below meth c (mv t b) Q 2 1 600 56 u12 [(0, .ref (t.2.2.1 37)), (1, .int (iI x1))] [] := by
          intro b u12 h H locs ls hG hS hl
          replace X := X0.mv (b := b)
          replace h := (congrFun ej11 u12).symm.trans h
          refine lv_aload_n X.1.1 X.1.2.1 dJ5_append_3fe6f_56 rfl (lv_at hl 0 rfl) ?_
          refine x_getr X hG 1 0 37 1 (inC := iJ4) rfl q37.1 q37.2 ⟨by decide, by decide, by decide, rfl, by decide, by decide⟩ w2 dJ5_append_3fe6f_57 ?_
          refine lv_aload_n X.1.1 X.1.2.1 dJ5_append_3fe6f_60 rfl (lv_at hl 0 rfl) ?_
          refine lv_dup X.1.1 X.1.2.1 dJ5_append_3fe6f_61 rfl ?_
          refine x_geti X hG 1 3 37 3 (inC := iJ4) rfl q37.1 q37.2 ⟨by decide, by decide, by decide, rfl, rfl⟩ w1 dJ5_append_3fe6f_62 ?_
          refine lv_dup_x1 X.1.1 X.1.2.1 dJ5_append_3fe6f_65 rfl rfl ?_
          refine x_iconst X dJ5_append_3fe6f_66 ?_
          refine x_iadd X dJ5_append_3fe6f_67 ?_
          refine x_puti X hG hS 1 3 37 3 _ tyJ4 tyJ4_ok nmJ4 (inC := iJ4) rfl q37.1 q37.2 ⟨by decide, by decide, by decide, rfl, rfl⟩ rfl (by decide +kernel) w1 dJ5_append_3fe6f_68 (fun H locs hG hS => ?_)
          obtain ⟨u13, eu13, h⟩ := xlet_of h
          replace hG : G (mv t b) u13 H := by rw [eu13]; exact hG
          refine lv_iload_n X.1.1 X.1.2.1 dJ5_append_3fe6f_71 rfl (lv_at hl 1 rfl) ?_
          cases h
      refine x_if_eq (tgt := 56) X g10 dJ5_append_3fe6f_49 (by decide) (fun c14 => ?_) (fun c14 => ?_)
      · replace h := xif_t h c14
        exact Jj11 _ _ h _ _ _ hG hS (lv_sub hl [0, 1] rfl)
      · replace h := xif_f h c14
        refine lv_aload_n X.1.1 X.1.2.1 dJ5_append_3fe6f_52 rfl (lv_at hl 0 rfl) ?_
        cases h
  refine x_if_eq (tgt := 45) X g5 dJ5_append_3fe6f_14 (by decide) (fun c15 => ?_) (fun c15 => ?_)
  · replace h := xif_t h c15
    exact Jj6 _ _ h _ _ _ hG hS (lv_sub hl [0, 1] rfl)
  · replace h := xif_f h c15
    refine lv_iload_n X.1.1 X.1.2.1 dJ5_append_3fe6f_17 rfl (lv_at hl 1 rfl) ?_
    obtain ⟨v16, u17, hf, h⟩ := xbd_of h
    refine x_callSi0 X hG hS (c_J1_canEncode_fc78d l (mv t b) _ _ _ _ hf) (va_cwS 1 X.1.2.2.2.2 gJ5_append_3fe6f_J1_canEncode_fc78d rfl rfl rfl hds_J1_canEncode_fc78d ⟨Nat.le_of_ble_eq_true rfl, Nat.le_of_ble_eq_true rfl⟩) (by rfl) hl.1 (Nat.le_of_ble_eq_true rfl) dJ5_append_3fe6f_18 ⟨by decide, by decide⟩ rfl (fun H locs hG hS => ?_)
    obtain ⟨g18, h⟩ := xgd_of h
    refine x_if_eq (tgt := 45) X g18 dJ5_append_3fe6f_21 (by decide) (fun c19 => ?_) (fun c19 => ?_)
    · replace h := xif_t h c19
      exact Jj6 _ _ h _ _ _ hG hS (lv_sub hl [0, 1] rfl)
    · replace h := xif_f h c19
      refine lv_aload_n X.1.1 X.1.2.1 dJ5_append_3fe6f_24 rfl (lv_at hl 0 rfl) ?_
      refine x_getr X hG 1 0 37 1 (inC := iJ4) rfl q37.1 q37.2 ⟨by decide, by decide, by decide, rfl, by decide, by decide⟩ w2 dJ5_append_3fe6f_25 ?_
      refine lv_aload_n X.1.1 X.1.2.1 dJ5_append_3fe6f_28 rfl (lv_at hl 0 rfl) ?_
      refine lv_dup X.1.1 X.1.2.1 dJ5_append_3fe6f_29 rfl ?_
      refine x_geti X hG 1 3 37 3 (inC := iJ4) rfl q37.1 q37.2 ⟨by decide, by decide, by decide, rfl, rfl⟩ w1 dJ5_append_3fe6f_30 ?_
      refine lv_dup_x1 X.1.1 X.1.2.1 dJ5_append_3fe6f_33 rfl rfl ?_
      refine x_iconst X dJ5_append_3fe6f_34 ?_
      refine x_iadd X dJ5_append_3fe6f_35 ?_
      refine x_puti X hG hS 1 3 37 3 _ tyJ4 tyJ4_ok nmJ4 (inC := iJ4) rfl q37.1 q37.2 ⟨by decide, by decide, by decide, rfl, rfl⟩ rfl (by decide +kernel) w1 dJ5_append_3fe6f_36 (fun H locs hG hS => ?_)
      obtain ⟨u20, eu20, h⟩ := xlet_of h
      replace hG : G (mv t b) u20 H := by rw [eu20]; exact hG
      refine lv_iload_n X.1.1 X.1.2.1 dJ5_append_3fe6f_39 rfl (lv_at hl 1 rfl) ?_
      refine x_i2b X dJ5_append_3fe6f_40 ?_
      obtain ⟨g21, h⟩ := xgd_of h
      refine x_sbst X hG hS g21.1 g21.2 dJ5_append_3fe6f_41 (fun H locs hG hS => ?_)
      obtain ⟨u22, eu22, h⟩ := xlet_of h
      replace hG : G (mv t b) u22 H := by rw [eu22]; exact hG
      refine lv_goto (tgt := 75) X.1.1 X.1.2.1 dJ5_append_3fe6f_42 (by decide) ?_
      refine lv_aload_n X.1.1 X.1.2.1 dJ5_append_3fe6f_75 rfl (lv_at hl 0 rfl) ?_
      cases h
      exact hret _ _ _ _ _ _ _ (by decide) (by decide) dJ5_append_3fe6f_76 hG hS
theorem hd_J5_append_3fe6f : yJ5_append_3fe6f.cls = RJ5 ∧ yJ5_append_3fe6f.cls ≠ "java/lang/invoke/MethodHandle" ∧ yJ5_append_3fe6f.cls ≠ "java/lang/invoke/VarHandle" ∧ (parseMethodDescriptor yJ5_append_3fe6f.desc).map (fun d => d.parameters.length) = some 1 := by decide +kernel
abbrev rJ5_append_c97b9 : Room := { frames := 4, cells := 1, slots := 600, locals := 142 }
set_option maxRecDepth 100000 in
set_option maxHeartbeats 8000000 in
theorem c_J5_append_c97b9 (l : Launch) (t : gP) (x1 : Int) (u : uS) (r : Int) (u' : uS) (h : f_J5_append_c97b9 x1 u = some (r, u')) : xMsm l yJ5_append_c97b9 wsJ5_append_c97b9 rJ5_append_c97b9 t [.ref (t.2.2.1 37), .int (iI x1)] u r u' 1 600 := by
  refine x_ofWsm (cc := cJ5_append_c97b9) (maxL := 4) (own := RJ5) (by decide) rfl rfl (Nat.le_of_ble_eq_true rfl) ?_
  intro p e s m args below meth c Q X hret H locs ls hG hS hl
  replace hl : lv_has ls 4 [(0, .ref (t.2.2.1 37)), (1, .int (iI x1))] := hl
  have q37 : 37 < NN ∧ sT 37 = 1 := by decide
  have iJ4 : ∀ w ∈ wsJ40, w ∈ wsJ5_append_c97b9 := by decide +kernel
  have w1 : Cond.fieldLink RJ5 79 "java/lang/AbstractStringBuilder" "count" "I" ∈ wsJ5_append_c97b9 := x_w 1 rfl
  have w2 : Cond.fieldLink RJ5 15 "java/lang/AbstractStringBuilder" "value" "[B" ∈ wsJ5_append_c97b9 := x_w 2 rfl
  have q38 : 38 < NN ∧ sT 38 = 105 ∧ sN 38 = 0 := by decide
  have X0 := X
  obtain ⟨b, hb⟩ : ∃ b, mv t b = t := ⟨_, mv_self⟩
  replace hG : G (mv t b) u H := by rw [hb]; exact hG
  replace X := X0.mv (b := b)
  unfold f_J5_append_c97b9 at h
  refine lv_aload_n X.1.1 X.1.2.1 dJ5_append_c97b9_0 rfl (lv_at hl 0 rfl) ?_
  refine x_geti X hG 1 3 37 3 (inC := iJ4) rfl q37.1 q37.2 ⟨by decide, by decide, by decide, rfl, rfl⟩ w1 dJ5_append_c97b9_1 ?_
  refine x_name (fun x2_1 ex2_1 => ?_)
  replace h := xlet_at ex2_1 h
  refine lv_istore_n (lv' := [(2, .int (iI x2_1)), (0, .ref (t.2.2.1 37)), (1, .int (iI x1))]) X.1.1 X.1.2.1 dJ5_append_c97b9_4 rfl hl (by decide) rfl (fun ls hl => ?_)
  refine lv_iload_n X.1.1 X.1.2.1 dJ5_append_c97b9_5 rfl (lv_at hl 0 rfl) ?_
  refine lv_iload_n X.1.1 X.1.2.1 dJ5_append_c97b9_6 rfl (lv_at hl 2 rfl) ?_
  obtain ⟨v2, u3, hf, h⟩ := xbd_of h
  refine x_callSi0 X hG hS (c_J6_stringSize_0f7a4 l (mv t b) _ _ _ _ hf) (va_cwS 1 X.1.2.2.2.2 gJ5_append_c97b9_J6_stringSize_0f7a4 rfl rfl rfl hds_J6_stringSize_0f7a4 ⟨Nat.le_of_ble_eq_true rfl, Nat.le_of_ble_eq_true rfl⟩) (by rfl) hl.1 (Nat.le_of_ble_eq_true rfl) dJ5_append_c97b9_7 ⟨by decide, by decide⟩ rfl (fun H locs hG hS => ?_)
  refine x_iadd X dJ5_append_c97b9_10 ?_
  refine x_name (fun x3_4 ex3_4 => ?_)
  replace h := xlet_at ex3_4 h
  refine lv_istore_n (lv' := [(3, .int (iI x3_4)), (2, .int (iI x2_1)), (0, .ref (t.2.2.1 37)), (1, .int (iI x1))]) X.1.1 X.1.2.1 dJ5_append_c97b9_11 rfl hl (by decide) rfl (fun ls hl => ?_)
  refine lv_aload_n X.1.1 X.1.2.1 dJ5_append_c97b9_12 rfl (lv_at hl 2 rfl) ?_
  refine lv_iload_n X.1.1 X.1.2.1 dJ5_append_c97b9_13 rfl (lv_at hl 0 rfl) ?_
  obtain ⟨v5, u6, hf, h⟩ := xbd_of h
  refine x_kvm (t := mv t b) hS (va_runU (As := [.int (iI x3_4)]) X.1 (c_J5_ensureCapacityInternal_d00df l (mv t b) _ _ _ _ hf) (va_cwU 1 X.1.2.2.2.2 gJ5_append_c97b9_J5_ensureCapacityInternal_d00df_u100J4 rfl rfl rfl rfl hd_J5_ensureCapacityInternal_d00df.2 ⟨Nat.le_of_ble_eq_true rfl, Nat.le_of_ble_eq_true rfl⟩) ⟨x_blind, x_sbrecv X hG, x_pre X hG hS⟩ rfl rfl hl.1 rfl (lv_room (Nat.le_of_ble_eq_true rfl)) dJ5_append_c97b9_14 ⟨by decide, by decide⟩) (fun b H locs hG hS => ?_)
  rw [mv_mv] at hG
  replace X := X0.mv (b := b)
  replace hS : va_S (gA t) s.heap H locs := hS
  refine lv_aload_n X.1.1 X.1.2.1 dJ5_append_c97b9_17 rfl (lv_at hl 2 rfl) ?_
  obtain ⟨v7, u8, hf, h⟩ := xbd_of h
  refine x_ki (t := mv t b) hS (va_runU (As := []) X.1 (c_J5_isLatin1_aae02 l (mv t b)  _ _ _ hf) (va_cwU 0 X.1.2.2.2.2 gJ5_append_c97b9_J5_isLatin1_aae02_u83J4 rfl rfl rfl rfl hd_J5_isLatin1_aae02.2 ⟨Nat.le_of_ble_eq_true rfl, Nat.le_of_ble_eq_true rfl⟩) ⟨x_blind, x_sbrecv X hG, x_pre X hG hS⟩ rfl rfl hl.1 rfl (lv_room (Nat.le_of_ble_eq_true rfl)) dJ5_append_c97b9_18 ⟨by decide, by decide⟩) (fun H locs hG hS => ?_)
  obtain ⟨g9, h⟩ := xgd_of h
  obtain ⟨j10, ej10, h⟩ := xlet_of h
  have Jj10 : ∀ (b : Nat) (u11 : uS), j10 u11 = some (r, u') → xG p l e rJ5_append_c97b9 s m args below meth c (mv t b) Q 4 1 600 48 u11 [(0, .ref (t.2.2.1 37)), (3, .int (iI x3_4))] [] := by
      intro b u11 h H locs ls hG hS hl
      replace X := X0.mv (b := b)
      replace h := (congrFun ej10 u11).symm.trans h
      refine lv_aload_n X.1.1 X.1.2.1 dJ5_append_c97b9_48 rfl (lv_at hl 0 rfl) ?_
      refine lv_iload_n X.1.1 X.1.2.1 dJ5_append_c97b9_49 rfl (lv_at hl 1 rfl) ?_
      refine x_puti X hG hS 1 3 37 3 _ tyJ4 tyJ4_ok nmJ4 (inC := iJ4) rfl q37.1 q37.2 ⟨by decide, by decide, by decide, rfl, rfl⟩ rfl (by decide +kernel) w1 dJ5_append_c97b9_50 (fun H locs hG hS => ?_)
      obtain ⟨u12, eu12, h⟩ := xlet_of h
      replace hG : G (mv t b) u12 H := by rw [eu12]; exact hG
      refine lv_aload_n X.1.1 X.1.2.1 dJ5_append_c97b9_53 rfl (lv_at hl 0 rfl) ?_
      cases h
      exact hret _ _ _ _ _ _ _ (by decide) (by decide) dJ5_append_c97b9_54 hG hS
  refine x_if_eq (tgt := 37) X g9 dJ5_append_c97b9_21 (by decide) (fun c13 => ?_) (fun c13 => ?_)
  · replace h := xif_t h c13
    refine lv_iload_n X.1.1 X.1.2.1 dJ5_append_c97b9_37 rfl (lv_at hl 3 rfl) ?_
    refine lv_iload_n X.1.1 X.1.2.1 dJ5_append_c97b9_38 rfl (lv_at hl 1 rfl) ?_
    refine lv_iload_n X.1.1 X.1.2.1 dJ5_append_c97b9_39 rfl (lv_at hl 0 rfl) ?_
    refine lv_aload_n X.1.1 X.1.2.1 dJ5_append_c97b9_40 rfl (lv_at hl 2 rfl) ?_
    refine x_getr X hG 1 0 37 1 (inC := iJ4) rfl q37.1 q37.2 ⟨by decide, by decide, by decide, rfl, by decide, by decide⟩ w2 dJ5_append_c97b9_41 ?_
    cases h
  · replace h := xif_f h c13
    refine lv_iload_n X.1.1 X.1.2.1 dJ5_append_c97b9_24 rfl (lv_at hl 3 rfl) ?_
    refine lv_iload_n X.1.1 X.1.2.1 dJ5_append_c97b9_25 rfl (lv_at hl 0 rfl) ?_
    refine lv_aload_n X.1.1 X.1.2.1 dJ5_append_c97b9_26 rfl (lv_at hl 2 rfl) ?_
    refine x_getr X hG 1 0 37 1 (inC := iJ4) rfl q37.1 q37.2 ⟨by decide, by decide, by decide, rfl, by decide, by decide⟩ w2 dJ5_append_c97b9_27 ?_
    obtain ⟨v14, u15, hf, h⟩ := xbd_of h
    refine x_callSi0 X hG hS (c_J6_getChars_ba4f3 l (mv t b) _ _ _ _ _ hf) (va_cwS 3 X.1.2.2.2.2 gJ5_append_c97b9_J6_getChars_ba4f3 rfl rfl rfl hds_J6_getChars_ba4f3 ⟨Nat.le_of_ble_eq_true rfl, Nat.le_of_ble_eq_true rfl⟩) (by rfl) hl.1 (Nat.le_of_ble_eq_true rfl) dJ5_append_c97b9_30 ⟨by decide, by decide⟩ rfl (fun H locs hG hS => ?_)
    refine lv_pop X.1.1 X.1.2.1 dJ5_append_c97b9_33 rfl ?_
    refine lv_goto (tgt := 48) X.1.1 X.1.2.1 dJ5_append_c97b9_34 (by decide) ?_
    exact Jj10 _ _ h _ _ _ hG hS (lv_sub hl [2, 0] rfl)
theorem hd_J5_append_c97b9 : yJ5_append_c97b9.cls = RJ5 ∧ yJ5_append_c97b9.cls ≠ "java/lang/invoke/MethodHandle" ∧ yJ5_append_c97b9.cls ≠ "java/lang/invoke/VarHandle" ∧ (parseMethodDescriptor yJ5_append_c97b9.desc).map (fun d => d.parameters.length) = some 1 := by decide +kernel
abbrev rJ4_append_15ec4 : Room := { frames := 5, cells := 1, slots := 600, locals := 164 }
set_option maxRecDepth 100000 in
set_option maxHeartbeats 8000000 in
theorem c_J4_append_15ec4 (l : Launch) (t : gP) (k1 : Nat) (u : uS) (r : Int) (u' : uS) (h : f_J4_append_15ec4 k1 u = some (r, u')) : xMsm l yJ4_append_15ec4 wsJ4_append_15ec4 rJ4_append_15ec4 t [.ref (t.2.2.1 37), .ref (t.2.2.1 k1)] u r u' 1 600 := by
  refine x_ofWsm (cc := cJ4_append_15ec4) (maxL := 2) (own := RJ4) (by decide) rfl rfl (Nat.le_of_ble_eq_true rfl) ?_
  intro p e s m args below meth c Q X hret H locs ls hG hS hl
  replace hl : lv_has ls 2 [(0, .ref (t.2.2.1 37)), (1, .ref (t.2.2.1 k1))] := hl
  have q37 : 37 < NN ∧ sT 37 = 1 := by decide
  have X0 := X
  obtain ⟨b, hb⟩ : ∃ b, mv t b = t := ⟨_, mv_self⟩
  replace hG : G (mv t b) u H := by rw [hb]; exact hG
  replace X := X0.mv (b := b)
  unfold f_J4_append_15ec4 at h
  obtain ⟨g1, h⟩ := xgd_of h
  refine lv_aload_n X.1.1 X.1.2.1 dJ4_append_15ec4_0 rfl (lv_at hl 0 rfl) ?_
  refine lv_aload_n X.1.1 X.1.2.1 dJ4_append_15ec4_1 rfl (lv_at hl 1 rfl) ?_
  rw [show t.2.2.1 k1 = (mv t b).2.2.1 k1 from (mv_at (by have := g1; omega)).symm]
  obtain ⟨v2, u3, hf, h⟩ := xbd_of h
  obtain ⟨g4, h⟩ := xgd_of h
  rw [g4] at hf
  refine x_ksm (t := mv t b) hS (va_runSU (As := [.ref ((mv t b).2.2.1 k1)]) (X.2.1.1 1 (RJ4, TJ4, 4) rfl).2 X.1 (c_J5_append_cf1ce l (mv t b) _ _ _ _ hf) (va_cwSU 1 X.1.2.2.2.2 gJ4_append_15ec4_J5_append_cf1ce_s29 rfl rfl rfl ⟨by decide, hd_J5_append_cf1ce.2.2.2⟩ ⟨Nat.le_of_ble_eq_true rfl, Nat.le_of_ble_eq_true rfl⟩) ⟨x_blind, x_sbrecv X hG, x_pre X hG hS⟩ rfl rfl hl.1 rfl (lv_room (Nat.le_of_ble_eq_true rfl)) dJ4_append_15ec4_2 ⟨by decide, by decide⟩) (fun b H locs hG hS => ?_)
  rw [mv_mv] at hG
  replace X := X0.mv (b := b)
  replace hS : va_S (gA t) s.heap H locs := hS
  refine lv_pop X.1.1 X.1.2.1 dJ4_append_15ec4_5 rfl ?_
  refine lv_aload_n X.1.1 X.1.2.1 dJ4_append_15ec4_6 rfl (lv_at hl 0 rfl) ?_
  cases h
  exact hret _ _ _ _ _ _ _ (by decide) (by decide) dJ4_append_15ec4_7 hG hS
theorem hd_J4_append_15ec4 : yJ4_append_15ec4.cls = RJ4 ∧ yJ4_append_15ec4.cls ≠ "java/lang/invoke/MethodHandle" ∧ yJ4_append_15ec4.cls ≠ "java/lang/invoke/VarHandle" ∧ (parseMethodDescriptor yJ4_append_15ec4.desc).map (fun d => d.parameters.length) = some 1 := by decide +kernel
abbrev rJ4_append_cf468 : Room := { frames := 5, cells := 1, slots := 600, locals := 163 }
set_option maxRecDepth 100000 in
set_option maxHeartbeats 8000000 in
theorem c_J4_append_cf468 (l : Launch) (t : gP) (x1 : Int) (u : uS) (r : Int) (u' : uS) (h : f_J4_append_cf468 x1 u = some (r, u')) : xMsm l yJ4_append_cf468 wsJ4_append_cf468 rJ4_append_cf468 t [.ref (t.2.2.1 37), .int (iI x1)] u r u' 1 600 := by
  refine x_ofWsm (cc := cJ4_append_cf468) (maxL := 2) (own := RJ4) (by decide) rfl rfl (Nat.le_of_ble_eq_true rfl) ?_
  intro p e s m args below meth c Q X hret H locs ls hG hS hl
  replace hl : lv_has ls 2 [(0, .ref (t.2.2.1 37)), (1, .int (iI x1))] := hl
  have q37 : 37 < NN ∧ sT 37 = 1 := by decide
  have X0 := X
  obtain ⟨b, hb⟩ : ∃ b, mv t b = t := ⟨_, mv_self⟩
  replace hG : G (mv t b) u H := by rw [hb]; exact hG
  replace X := X0.mv (b := b)
  unfold f_J4_append_cf468 at h
  refine lv_aload_n X.1.1 X.1.2.1 dJ4_append_cf468_0 rfl (lv_at hl 0 rfl) ?_
  refine lv_iload_n X.1.1 X.1.2.1 dJ4_append_cf468_1 rfl (lv_at hl 1 rfl) ?_
  obtain ⟨v1, u2, hf, h⟩ := xbd_of h
  obtain ⟨g3, h⟩ := xgd_of h
  rw [g3] at hf
  refine x_ksm (t := mv t b) hS (va_runSU (As := [.int (iI x1)]) (X.2.1.1 1 (RJ4, TJ4, 4) rfl).2 X.1 (c_J5_append_3fe6f l (mv t b) _ _ _ _ hf) (va_cwSU 1 X.1.2.2.2.2 gJ4_append_cf468_J5_append_3fe6f_s50 rfl rfl rfl ⟨by decide, hd_J5_append_3fe6f.2.2.2⟩ ⟨Nat.le_of_ble_eq_true rfl, Nat.le_of_ble_eq_true rfl⟩) ⟨x_blind, x_sbrecv X hG, x_pre X hG hS⟩ rfl rfl hl.1 rfl (lv_room (Nat.le_of_ble_eq_true rfl)) dJ4_append_cf468_2 ⟨by decide, by decide⟩) (fun b H locs hG hS => ?_)
  rw [mv_mv] at hG
  replace X := X0.mv (b := b)
  replace hS : va_S (gA t) s.heap H locs := hS
  refine lv_pop X.1.1 X.1.2.1 dJ4_append_cf468_5 rfl ?_
  refine lv_aload_n X.1.1 X.1.2.1 dJ4_append_cf468_6 rfl (lv_at hl 0 rfl) ?_
  cases h
  exact hret _ _ _ _ _ _ _ (by decide) (by decide) dJ4_append_cf468_7 hG hS
theorem hd_J4_append_cf468 : yJ4_append_cf468.cls = RJ4 ∧ yJ4_append_cf468.cls ≠ "java/lang/invoke/MethodHandle" ∧ yJ4_append_cf468.cls ≠ "java/lang/invoke/VarHandle" ∧ (parseMethodDescriptor yJ4_append_cf468.desc).map (fun d => d.parameters.length) = some 1 := by decide +kernel
abbrev rJ4_append_bf812 : Room := { frames := 5, cells := 1, slots := 600, locals := 165 }
set_option maxRecDepth 100000 in
set_option maxHeartbeats 8000000 in
theorem c_J4_append_bf812 (l : Launch) (t : gP) (x1 : Int) (u : uS) (r : Int) (u' : uS) (h : f_J4_append_bf812 x1 u = some (r, u')) : xMsm l yJ4_append_bf812 wsJ4_append_bf812 rJ4_append_bf812 t [.ref (t.2.2.1 37), .int (iI x1)] u r u' 1 600 := by
  refine x_ofWsm (cc := cJ4_append_bf812) (maxL := 2) (own := RJ4) (by decide) rfl rfl (Nat.le_of_ble_eq_true rfl) ?_
  intro p e s m args below meth c Q X hret H locs ls hG hS hl
  replace hl : lv_has ls 2 [(0, .ref (t.2.2.1 37)), (1, .int (iI x1))] := hl
  have q37 : 37 < NN ∧ sT 37 = 1 := by decide
  have X0 := X
  obtain ⟨b, hb⟩ : ∃ b, mv t b = t := ⟨_, mv_self⟩
  replace hG : G (mv t b) u H := by rw [hb]; exact hG
  replace X := X0.mv (b := b)
  unfold f_J4_append_bf812 at h
  refine lv_aload_n X.1.1 X.1.2.1 dJ4_append_bf812_0 rfl (lv_at hl 0 rfl) ?_
  refine lv_iload_n X.1.1 X.1.2.1 dJ4_append_bf812_1 rfl (lv_at hl 1 rfl) ?_
  obtain ⟨v1, u2, hf, h⟩ := xbd_of h
  obtain ⟨g3, h⟩ := xgd_of h
  rw [g3] at hf
  refine x_ksm (t := mv t b) hS (va_runSU (As := [.int (iI x1)]) (X.2.1.1 1 (RJ4, TJ4, 4) rfl).2 X.1 (c_J5_append_c97b9 l (mv t b) _ _ _ _ hf) (va_cwSU 1 X.1.2.2.2.2 gJ4_append_bf812_J5_append_c97b9_s53 rfl rfl rfl ⟨by decide, hd_J5_append_c97b9.2.2.2⟩ ⟨Nat.le_of_ble_eq_true rfl, Nat.le_of_ble_eq_true rfl⟩) ⟨x_blind, x_sbrecv X hG, x_pre X hG hS⟩ rfl rfl hl.1 rfl (lv_room (Nat.le_of_ble_eq_true rfl)) dJ4_append_bf812_2 ⟨by decide, by decide⟩) (fun b H locs hG hS => ?_)
  rw [mv_mv] at hG
  replace X := X0.mv (b := b)
  replace hS : va_S (gA t) s.heap H locs := hS
  refine lv_pop X.1.1 X.1.2.1 dJ4_append_bf812_5 rfl ?_
  refine lv_aload_n X.1.1 X.1.2.1 dJ4_append_bf812_6 rfl (lv_at hl 0 rfl) ?_
  cases h
  exact hret _ _ _ _ _ _ _ (by decide) (by decide) dJ4_append_bf812_7 hG hS
theorem hd_J4_append_bf812 : yJ4_append_bf812.cls = RJ4 ∧ yJ4_append_bf812.cls ≠ "java/lang/invoke/MethodHandle" ∧ yJ4_append_bf812.cls ≠ "java/lang/invoke/VarHandle" ∧ (parseMethodDescriptor yJ4_append_bf812.desc).map (fun d => d.parameters.length) = some 1 := by decide +kernel
