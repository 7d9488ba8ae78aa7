/-! the StringBuilder takes the text that was made -/
def fd_inflate (u : uS) : Option (Int × uS) := xgd (u 289 1 = 0 ∧ InR (u 37 1)) <| if u 37 1 = 0 then some (0, u) else none
def fd_getBytes (x2 x3 : Int) (u : uS) : Option (Int × uS) := xgd (u 289 1 = 0 ∧ InR x3 ∧ x3 = 0 ∧ txOk u ∧ (0 ≤ x2 ∧ x2 + u 1000 2 ≤ u 1000 1 ∧ u 1000 1 < 2147483648)) <| xlet (upA u 38 (fun j => if x2 ≤ j ∧ j < x2 + u 1000 2 then u 290 (j - x2) else u 38 j)) fun u12 => some (0, u12)
def fd_putStringAt (x1 : Int) (u : uS) : Option (Int × uS) := xbd (fd_inflate u) fun _ u3 => xbd (fd_getBytes x1 (u3 37 1) u3) fun _ u5 => some (0, u5)
def fd_J5_append (u : uS) : Option (Int × uS) := xbd (f_dlen u) fun v2 u3 => xbd (f_J5_ensureCapacityInternal_d00df (u3 37 3 + v2) u3) fun _ u5 => xbd (fd_putStringAt (u5 37 3) u5) fun _ u7 => xlet (up u7 37 3 (u7 37 3 + v2)) fun u8 => some ((37 : Int), u8)
def fd_J4_append (u : uS) : Option (Int × uS) := xbd (fd_J5_append u) fun v2 u3 => xgd (v2 = 37) <| some ((37 : Int), u3)
set_option maxRecDepth 100000 in
set_option maxHeartbeats 8000000 in
theorem cd_inflate (l : Launch) (t : gP) (u : uS) (r : Int) (u' : uS) (h : fd_inflate u = some (r, u')) (ha : al t 289 ∧ sT 289 = 0) (hb9 : al t 290) : xMv l yJ5_inflateIfNeededFor_a7421 wsJ5_inflateIfNeededFor_a7421 rJ5_inflateIfNeededFor_a7421 t [.ref (t.2.2.1 37), .ref (t.2.2.1 289)] u u' 0 0 := by
  refine x_ofWv (cc := cJ5_inflateIfNeededFor_a7421) (maxL := 2) (own := RJ5) (by decide) rfl rfl (Nat.le_of_ble_eq_true rfl) ?_
  intro p e s m args below meth c Q X hret H locs ls hG hS hl
  replace hl : lv_has ls 2 [(0, .ref (t.2.2.1 37)), (1, .ref (t.2.2.1 289))] := hl
  have q37 : 37 < NN ∧ sT 37 = 1 := by decide
  have w1 : Cond.fieldLink RJ5 18 "java/lang/String" "COMPACT_STRINGS" "Z" ∈ wsJ5_inflateIfNeededFor_a7421 := x_w 1 rfl
  have iJ4 : ∀ w ∈ wsJ40, w ∈ wsJ5_inflateIfNeededFor_a7421 := by decide +kernel
  have w2 : Cond.fieldLink RJ5 22 "java/lang/AbstractStringBuilder" "coder" "B" ∈ wsJ5_inflateIfNeededFor_a7421 := x_w 2 rfl
  unfold fd_inflate at h
  obtain ⟨⟨hc, hr⟩, h⟩ := xgd_of h
  refine va_gets X.1.1 X.1.2.1 X.2.2.1.2.2.1.1 hS X.1.2.2.2.1 (X.1.2.2.2.2 _ w1) (fun _ h9 => h9) dJ5_inflateIfNeededFor_a7421_0 ?_
  refine x_one ?_
  refine x_if_eq (tgt := 21) X ⟨by decide, by decide⟩ dJ5_inflateIfNeededFor_a7421_3 (by decide) (fun c2 => absurd c2 (by decide)) (fun c2 => ?_)
  · refine lv_aload_n X.1.1 X.1.2.1 dJ5_inflateIfNeededFor_a7421_6 rfl (lv_at hl 0 rfl) ?_
    refine x_geti X hG 1 1 37 1 (inC := iJ4) rfl q37.1 q37.2 ⟨by decide, by decide, by decide, rfl, rfl⟩ w2 dJ5_inflateIfNeededFor_a7421_7 ?_
    refine lv_aload_n X.1.1 X.1.2.1 dJ5_inflateIfNeededFor_a7421_10 rfl (lv_at hl 1 rfl) ?_
    refine y_callVi0 X hG hS (cd_J0_coder l t u ha.1 hc) (cwV 0 X.1.2.2.2.2 gJ5_inflateIfNeededFor_a7421_J0_coder_7d493 rfl rfl rfl hd_J0_coder_7d493 ⟨Nat.le_of_ble_eq_true rfl, Nat.le_of_ble_eq_true rfl⟩) ha.1 ha.2 rfl (by decide) (by rfl) hl.1 (Nat.le_of_ble_eq_true rfl) dJ5_inflateIfNeededFor_a7421_11 ⟨by decide, by decide⟩ rfl (fun H locs hG hS => ?_)
    refine x_icmp_eq (tgt := 21) X hr ⟨by decide, by decide⟩ dJ5_inflateIfNeededFor_a7421_14 (by decide) (fun c6 => ?_) (fun c6 => ?_)
    · replace h := xif_t h c6
      cases h
      exact hret _ _ _ _ dJ5_inflateIfNeededFor_a7421_21 hG hS
    · replace h := xif_f h c6
      refine lv_aload_n X.1.1 X.1.2.1 dJ5_inflateIfNeededFor_a7421_17 rfl (lv_at hl 0 rfl) ?_
      cases h
set_option maxRecDepth 100000 in
set_option maxHeartbeats 8000000 in
theorem cd_getBytes (l : Launch) (t : gP) (x2 : Int) (x3 : Int) (u : uS) (r : Int) (u' : uS) (h : fd_getBytes x2 x3 u = some (r, u')) (ha : al t 289 ∧ sT 289 = 0) (hb9 : al t 290) : xMv l yJ0_getBytes_840e7 wsJ0_getBytes_840e7 rJ0_getBytes_840e7 t [.ref (t.2.2.1 289), .ref (t.2.2.1 38), .int (iI x2), .int (iI x3)] u u' 0 0 := by
  refine x_ofWv (cc := cJ0_getBytes_840e7) (maxL := 4) (own := RJ0) (by decide) rfl rfl (Nat.le_of_ble_eq_true rfl) ?_
  intro p e s m args below meth c Q X hret H locs ls hG hS hl
  replace hl : lv_has ls 4 [(0, .ref (t.2.2.1 289)), (1, .ref (t.2.2.1 38)), (2, .int (iI x2)), (3, .int (iI x3))] := hl
  have q38 : 38 < NN ∧ sT 38 = 105 ∧ sN 38 = 0 := by decide
  have w1 : Cond.fieldLink RJ0 9 "java/lang/String" "value" "[B" ∈ wsJ0_getBytes_840e7 := x_w 1 rfl
  have w2 : Cond.methodLink RJ0 212 arraycopyName ∈ wsJ0_getBytes_840e7 := x_w 2 rfl
  have w3 : Cond.native arraycopyName ∈ wsJ0_getBytes_840e7 := x_w 3 rfl
  have w4 : Cond.static arraycopyName ∈ wsJ0_getBytes_840e7 := x_w 4 rfl
  have w5 : Cond.initialized "java/lang/System" ∈ wsJ0_getBytes_840e7 := x_w 5 rfl
  unfold fd_getBytes at h
  obtain ⟨⟨hc, hr, h30, hx, hd⟩, h5⟩ := xgd_of h
  clear h
  have iJ0 : ∀ w ∈ wsJ00, w ∈ wsJ0_getBytes_840e7 := by decide +kernel
  subst h30
  have h := h5
  refine lv_aload_n X.1.1 X.1.2.1 dJ0_getBytes_840e7_0 rfl (lv_at hl 0 rfl) ?_
  refine y_callVi0 X hG hS (cd_J0_coder l t u ha.1 hc) (cwV 0 X.1.2.2.2.2 gJ0_getBytes_840e7_J0_coder_7d493 rfl rfl rfl hd_J0_coder_7d493 ⟨Nat.le_of_ble_eq_true rfl, Nat.le_of_ble_eq_true rfl⟩) ha.1 ha.2 rfl (by decide) (by rfl) hl.1 (Nat.le_of_ble_eq_true rfl) dJ0_getBytes_840e7_1 ⟨by decide, by decide⟩ rfl (fun H locs hG hS => ?_)
  refine lv_iload_n X.1.1 X.1.2.1 dJ0_getBytes_840e7_4 rfl (lv_at hl 3 rfl) ?_
  refine x_icmp_ne (tgt := 28) X ⟨by decide, by decide⟩ hr dJ0_getBytes_840e7_5 (by decide) (fun c5 => absurd rfl c5) (fun c5 => ?_)
  · refine lv_aload_n X.1.1 X.1.2.1 dJ0_getBytes_840e7_8 rfl (lv_at hl 0 rfl) ?_
    refine y_getr X hG 0 0 289 1 (inC := iJ0) rfl ha.1 s289 ⟨by decide, by decide, by decide, rfl, by decide, by decide⟩ w1 dJ0_getBytes_840e7_9 ?_
    refine x_iconst X dJ0_getBytes_840e7_12 ?_
    refine lv_aload_n X.1.1 X.1.2.1 dJ0_getBytes_840e7_13 rfl (lv_at hl 1 rfl) ?_
    refine lv_iload_n X.1.1 X.1.2.1 dJ0_getBytes_840e7_14 rfl (lv_at hl 2 rfl) ?_
    refine lv_iload_n X.1.1 X.1.2.1 dJ0_getBytes_840e7_15 rfl (lv_at hl 3 rfl) ?_
    refine x_ishl X ⟨by decide, by decide⟩ dJ0_getBytes_840e7_16 ?_
    refine lv_aload_n X.1.1 X.1.2.1 dJ0_getBytes_840e7_17 rfl (lv_at hl 0 rfl) ?_
    refine y_getr X hG 0 0 289 1 (inC := iJ0) rfl ha.1 s289 ⟨by decide, by decide, by decide, rfl, by decide, by decide⟩ w1 dJ0_getBytes_840e7_18 ?_
    refine y_tlen X hG hb9 ⟨hx.1, by have := hx.2.1; omega⟩ dJ0_getBytes_840e7_21 ?_
    rw [show shlI x2 0 = x2 by show x2 * 1 = _; omega]
    refine y_tcpy (R := rJ0_getBytes_840e7) X hG hS hb9 hl.1 w2 w3 w4 w5 hx hd (by decide) (by decide) dJ0_getBytes_840e7_22 (Nat.le_of_ble_eq_true rfl) (fun H locs hG hS => ?_)
    obtain ⟨u12, eu12, h⟩ := xlet_of h
    replace hG : G t u12 H := by rw [eu12]; exact hG
    refine lv_goto (tgt := 43) X.1.1 X.1.2.1 dJ0_getBytes_840e7_25 (by decide) ?_
    cases h
    exact hret _ _ _ _ dJ0_getBytes_840e7_43 hG hS
set_option maxRecDepth 100000 in
set_option maxHeartbeats 8000000 in
theorem cd_putStringAt (l : Launch) (t : gP) (x1 : Int) (u : uS) (r : Int) (u' : uS) (h : fd_putStringAt x1 u = some (r, u')) (ha : al t 289 ∧ sT 289 = 0) (hb9 : al t 290) : xMv l yJ5_putStringAt_47b60 wsJ5_putStringAt_47b60 rJ5_putStringAt_47b60 t [.ref (t.2.2.1 37), .int (iI x1), .ref (t.2.2.1 289)] u u' 0 0 := by
  refine x_ofWv (cc := cJ5_putStringAt_47b60) (maxL := 3) (own := RJ5) (by decide) rfl rfl (Nat.le_of_ble_eq_true rfl) ?_
  intro p e s m args below meth c Q X hret H locs ls hG hS hl
  replace hl : lv_has ls 3 [(0, .ref (t.2.2.1 37)), (1, .int (iI x1)), (2, .ref (t.2.2.1 289))] := hl
  have q37 : 37 < NN ∧ sT 37 = 1 := by decide
  have iJ4 : ∀ w ∈ wsJ40, w ∈ wsJ5_putStringAt_47b60 := by decide +kernel
  have w1 : Cond.fieldLink RJ5 15 "java/lang/AbstractStringBuilder" "value" "[B" ∈ wsJ5_putStringAt_47b60 := x_w 1 rfl
  have q38 : 38 < NN ∧ sT 38 = 105 ∧ sN 38 = 0 := by decide
  have w2 : Cond.fieldLink RJ5 22 "java/lang/AbstractStringBuilder" "coder" "B" ∈ wsJ5_putStringAt_47b60 := x_w 2 rfl
  unfold fd_putStringAt at h
  refine lv_aload_n X.1.1 X.1.2.1 dJ5_putStringAt_47b60_0 rfl (lv_at hl 0 rfl) ?_
  refine lv_aload_n X.1.1 X.1.2.1 dJ5_putStringAt_47b60_1 rfl (lv_at hl 2 rfl) ?_
  obtain ⟨v2, u3, hf, h⟩ := xbd_of h
  refine x_kv hS (va_runU (As := [.ref (t.2.2.1 289)]) X.1 (cd_inflate l t _ _ _ hf ha hb9) (va_cwU 1 X.1.2.2.2.2 gJ5_putStringAt_47b60_J5_inflateIfNeededFor_a7421_u397J4 rfl rfl rfl rfl hd_J5_inflateIfNeededFor_a7421.2 ⟨Nat.le_of_ble_eq_true rfl, Nat.le_of_ble_eq_true rfl⟩) ⟨x_blind, x_sbrecv X hG, x_pre X hG hS⟩ rfl rfl hl.1 rfl (lv_room (Nat.le_of_ble_eq_true rfl)) dJ5_putStringAt_47b60_2 ⟨by decide, by decide⟩) (fun H locs hG hS => ?_)
  refine lv_aload_n X.1.1 X.1.2.1 dJ5_putStringAt_47b60_5 rfl (lv_at hl 2 rfl) ?_
  refine lv_aload_n X.1.1 X.1.2.1 dJ5_putStringAt_47b60_6 rfl (lv_at hl 0 rfl) ?_
  refine x_getr X hG 1 0 37 1 (inC := iJ4) rfl q37.1 q37.2 ⟨by decide, by decide, by decide, rfl, by decide, by decide⟩ w1 dJ5_putStringAt_47b60_7 ?_
  refine lv_iload_n X.1.1 X.1.2.1 dJ5_putStringAt_47b60_10 rfl (lv_at hl 1 rfl) ?_
  refine lv_aload_n X.1.1 X.1.2.1 dJ5_putStringAt_47b60_11 rfl (lv_at hl 0 rfl) ?_
  refine x_geti X hG 1 1 37 1 (inC := iJ4) rfl q37.1 q37.2 ⟨by decide, by decide, by decide, rfl, rfl⟩ w2 dJ5_putStringAt_47b60_12 ?_
  obtain ⟨v4, u5, hf, h⟩ := xbd_of h
  refine y_callVv0 X hG hS (cd_getBytes l t _ _ _ _ _ hf ha hb9) (cwV 3 X.1.2.2.2.2 gJ5_putStringAt_47b60_J0_getBytes_840e7 rfl rfl rfl hd_J0_getBytes_840e7 ⟨Nat.le_of_ble_eq_true rfl, Nat.le_of_ble_eq_true rfl⟩) ha.1 ha.2 rfl (by decide) (by rfl) hl.1 (Nat.le_of_ble_eq_true rfl) dJ5_putStringAt_47b60_15 ⟨by decide, by decide⟩ rfl (fun H locs hG hS => ?_)
  cases h
  exact hret _ _ _ _ dJ5_putStringAt_47b60_18 hG hS
set_option maxRecDepth 100000 in
set_option maxHeartbeats 8000000 in
theorem cd_J5_append (l : Launch) (t : gP) (u : uS) (r : Int) (u' : uS) (h : fd_J5_append u = some (r, u')) (ha : al t 289 ∧ sT 289 = 0) (hb9 : al t 290) : xMsm l yJ5_append_cf1ce wsJ5_append_cf1ce rJ5_append_cf1ce t [.ref (t.2.2.1 37), .ref (t.2.2.1 289)] u r u' 1 600 := by
  refine x_ofWsm (cc := cJ5_append_cf1ce) (maxL := 3) (own := RJ5) (by decide) rfl rfl (Nat.le_of_ble_eq_true rfl) ?_
  intro p e s m args below meth c Q X hret H locs ls hG hS hl
  replace hl : lv_has ls 3 [(0, .ref (t.2.2.1 37)), (1, .ref (t.2.2.1 289))] := hl
  have q37 : 37 < NN ∧ sT 37 = 1 := by decide
  have iJ4 : ∀ w ∈ wsJ40, w ∈ wsJ5_append_cf1ce := by decide +kernel
  have w1 : Cond.fieldLink RJ5 79 "java/lang/AbstractStringBuilder" "count" "I" ∈ wsJ5_append_cf1ce := x_w 1 rfl
  have X0 := X
  obtain ⟨b, hb⟩ : ∃ b, mv t b = t := ⟨_, mv_self⟩
  replace hG : G (mv t b) u H := by rw [hb]; exact hG
  replace X := X0.mv (b := b)
  unfold fd_J5_append at h
  have hc9 : ∀ b : Nat, (al (mv t b) 289 ∧ sT 289 = 0) ∧ al (mv t b) 290 := fun b => ⟨mv_ag.fk (by decide) ha, mv_ag.al (by decide) hb9⟩
  refine lv_aload_n X.1.1 X.1.2.1 dJ5_append_cf1ce_0 rfl (lv_at hl 1 rfl) ?_
  refine lv_ifnonnull (tgt := 9) X.1.1 X.1.2.1 dJ5_append_cf1ce_1 (by decide) ?_
  refine lv_aload_n X.1.1 X.1.2.1 dJ5_append_cf1ce_9 rfl (lv_at hl 1 rfl) ?_
  obtain ⟨v2, u3, hf, h⟩ := xbd_of h
  rw [show t.2.2.1 289 = (mv t b).2.2.1 289 from (mv_at (by decide)).symm]
  refine y_callVi0 X hG hS (cd_J0_length l (mv t b) _ _ _ hf (hc9 b).1 (hc9 b).2) (cwV 0 X.1.2.2.2.2 gJ5_append_cf1ce_J0_length_8abf5 rfl rfl rfl hd_J0_length_8abf5 ⟨Nat.le_of_ble_eq_true rfl, Nat.le_of_ble_eq_true rfl⟩) (hc9 b).1.1 (hc9 b).1.2 rfl (by decide) (by rfl) hl.1 (Nat.le_of_ble_eq_true rfl) dJ5_append_cf1ce_10 ⟨by decide, by decide⟩ rfl (fun H locs hG hS => ?_)
  refine lv_istore_n (lv' := [(2, .int (iI v2)), (0, .ref (t.2.2.1 37)), (1, .ref (t.2.2.1 289))]) X.1.1 X.1.2.1 dJ5_append_cf1ce_13 rfl hl (by decide) rfl (fun ls hl => ?_)
  refine lv_aload_n X.1.1 X.1.2.1 dJ5_append_cf1ce_14 rfl (lv_at hl 1 rfl) ?_
  refine lv_aload_n X.1.1 X.1.2.1 dJ5_append_cf1ce_15 rfl (lv_at hl 1 rfl) ?_
  refine x_geti X hG 1 3 37 3 (inC := iJ4) rfl q37.1 q37.2 ⟨by decide, by decide, by decide, rfl, rfl⟩ w1 dJ5_append_cf1ce_16 ?_
  refine lv_iload_n X.1.1 X.1.2.1 dJ5_append_cf1ce_19 rfl (lv_at hl 0 rfl) ?_
  refine x_iadd X dJ5_append_cf1ce_20 ?_
  obtain ⟨v4, u5, hf, h⟩ := xbd_of h
  refine x_kvm (t := mv t b) hS (va_runU (As := [.int (iI (u3 37 3 + v2))]) X.1 (c_J5_ensureCapacityInternal_d00df l (mv t b) _ _ _ _ hf) (va_cwU 1 X.1.2.2.2.2 gJ5_append_cf1ce_J5_ensureCapacityInternal_d00df_u100J4 rfl rfl rfl rfl hd_J5_ensureCapacityInternal_d00df.2 ⟨Nat.le_of_ble_eq_true rfl, Nat.le_of_ble_eq_true rfl⟩) ⟨x_blind, x_sbrecv X hG, x_pre X hG hS⟩ rfl rfl hl.1 rfl (lv_room (Nat.le_of_ble_eq_true rfl)) dJ5_append_cf1ce_21 ⟨by decide, by decide⟩) (fun b H locs hG hS => ?_)
  rw [mv_mv] at hG
  replace X := X0.mv (b := b)
  replace hS : va_S (gA t) s.heap H locs := hS
  refine lv_aload_n X.1.1 X.1.2.1 dJ5_append_cf1ce_24 rfl (lv_at hl 1 rfl) ?_
  refine lv_aload_n X.1.1 X.1.2.1 dJ5_append_cf1ce_25 rfl (lv_at hl 1 rfl) ?_
  refine x_geti X hG 1 3 37 3 (inC := iJ4) rfl q37.1 q37.2 ⟨by decide, by decide, by decide, rfl, rfl⟩ w1 dJ5_append_cf1ce_26 ?_
  refine lv_aload_n X.1.1 X.1.2.1 dJ5_append_cf1ce_29 rfl (lv_at hl 2 rfl) ?_
  rw [show t.2.2.1 289 = (mv t b).2.2.1 289 from (mv_at (by decide)).symm]
  obtain ⟨v6, u7, hf, h⟩ := xbd_of h
  refine x_kv (t := mv t b) hS (va_runU (As := [.int (iI (u5 37 3)), .ref ((mv t b).2.2.1 289)]) X.1 (cd_putStringAt l (mv t b) _ _ _ _ hf (hc9 b).1 (hc9 b).2) (va_cwU 2 X.1.2.2.2.2 gJ5_append_cf1ce_J5_putStringAt_47b60_u208J4 rfl rfl rfl rfl hd_J5_putStringAt_47b60.2 ⟨Nat.le_of_ble_eq_true rfl, Nat.le_of_ble_eq_true rfl⟩) ⟨x_blind, x_sbrecv X hG, x_pre X hG hS⟩ rfl rfl hl.1 rfl (lv_room (Nat.le_of_ble_eq_true rfl)) dJ5_append_cf1ce_30 ⟨by decide, by decide⟩) (fun H locs hG hS => ?_)
  refine lv_aload_n X.1.1 X.1.2.1 dJ5_append_cf1ce_33 rfl (lv_at hl 1 rfl) ?_
  refine lv_dup X.1.1 X.1.2.1 dJ5_append_cf1ce_34 rfl ?_
  refine x_geti X hG 1 3 37 3 (inC := iJ4) rfl q37.1 q37.2 ⟨by decide, by decide, by decide, rfl, rfl⟩ w1 dJ5_append_cf1ce_35 ?_
  refine lv_iload_n X.1.1 X.1.2.1 dJ5_append_cf1ce_38 rfl (lv_at hl 0 rfl) ?_
  refine x_iadd X dJ5_append_cf1ce_39 ?_
  refine x_puti X hG hS 1 3 37 3 _ tyJ4 tyJ4_ok nmJ4 (inC := iJ4) rfl q37.1 q37.2 ⟨by decide, by decide, by decide, rfl, rfl⟩ rfl (by decide +kernel) w1 dJ5_append_cf1ce_40 (fun H locs hG hS => ?_)
  obtain ⟨u8, eu8, h⟩ := xlet_of h
  replace hG : G (mv t b) u8 H := by rw [eu8]; exact hG
  refine lv_aload_n X.1.1 X.1.2.1 dJ5_append_cf1ce_43 rfl (lv_at hl 1 rfl) ?_
  cases h
  exact hret _ _ _ _ _ _ _ (by decide) (by decide) dJ5_append_cf1ce_44 hG hS
set_option maxRecDepth 100000 in
set_option maxHeartbeats 8000000 in
theorem cd_J4_append (l : Launch) (t : gP) (u : uS) (r : Int) (u' : uS) (h : fd_J4_append u = some (r, u')) (ha : al t 289 ∧ sT 289 = 0) (hb9 : al t 290) : xMsm l yJ4_append_15ec4 wsJ4_append_15ec4 rJ4_append_15ec4 t [.ref (t.2.2.1 37), .ref (t.2.2.1 289)] u r u' 1 600 := by
  refine x_ofWsm (cc := cJ4_append_15ec4) (maxL := 2) (own := RJ4) (by decide) rfl rfl (Nat.le_of_ble_eq_true rfl) ?_
  intro p e s m args below meth c Q X hret H locs ls hG hS hl
  replace hl : lv_has ls 2 [(0, .ref (t.2.2.1 37)), (1, .ref (t.2.2.1 289))] := hl
  have q37 : 37 < NN ∧ sT 37 = 1 := by decide
  have X0 := X
  obtain ⟨b, hb⟩ : ∃ b, mv t b = t := ⟨_, mv_self⟩
  replace hG : G (mv t b) u H := by rw [hb]; exact hG
  replace X := X0.mv (b := b)
  unfold fd_J4_append at h
  have hc9 : ∀ b : Nat, (al (mv t b) 289 ∧ sT 289 = 0) ∧ al (mv t b) 290 := fun b => ⟨mv_ag.fk (by decide) ha, mv_ag.al (by decide) hb9⟩
  refine lv_aload_n X.1.1 X.1.2.1 dJ4_append_15ec4_0 rfl (lv_at hl 0 rfl) ?_
  refine lv_aload_n X.1.1 X.1.2.1 dJ4_append_15ec4_1 rfl (lv_at hl 1 rfl) ?_
  rw [show t.2.2.1 289 = (mv t b).2.2.1 289 from (mv_at (by decide)).symm]
  obtain ⟨v2, u3, hf, h⟩ := xbd_of h
  obtain ⟨g4, h⟩ := xgd_of h
  rw [g4] at hf
  refine x_ksm (t := mv t b) hS (va_runSU (As := [.ref ((mv t b).2.2.1 289)]) (X.2.1.1 1 (RJ4, TJ4, 4) rfl).2 X.1 (cd_J5_append l (mv t b) _ _ _ hf (hc9 b).1 (hc9 b).2) (va_cwSU 1 X.1.2.2.2.2 gJ4_append_15ec4_J5_append_cf1ce_s29 rfl rfl rfl ⟨by decide, hd_J5_append_cf1ce.2.2.2⟩ ⟨Nat.le_of_ble_eq_true rfl, Nat.le_of_ble_eq_true rfl⟩) ⟨x_blind, x_sbrecv X hG, x_pre X hG hS⟩ rfl rfl hl.1 rfl (lv_room (Nat.le_of_ble_eq_true rfl)) dJ4_append_15ec4_2 ⟨by decide, by decide⟩) (fun b H locs hG hS => ?_)
  rw [mv_mv] at hG
  replace X := X0.mv (b := b)
  replace hS : va_S (gA t) s.heap H locs := hS
  refine lv_pop X.1.1 X.1.2.1 dJ4_append_15ec4_5 rfl ?_
  refine lv_aload_n X.1.1 X.1.2.1 dJ4_append_15ec4_6 rfl (lv_at hl 0 rfl) ?_
  cases h
  exact hret _ _ _ _ _ _ _ (by decide) (by decide) dJ4_append_15ec4_7 hG hS
