abbrev rX9_describeStanding : Room := { frames := 6, cells := 9, slots := 900, locals := 186 }
set_option maxRecDepth 100000 in
set_option maxHeartbeats 8000000 in
theorem c_X9_describeStanding (l : Launch) (t : gP) (x1 : Int) (u : uS) (r : Int) (u' : uS) (h : f_X9_describeStanding x1 u = some (r, u')) : xMvm l yX9_describeStanding wsX9_describeStanding rX9_describeStanding t [.ref (t.2.2.1 0), .int (iI x1)] u u' 9 900 := by
  refine x_ofWvm (cc := cX9_describeStanding) (maxL := 3) (own := RX9) (by decide) rfl rfl (Nat.le_of_ble_eq_true rfl) ?_
  intro p e s m args below meth c Q X hret H locs ls hG hS hl
  replace hl : lv_has ls 3 [(0, .ref (t.2.2.1 0)), (1, .int (iI x1))] := hl
  have q0 : 0 < NN ∧ sT 0 = 13 := by decide
  have iX9 : ∀ w ∈ wsX90, w ∈ wsX9_describeStanding := by decide +kernel
  have w1 : Cond.fieldLink RX9 64 "TriggerNetwork" "locator" "LTriggerNetwork$Locator;" ∈ wsX9_describeStanding := x_w 1 rfl
  have q30 : 30 < NN ∧ sT 30 = 7 := by decide
  have w2 : Cond.fieldLink RX9 30 "TriggerNetwork" "network" "LTriggerNetwork$Network;" ∈ wsX9_describeStanding := x_w 2 rfl
  have w3 : Cond.fieldLink RX9 40 "TriggerNetwork" "now" "LTriggerNetwork$Situation;" ∈ wsX9_describeStanding := x_w 3 rfl
  have q54 : 54 < NN ∧ sT 54 = 11 := by decide
  have w4 : Cond.fieldLink RX9 71 "TriggerNetwork" "description" "Ljava/lang/StringBuilder;" ∈ wsX9_describeStanding := x_w 4 rfl
  have q37 : 37 < NN ∧ sT 37 = 1 := by decide
  have iX5 : ∀ w ∈ wsX50, w ∈ wsX9_describeStanding := by decide +kernel
  have w5 : Cond.fieldLink RX9 97 "TriggerNetwork$Network" "grid" "LTriggerNetwork$Grid;" ∈ wsX9_describeStanding := x_w 5 rfl
  have iX3 : ∀ w ∈ wsX30, w ∈ wsX9_describeStanding := by decide +kernel
  have w6 : Cond.fieldLink RX9 334 "TriggerNetwork$Locator" "node" "I" ∈ wsX9_describeStanding := x_w 6 rfl
  have w7 : Cond.fieldLink RX9 357 "TriggerNetwork$Locator" "count" "I" ∈ wsX9_describeStanding := x_w 7 rfl
  have X0 := X
  obtain ⟨b, hb⟩ : ∃ b, mv t b = t := ⟨_, mv_self⟩
  replace hG : G (mv t b) u H := by rw [hb]; exact hG
  replace X := X0.mv (b := b)
  unfold f_X9_describeStanding at h
  refine lv_aload_n X.1.1 X.1.2.1 dX9_describeStanding_0 rfl (lv_at hl 0 rfl) ?_
  refine x_getr X hG 13 10 0 30 (inC := iX9) rfl q0.1 q0.2 ⟨by decide, by decide, by decide, rfl, by decide, by decide⟩ w1 dX9_describeStanding_1 ?_
  refine lv_aload_n X.1.1 X.1.2.1 dX9_describeStanding_4 rfl (lv_at hl 0 rfl) ?_
  obtain ⟨n1, en1, h⟩ := xlet_of h
  refine x_getd X hG 13 4 0 4 (inC := iX9) rfl q0.1 q0.2 ⟨by decide, by decide, by decide, rfl, rfl⟩ en1 w2 dX9_describeStanding_5 ?_
  obtain ⟨g2, h⟩ := xgd_of h
  refine lv_aload_n X.1.1 X.1.2.1 dX9_describeStanding_8 rfl (lv_at hl 0 rfl) ?_
  refine x_getr X hG 13 6 0 54 (inC := iX9) rfl q0.1 q0.2 ⟨by decide, by decide, by decide, rfl, by decide, by decide⟩ w3 dX9_describeStanding_9 ?_
  refine lv_iload_n X.1.1 X.1.2.1 dX9_describeStanding_12 rfl (lv_at hl 1 rfl) ?_
  obtain ⟨v3, u4, hf, h⟩ := xbd_of h
  refine x_callVv0 X hG hS (c_X3_locate l (mv t b) _ _ _ _ _ _ hf) (cwV 3 X.1.2.2.2.2 gX9_describeStanding_X3_locate rfl rfl rfl hd_X3_locate ⟨Nat.le_of_ble_eq_true rfl, Nat.le_of_ble_eq_true rfl⟩) q30.1 q30.2 rfl (by decide) (by rfl) hl.1 (Nat.le_of_ble_eq_true rfl) dX9_describeStanding_13 ⟨by decide, by decide⟩ rfl (fun H locs hG hS => ?_)
  refine lv_aload_n X.1.1 X.1.2.1 dX9_describeStanding_16 rfl (lv_at hl 0 rfl) ?_
  refine x_getr X hG 13 10 0 30 (inC := iX9) rfl q0.1 q0.2 ⟨by decide, by decide, by decide, rfl, by decide, by decide⟩ w1 dX9_describeStanding_17 ?_
  refine lv_aload_n X.1.1 X.1.2.1 dX9_describeStanding_20 rfl (lv_at hl 0 rfl) ?_
  obtain ⟨n5, en5, h⟩ := xlet_of h
  refine x_getd X hG 13 4 0 4 (inC := iX9) rfl q0.1 q0.2 ⟨by decide, by decide, by decide, rfl, rfl⟩ en5 w2 dX9_describeStanding_21 ?_
  obtain ⟨g6, h⟩ := xgd_of h
  refine lv_aload_n X.1.1 X.1.2.1 dX9_describeStanding_24 rfl (lv_at hl 0 rfl) ?_
  refine x_getr X hG 13 6 0 54 (inC := iX9) rfl q0.1 q0.2 ⟨by decide, by decide, by decide, rfl, by decide, by decide⟩ w3 dX9_describeStanding_25 ?_
  obtain ⟨v7, u8, hf, h⟩ := xbd_of h
  refine x_callVi0 X hG hS (c_X3_magnitude l (mv t b) _ _ _ _ _ hf) (cwV 2 X.1.2.2.2.2 gX9_describeStanding_X3_magnitude rfl rfl rfl hd_X3_magnitude ⟨Nat.le_of_ble_eq_true rfl, Nat.le_of_ble_eq_true rfl⟩) q30.1 q30.2 rfl (by decide) (by rfl) hl.1 (Nat.le_of_ble_eq_true rfl) dX9_describeStanding_28 ⟨by decide, by decide⟩ rfl (fun H locs hG hS => ?_)
  refine lv_istore_n (lv' := [(2, .int (iI v7)), (0, .ref (t.2.2.1 0)), (1, .int (iI x1))]) X.1.1 X.1.2.1 dX9_describeStanding_31 rfl hl (by decide) rfl (fun ls hl => ?_)
  refine lv_aload_n X.1.1 X.1.2.1 dX9_describeStanding_32 rfl (lv_at hl 1 rfl) ?_
  refine x_getr X hG 13 11 0 37 (inC := iX9) rfl q0.1 q0.2 ⟨by decide, by decide, by decide, rfl, by decide, by decide⟩ w4 dX9_describeStanding_33 ?_
  refine x_ldsw X (x_m 2 rfl) dX9_describeStanding_36 ?_
  obtain ⟨v9, u10, hf, h⟩ := xbd_of h
  obtain ⟨g11, h⟩ := xgd_of h
  rw [g11] at hf
  refine x_ksm (t := mv t b) hS (va_runV (As := [.ref ((mv t b).2.2.1 2011)]) X.1 (c_J4_append_15ec4 l (mv t b) _ _ _ _ hf) (cwV 1 X.1.2.2.2.2 gX9_describeStanding_J4_append_15ec4 rfl rfl rfl hd_J4_append_15ec4 ⟨Nat.le_of_ble_eq_true rfl, Nat.le_of_ble_eq_true rfl⟩) ⟨x_blind, x_sbrecv X hG, x_pre X hG hS⟩ rfl rfl hl.1 rfl (lv_room (Nat.le_of_ble_eq_true rfl)) dX9_describeStanding_39 ⟨by decide, by decide⟩) (fun b H locs hG hS => ?_)
  rw [mv_mv] at hG
  replace X := X0.mv (b := b)
  replace hS : va_S (gA t) s.heap H locs := hS
  refine lv_aload_n X.1.1 X.1.2.1 dX9_describeStanding_42 rfl (lv_at hl 1 rfl) ?_
  obtain ⟨n12, en12, h⟩ := xlet_of h
  refine x_getd X hG 13 4 0 4 (inC := iX9) rfl q0.1 q0.2 ⟨by decide, by decide, by decide, rfl, rfl⟩ en12 w2 dX9_describeStanding_43 ?_
  obtain ⟨g13, h⟩ := xgd_of h
  refine x_getr X hG 9 0 n12 1 (inC := iX5) rfl g13.1 g13.2 ⟨by decide, by decide, by decide, rfl, by decide, by decide⟩ w5 dX9_describeStanding_46 ?_
  refine lv_aload_n X.1.1 X.1.2.1 dX9_describeStanding_49 rfl (lv_at hl 1 rfl) ?_
  refine x_getr X hG 13 10 0 30 (inC := iX9) rfl q0.1 q0.2 ⟨by decide, by decide, by decide, rfl, by decide, by decide⟩ w1 dX9_describeStanding_50 ?_
  refine x_geti X hG 7 1 30 1 (inC := iX3) rfl q30.1 q30.2 ⟨by decide, by decide, by decide, rfl, rfl⟩ w6 dX9_describeStanding_53 ?_
  obtain ⟨v14, u15, hf, h⟩ := xbd_of h
  refine x_callVi0 X hG hS (c_X2_nodeX l (mv t b) _ _ _ _ _ hf) (cwV 1 X.1.2.2.2.2 gX9_describeStanding_X2_nodeX rfl rfl rfl hd_X2_nodeX ⟨Nat.le_of_ble_eq_true rfl, Nat.le_of_ble_eq_true rfl⟩) (fx_9_0 g13).1 (fx_9_0 g13).2 rfl (by decide) (by rfl) hl.1 (Nat.le_of_ble_eq_true rfl) dX9_describeStanding_56 ⟨by decide, by decide⟩ rfl (fun H locs hG hS => ?_)
  obtain ⟨v16, u17, hf, h⟩ := xbd_of h
  obtain ⟨g18, h⟩ := xgd_of h
  rw [g18] at hf
  refine x_ksm (t := mv t b) hS (va_runV (As := [.int (iI v14)]) X.1 (c_J4_append_bf812 l (mv t b) _ _ _ _ hf) (cwV 1 X.1.2.2.2.2 gX9_describeStanding_J4_append_bf812 rfl rfl rfl hd_J4_append_bf812 ⟨Nat.le_of_ble_eq_true rfl, Nat.le_of_ble_eq_true rfl⟩) ⟨x_blind, x_sbrecv X hG, x_pre X hG hS⟩ rfl rfl hl.1 rfl (lv_room (Nat.le_of_ble_eq_true rfl)) dX9_describeStanding_59 ⟨by decide, by decide⟩) (fun b H locs hG hS => ?_)
  rw [mv_mv] at hG
  replace X := X0.mv (b := b)
  replace hS : va_S (gA t) s.heap H locs := hS
  refine lv_pop X.1.1 X.1.2.1 dX9_describeStanding_62 rfl ?_
  refine lv_aload_n X.1.1 X.1.2.1 dX9_describeStanding_63 rfl (lv_at hl 1 rfl) ?_
  refine x_getr X hG 13 11 0 37 (inC := iX9) rfl q0.1 q0.2 ⟨by decide, by decide, by decide, rfl, by decide, by decide⟩ w4 dX9_describeStanding_64 ?_
  refine x_bipush X dX9_describeStanding_67 (by decide) ?_
  obtain ⟨v19, u20, hf, h⟩ := xbd_of h
  obtain ⟨g21, h⟩ := xgd_of h
  rw [g21] at hf
  refine x_ksm (t := mv t b) hS (va_runV (As := [.int (iI 44)]) X.1 (c_J4_append_cf468 l (mv t b) _ _ _ _ hf) (cwV 1 X.1.2.2.2.2 gX9_describeStanding_J4_append_cf468 rfl rfl rfl hd_J4_append_cf468 ⟨Nat.le_of_ble_eq_true rfl, Nat.le_of_ble_eq_true rfl⟩) ⟨x_blind, x_sbrecv X hG, x_pre X hG hS⟩ rfl rfl hl.1 rfl (lv_room (Nat.le_of_ble_eq_true rfl)) dX9_describeStanding_69 ⟨by decide, by decide⟩) (fun b H locs hG hS => ?_)
  rw [mv_mv] at hG
  replace X := X0.mv (b := b)
  replace hS : va_S (gA t) s.heap H locs := hS
  refine lv_aload_n X.1.1 X.1.2.1 dX9_describeStanding_72 rfl (lv_at hl 1 rfl) ?_
  obtain ⟨n22, en22, h⟩ := xlet_of h
  refine x_getd X hG 13 4 0 4 (inC := iX9) rfl q0.1 q0.2 ⟨by decide, by decide, by decide, rfl, rfl⟩ en22 w2 dX9_describeStanding_73 ?_
  obtain ⟨g23, h⟩ := xgd_of h
  refine x_getr X hG 9 0 n22 1 (inC := iX5) rfl g23.1 g23.2 ⟨by decide, by decide, by decide, rfl, by decide, by decide⟩ w5 dX9_describeStanding_76 ?_
  refine lv_aload_n X.1.1 X.1.2.1 dX9_describeStanding_79 rfl (lv_at hl 1 rfl) ?_
  refine x_getr X hG 13 10 0 30 (inC := iX9) rfl q0.1 q0.2 ⟨by decide, by decide, by decide, rfl, by decide, by decide⟩ w1 dX9_describeStanding_80 ?_
  refine x_geti X hG 7 1 30 1 (inC := iX3) rfl q30.1 q30.2 ⟨by decide, by decide, by decide, rfl, rfl⟩ w6 dX9_describeStanding_83 ?_
  obtain ⟨v24, u25, hf, h⟩ := xbd_of h
  refine x_callVi0 X hG hS (c_X2_nodeY l (mv t b) _ _ _ _ _ hf) (cwV 1 X.1.2.2.2.2 gX9_describeStanding_X2_nodeY rfl rfl rfl hd_X2_nodeY ⟨Nat.le_of_ble_eq_true rfl, Nat.le_of_ble_eq_true rfl⟩) (fx_9_0 g23).1 (fx_9_0 g23).2 rfl (by decide) (by rfl) hl.1 (Nat.le_of_ble_eq_true rfl) dX9_describeStanding_86 ⟨by decide, by decide⟩ rfl (fun H locs hG hS => ?_)
  obtain ⟨v26, u27, hf, h⟩ := xbd_of h
  obtain ⟨g28, h⟩ := xgd_of h
  rw [g28] at hf
  refine x_ksm (t := mv t b) hS (va_runV (As := [.int (iI v24)]) X.1 (c_J4_append_bf812 l (mv t b) _ _ _ _ hf) (cwV 1 X.1.2.2.2.2 gX9_describeStanding_J4_append_bf812 rfl rfl rfl hd_J4_append_bf812 ⟨Nat.le_of_ble_eq_true rfl, Nat.le_of_ble_eq_true rfl⟩) ⟨x_blind, x_sbrecv X hG, x_pre X hG hS⟩ rfl rfl hl.1 rfl (lv_room (Nat.le_of_ble_eq_true rfl)) dX9_describeStanding_89 ⟨by decide, by decide⟩) (fun b H locs hG hS => ?_)
  rw [mv_mv] at hG
  replace X := X0.mv (b := b)
  replace hS : va_S (gA t) s.heap H locs := hS
  refine lv_pop X.1.1 X.1.2.1 dX9_describeStanding_92 rfl ?_
  refine lv_aload_n X.1.1 X.1.2.1 dX9_describeStanding_93 rfl (lv_at hl 1 rfl) ?_
  refine x_getr X hG 13 11 0 37 (inC := iX9) rfl q0.1 q0.2 ⟨by decide, by decide, by decide, rfl, by decide, by decide⟩ w4 dX9_describeStanding_94 ?_
  refine x_ldsw X (x_m 3 rfl) dX9_describeStanding_97 ?_
  obtain ⟨v29, u30, hf, h⟩ := xbd_of h
  obtain ⟨g31, h⟩ := xgd_of h
  rw [g31] at hf
  refine x_ksm (t := mv t b) hS (va_runV (As := [.ref ((mv t b).2.2.1 2013)]) X.1 (c_J4_append_15ec4 l (mv t b) _ _ _ _ hf) (cwV 1 X.1.2.2.2.2 gX9_describeStanding_J4_append_15ec4 rfl rfl rfl hd_J4_append_15ec4 ⟨Nat.le_of_ble_eq_true rfl, Nat.le_of_ble_eq_true rfl⟩) ⟨x_blind, x_sbrecv X hG, x_pre X hG hS⟩ rfl rfl hl.1 rfl (lv_room (Nat.le_of_ble_eq_true rfl)) dX9_describeStanding_100 ⟨by decide, by decide⟩) (fun b H locs hG hS => ?_)
  rw [mv_mv] at hG
  replace X := X0.mv (b := b)
  replace hS : va_S (gA t) s.heap H locs := hS
  refine lv_aload_n X.1.1 X.1.2.1 dX9_describeStanding_103 rfl (lv_at hl 1 rfl) ?_
  refine x_getr X hG 13 10 0 30 (inC := iX9) rfl q0.1 q0.2 ⟨by decide, by decide, by decide, rfl, by decide, by decide⟩ w1 dX9_describeStanding_104 ?_
  refine x_geti X hG 7 0 30 0 (inC := iX3) rfl q30.1 q30.2 ⟨by decide, by decide, by decide, rfl, rfl⟩ w7 dX9_describeStanding_107 ?_
  obtain ⟨v32, u33, hf, h⟩ := xbd_of h
  obtain ⟨g34, h⟩ := xgd_of h
  rw [g34] at hf
  refine x_ksm (t := mv t b) hS (va_runV (As := [.int (iI (u30 30 0))]) X.1 (c_J4_append_bf812 l (mv t b) _ _ _ _ hf) (cwV 1 X.1.2.2.2.2 gX9_describeStanding_J4_append_bf812 rfl rfl rfl hd_J4_append_bf812 ⟨Nat.le_of_ble_eq_true rfl, Nat.le_of_ble_eq_true rfl⟩) ⟨x_blind, x_sbrecv X hG, x_pre X hG hS⟩ rfl rfl hl.1 rfl (lv_room (Nat.le_of_ble_eq_true rfl)) dX9_describeStanding_110 ⟨by decide, by decide⟩) (fun b H locs hG hS => ?_)
  rw [mv_mv] at hG
  replace X := X0.mv (b := b)
  replace hS : va_S (gA t) s.heap H locs := hS
  refine x_ldsw X (x_m 4 rfl) dX9_describeStanding_113 ?_
  obtain ⟨v35, u36, hf, h⟩ := xbd_of h
  obtain ⟨g37, h⟩ := xgd_of h
  rw [g37] at hf
  refine x_ksm (t := mv t b) hS (va_runV (As := [.ref ((mv t b).2.2.1 2014)]) X.1 (c_J4_append_15ec4 l (mv t b) _ _ _ _ hf) (cwV 1 X.1.2.2.2.2 gX9_describeStanding_J4_append_15ec4 rfl rfl rfl hd_J4_append_15ec4 ⟨Nat.le_of_ble_eq_true rfl, Nat.le_of_ble_eq_true rfl⟩) ⟨x_blind, x_sbrecv X hG, x_pre X hG hS⟩ rfl rfl hl.1 rfl (lv_room (Nat.le_of_ble_eq_true rfl)) dX9_describeStanding_116 ⟨by decide, by decide⟩) (fun b H locs hG hS => ?_)
  rw [mv_mv] at hG
  replace X := X0.mv (b := b)
  replace hS : va_S (gA t) s.heap H locs := hS
  refine lv_pop X.1.1 X.1.2.1 dX9_describeStanding_119 rfl ?_
  refine lv_iload_n X.1.1 X.1.2.1 dX9_describeStanding_120 rfl (lv_at hl 0 rfl) ?_
  refine x_iconst X dX9_describeStanding_121 ?_
  obtain ⟨g38, h⟩ := xgd_of h
  refine x_icmp_eq (tgt := 140) X g38 ⟨by decide, by decide⟩ dX9_describeStanding_122 (by decide) (fun c39 => ?_) (fun c39 => ?_)
  · replace h := xif_t h c39
    cases h
    exact hret _ _ _ _ _ _ _ (by decide) (by decide) dX9_describeStanding_140 hG hS
  · replace h := xif_f h c39
    refine lv_aload_n X.1.1 X.1.2.1 dX9_describeStanding_125 rfl (lv_at hl 1 rfl) ?_
    refine x_getr X hG 13 11 0 37 (inC := iX9) rfl q0.1 q0.2 ⟨by decide, by decide, by decide, rfl, by decide, by decide⟩ w4 dX9_describeStanding_126 ?_
    refine x_ldsw X (x_m 5 rfl) dX9_describeStanding_129 ?_
    obtain ⟨v40, u41, hf, h⟩ := xbd_of h
    obtain ⟨g42, h⟩ := xgd_of h
    rw [g42] at hf
    refine x_ksm (t := mv t b) hS (va_runV (As := [.ref ((mv t b).2.2.1 2015)]) X.1 (c_J4_append_15ec4 l (mv t b) _ _ _ _ hf) (cwV 1 X.1.2.2.2.2 gX9_describeStanding_J4_append_15ec4 rfl rfl rfl hd_J4_append_15ec4 ⟨Nat.le_of_ble_eq_true rfl, Nat.le_of_ble_eq_true rfl⟩) ⟨x_blind, x_sbrecv X hG, x_pre X hG hS⟩ rfl rfl hl.1 rfl (lv_room (Nat.le_of_ble_eq_true rfl)) dX9_describeStanding_132 ⟨by decide, by decide⟩) (fun b H locs hG hS => ?_)
    rw [mv_mv] at hG
    replace X := X0.mv (b := b)
    replace hS : va_S (gA t) s.heap H locs := hS
    refine lv_iload_n X.1.1 X.1.2.1 dX9_describeStanding_135 rfl (lv_at hl 0 rfl) ?_
    obtain ⟨v43, u44, hf, h⟩ := xbd_of h
    obtain ⟨g45, h⟩ := xgd_of h
    rw [g45] at hf
    refine x_ksm (t := mv t b) hS (va_runV (As := [.int (iI v7)]) X.1 (c_J4_append_bf812 l (mv t b) _ _ _ _ hf) (cwV 1 X.1.2.2.2.2 gX9_describeStanding_J4_append_bf812 rfl rfl rfl hd_J4_append_bf812 ⟨Nat.le_of_ble_eq_true rfl, Nat.le_of_ble_eq_true rfl⟩) ⟨x_blind, x_sbrecv X hG, x_pre X hG hS⟩ rfl rfl hl.1 rfl (lv_room (Nat.le_of_ble_eq_true rfl)) dX9_describeStanding_136 ⟨by decide, by decide⟩) (fun b H locs hG hS => ?_)
    rw [mv_mv] at hG
    replace X := X0.mv (b := b)
    replace hS : va_S (gA t) s.heap H locs := hS
    refine lv_pop X.1.1 X.1.2.1 dX9_describeStanding_139 rfl ?_
    cases h
    exact hret _ _ _ _ _ _ _ (by decide) (by decide) dX9_describeStanding_140 hG hS
theorem hd_X9_describeStanding : yX9_describeStanding.cls = RX9 ∧ yX9_describeStanding.cls ≠ "java/lang/invoke/MethodHandle" ∧ yX9_describeStanding.cls ≠ "java/lang/invoke/VarHandle" ∧ (parseMethodDescriptor yX9_describeStanding.desc).map (fun d => d.parameters.length) = some 1 := by decide +kernel
