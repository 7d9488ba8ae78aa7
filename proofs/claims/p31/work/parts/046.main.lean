abbrev rX9_appendWord : Room := { frames := 0, cells := 0, slots := 0, locals := 0 }
set_option maxRecDepth 100000 in
set_option maxHeartbeats 8000000 in
theorem c_X9_appendWord (l : Launch) (t : gP) (x1 : Int) (u : uS) (r : Int) (u' : uS) (h : f_X9_appendWord x1 u = some (r, u')) : xMv l yX9_appendWord wsX9_appendWord rX9_appendWord t [.ref (t.2.2.1 0), .int (iI x1)] u u' 0 0 := by
  refine x_ofWv (cc := cX9_appendWord) (maxL := 3) (own := RX9) (by decide) rfl rfl (Nat.le_of_ble_eq_true rfl) ?_
  intro p e s m args below meth c Q X hret H locs ls hG hS hl
  replace hl : lv_has ls 3 [(0, .ref (t.2.2.1 0)), (1, .int (iI x1))] := hl
  have q0 : 0 < NN ∧ sT 0 = 13 := by decide
  have iX9 : ∀ w ∈ wsX90, w ∈ wsX9_appendWord := by decide +kernel
  have w1 : Cond.fieldLink RX9 13 "TriggerNetwork" "bufferLength" "I" ∈ wsX9_appendWord := x_w 1 rfl
  have w2 : Cond.fieldLink RX9 9 "TriggerNetwork" "buffer" "[I" ∈ wsX9_appendWord := x_w 2 rfl
  have q1 : 1 < NN ∧ sT 1 = 100 ∧ sN 1 = 500 := by decide
  unfold f_X9_appendWord at h
  refine x_bipush X dX9_appendWord_0 (by decide) ?_
  refine lv_istore_n (lv' := [(2, .int (iI 24)), (0, .ref (t.2.2.1 0)), (1, .int (iI x1))]) X.1.1 X.1.2.1 dX9_appendWord_2 rfl hl (by decide) rfl (fun ls hl => ?_)
  have Lgo1 : ∀ (n : Nat) (x2_2 : Int) (u3 : uS), xl2 (s_X9_appendWord_3 x1) n x2_2 u3 = some (r, u') → xG p l e rX9_appendWord s m args below meth c t Q 3 0 0 3 u3 [(2, .int (iI x2_2)), (0, .ref (t.2.2.1 0)), (1, .int (iI x1))] [] := by
    intro n x2_2 u3 h
    refine xl2_W (F := s_X9_appendWord_3 x1) (fun x2_2 u3 q => q = (r, u') → xG p l e rX9_appendWord s m args below meth c t Q 3 0 0 3 u3 [(2, .int (iI x2_2)), (0, .ref (t.2.2.1 0)), (1, .int (iI x1))] []) ?_ n x2_2 u3 _ h rfl
    intro go1 igo1 x2_2 u3 q h hq H locs ls hG hS hl
    subst hq
    unfold s_X9_appendWord_3 at h
    refine lv_iload_n X.1.1 X.1.2.1 dX9_appendWord_3 rfl (lv_at hl 0 rfl) ?_
    obtain ⟨g4, h⟩ := xgd_of h
    refine x_if_lt (tgt := 51) X g4 dX9_appendWord_4 (by decide) (fun c5 => ?_) (fun c5 => ?_)
    · replace h := xif_t h c5
      cases h
      exact hret _ _ _ _ dX9_appendWord_51 hG hS
    · replace h := xif_f h c5
      refine lv_aload_n X.1.1 X.1.2.1 dX9_appendWord_7 rfl (lv_at hl 1 rfl) ?_
      refine x_geti X hG 13 1 0 1 (inC := iX9) rfl q0.1 q0.2 ⟨by decide, by decide, by decide, rfl, rfl⟩ w1 dX9_appendWord_8 ?_
      refine lv_aload_n X.1.1 X.1.2.1 dX9_appendWord_11 rfl (lv_at hl 1 rfl) ?_
      refine x_getr X hG 13 0 0 1 (inC := iX9) rfl q0.1 q0.2 ⟨by decide, by decide, by decide, rfl, by decide, by decide⟩ w2 dX9_appendWord_12 ?_
      refine x_alen X hG q1.1 q1.2.1 (n := 500) q1.2.2 dX9_appendWord_15 ?_
      obtain ⟨g6, h⟩ := xgd_of h
      refine x_icmp_ge (tgt := 45) X g6 ⟨by decide, by decide⟩ dX9_appendWord_16 (by decide) (fun c7 => ?_) (fun c7 => ?_)
      · replace h := xif_t h c7
        refine lv_iinc (v := (iI (x2_2 + (-8)))) (lv' := [(2, .int (iI (x2_2 + (-8)))), (0, .ref (t.2.2.1 0)), (1, .int (iI x1))]) X.1.1 X.1.2.1 dX9_appendWord_45 hl (k := 0) rfl (iI_add _ _) (by decide) rfl (fun ls hl => ?_)
        refine lv_goto (tgt := 3) X.1.1 X.1.2.1 dX9_appendWord_48 (by decide) ?_
        exact igo1 _ _ _ h rfl _ _ _ hG hS (lv_sub hl [0, 1, 2] rfl)
      · replace h := xif_f h c7
        refine lv_aload_n X.1.1 X.1.2.1 dX9_appendWord_19 rfl (lv_at hl 1 rfl) ?_
        refine x_getr X hG 13 0 0 1 (inC := iX9) rfl q0.1 q0.2 ⟨by decide, by decide, by decide, rfl, by decide, by decide⟩ w2 dX9_appendWord_20 ?_
        refine lv_aload_n X.1.1 X.1.2.1 dX9_appendWord_23 rfl (lv_at hl 1 rfl) ?_
        refine x_geti X hG 13 1 0 1 (inC := iX9) rfl q0.1 q0.2 ⟨by decide, by decide, by decide, rfl, rfl⟩ w1 dX9_appendWord_24 ?_
        refine lv_iload_n X.1.1 X.1.2.1 dX9_appendWord_27 rfl (lv_at hl 2 rfl) ?_
        refine lv_iload_n X.1.1 X.1.2.1 dX9_appendWord_28 rfl (lv_at hl 0 rfl) ?_
        obtain ⟨g8, h⟩ := xgd_of h
        refine x_ishr X g8.1 g8.2 dX9_appendWord_29 ?_
        refine x_sipush X dX9_appendWord_30 (by decide) ?_
        refine x_and X (k := 8) (by decide) (by decide) dX9_appendWord_33 ?_
        obtain ⟨g9, h⟩ := xgd_of h
        refine x_iast X hG hS q1.1 q1.2.1 (n := 500) q1.2.2 g9 (by decide) dX9_appendWord_34 (fun H locs hG hS => ?_)
        obtain ⟨u10, eu10, h⟩ := xlet_of h
        replace hG : G t u10 H := by rw [eu10]; exact hG
        refine lv_aload_n X.1.1 X.1.2.1 dX9_appendWord_35 rfl (lv_at hl 1 rfl) ?_
        refine lv_dup X.1.1 X.1.2.1 dX9_appendWord_36 rfl ?_
        refine x_geti X hG 13 1 0 1 (inC := iX9) rfl q0.1 q0.2 ⟨by decide, by decide, by decide, rfl, rfl⟩ w1 dX9_appendWord_37 ?_
        refine x_iconst X dX9_appendWord_40 ?_
        refine x_iadd X dX9_appendWord_41 ?_
        refine x_puti X hG hS 13 1 0 1 _ tyX9 tyX9_ok nmX9 (inC := iX9) rfl q0.1 q0.2 ⟨by decide, by decide, by decide, rfl, rfl⟩ rfl (by decide +kernel) w1 dX9_appendWord_42 (fun H locs hG hS => ?_)
        obtain ⟨u11, eu11, h⟩ := xlet_of h
        replace hG : G t u11 H := by rw [eu11]; exact hG
        refine lv_iinc (v := (iI (x2_2 + (-8)))) (lv' := [(2, .int (iI (x2_2 + (-8)))), (0, .ref (t.2.2.1 0)), (1, .int (iI x1))]) X.1.1 X.1.2.1 dX9_appendWord_45 hl (k := 0) rfl (iI_add _ _) (by decide) rfl (fun ls hl => ?_)
        refine lv_goto (tgt := 3) X.1.1 X.1.2.1 dX9_appendWord_48 (by decide) ?_
        exact igo1 _ _ _ h rfl _ _ _ hG hS (lv_sub hl [0, 1, 2] rfl)
  exact Lgo1 FU _ _ h _ _ _ hG hS (lv_sub hl [0, 1, 2] rfl)
theorem hd_X9_appendWord : yX9_appendWord.cls = RX9 ∧ yX9_appendWord.cls ≠ "java/lang/invoke/MethodHandle" ∧ yX9_appendWord.cls ≠ "java/lang/invoke/VarHandle" ∧ (parseMethodDescriptor yX9_appendWord.desc).map (fun d => d.parameters.length) = some 1 := by decide +kernel
abbrev rX9_append : Room := { frames := 1, cells := 0, slots := 0, locals := 22 }
set_option maxRecDepth 100000 in
set_option maxHeartbeats 8000000 in
theorem c_X9_append (l : Launch) (t : gP) (x1 : Int) (x2 : Int) (x3 : Int) (x4 : Int) (x5 : Int) (u : uS) (r : Int) (u' : uS) (h : f_X9_append x1 x2 x3 x4 x5 u = some (r, u')) : xMi l yX9_append wsX9_append rX9_append t [.ref (t.2.2.1 0), .int (iI x1), .int (iI x2), .int (iI x3), .int (iI x4), .int (iI x5)] u r u' 0 0 := by
  refine x_ofWi (cc := cX9_append) (maxL := 6) (ret := .int) (own := RX9) (by decide) rfl rfl (Nat.le_of_ble_eq_true rfl) ?_
  intro p e s m args below meth c Q X hret H locs ls hG hS hl
  replace hl : lv_has ls 6 [(0, .ref (t.2.2.1 0)), (1, .int (iI x1)), (2, .int (iI x2)), (3, .int (iI x3)), (4, .int (iI x4)), (5, .int (iI x5))] := hl
  have q0 : 0 < NN ∧ sT 0 = 13 := by decide
  have iX9 : ∀ w ∈ wsX90, w ∈ wsX9_append := by decide +kernel
  have w1 : Cond.fieldLink RX9 13 "TriggerNetwork" "bufferLength" "I" ∈ wsX9_append := x_w 1 rfl
  unfold f_X9_append at h
  refine lv_aload_n X.1.1 X.1.2.1 dX9_append_0 rfl (lv_at hl 0 rfl) ?_
  refine x_geti X hG 13 1 0 1 (inC := iX9) rfl q0.1 q0.2 ⟨by decide, by decide, by decide, rfl, rfl⟩ w1 dX9_append_1 ?_
  refine x_bipush X dX9_append_4 (by decide) ?_
  refine x_iadd X dX9_append_6 ?_
  refine x_sipush X dX9_append_7 (by decide) ?_
  obtain ⟨g1, h⟩ := xgd_of h
  refine x_icmp_le (tgt := 15) X g1 ⟨by decide, by decide⟩ dX9_append_10 (by decide) (fun c2 => ?_) (fun c2 => ?_)
  · replace h := xif_t h c2
    refine lv_aload_n X.1.1 X.1.2.1 dX9_append_15 rfl (lv_at hl 0 rfl) ?_
    refine lv_iload_n X.1.1 X.1.2.1 dX9_append_16 rfl (lv_at hl 1 rfl) ?_
    obtain ⟨v3, u4, hf, h⟩ := xbd_of h
    refine x_callVv0 X hG hS (c_X9_appendWord l t _ _ _ _ hf) (cwV 1 X.1.2.2.2.2 gX9_append_X9_appendWord rfl rfl rfl hd_X9_appendWord ⟨Nat.le_of_ble_eq_true rfl, Nat.le_of_ble_eq_true rfl⟩) q0.1 q0.2 rfl (by decide) (by rfl) hl.1 (Nat.le_of_ble_eq_true rfl) dX9_append_17 ⟨by decide, by decide⟩ rfl (fun H locs hG hS => ?_)
    refine lv_aload_n X.1.1 X.1.2.1 dX9_append_20 rfl (lv_at hl 0 rfl) ?_
    refine lv_iload_n X.1.1 X.1.2.1 dX9_append_21 rfl (lv_at hl 2 rfl) ?_
    obtain ⟨v5, u6, hf, h⟩ := xbd_of h
    refine x_callVv0 X hG hS (c_X9_appendWord l t _ _ _ _ hf) (cwV 1 X.1.2.2.2.2 gX9_append_X9_appendWord rfl rfl rfl hd_X9_appendWord ⟨Nat.le_of_ble_eq_true rfl, Nat.le_of_ble_eq_true rfl⟩) q0.1 q0.2 rfl (by decide) (by rfl) hl.1 (Nat.le_of_ble_eq_true rfl) dX9_append_22 ⟨by decide, by decide⟩ rfl (fun H locs hG hS => ?_)
    refine lv_aload_n X.1.1 X.1.2.1 dX9_append_25 rfl (lv_at hl 0 rfl) ?_
    refine lv_iload_n X.1.1 X.1.2.1 dX9_append_26 rfl (lv_at hl 3 rfl) ?_
    obtain ⟨v7, u8, hf, h⟩ := xbd_of h
    refine x_callVv0 X hG hS (c_X9_appendWord l t _ _ _ _ hf) (cwV 1 X.1.2.2.2.2 gX9_append_X9_appendWord rfl rfl rfl hd_X9_appendWord ⟨Nat.le_of_ble_eq_true rfl, Nat.le_of_ble_eq_true rfl⟩) q0.1 q0.2 rfl (by decide) (by rfl) hl.1 (Nat.le_of_ble_eq_true rfl) dX9_append_27 ⟨by decide, by decide⟩ rfl (fun H locs hG hS => ?_)
    refine lv_aload_n X.1.1 X.1.2.1 dX9_append_30 rfl (lv_at hl 0 rfl) ?_
    refine lv_iload X.1.1 X.1.2.1 dX9_append_31 (lv_at hl 4 rfl) ?_
    obtain ⟨v9, u10, hf, h⟩ := xbd_of h
    refine x_callVv0 X hG hS (c_X9_appendWord l t _ _ _ _ hf) (cwV 1 X.1.2.2.2.2 gX9_append_X9_appendWord rfl rfl rfl hd_X9_appendWord ⟨Nat.le_of_ble_eq_true rfl, Nat.le_of_ble_eq_true rfl⟩) q0.1 q0.2 rfl (by decide) (by rfl) hl.1 (Nat.le_of_ble_eq_true rfl) dX9_append_33 ⟨by decide, by decide⟩ rfl (fun H locs hG hS => ?_)
    refine lv_aload_n X.1.1 X.1.2.1 dX9_append_36 rfl (lv_at hl 0 rfl) ?_
    refine lv_iload X.1.1 X.1.2.1 dX9_append_37 (lv_at hl 5 rfl) ?_
    obtain ⟨v11, u12, hf, h⟩ := xbd_of h
    refine x_callVv0 X hG hS (c_X9_appendWord l t _ _ _ _ hf) (cwV 1 X.1.2.2.2.2 gX9_append_X9_appendWord rfl rfl rfl hd_X9_appendWord ⟨Nat.le_of_ble_eq_true rfl, Nat.le_of_ble_eq_true rfl⟩) q0.1 q0.2 rfl (by decide) (by rfl) hl.1 (Nat.le_of_ble_eq_true rfl) dX9_append_39 ⟨by decide, by decide⟩ rfl (fun H locs hG hS => ?_)
    refine lv_aload_n X.1.1 X.1.2.1 dX9_append_42 rfl (lv_at hl 0 rfl) ?_
    refine x_geti X hG 13 1 0 1 (inC := iX9) rfl q0.1 q0.2 ⟨by decide, by decide, by decide, rfl, rfl⟩ w1 dX9_append_43 ?_
    cases h
    exact hret _ _ _ _ dX9_append_46 rfl hG hS
  · replace h := xif_f h c2
    refine x_iconst X dX9_append_13 ?_
    cases h
    exact hret _ _ _ _ dX9_append_14 rfl hG hS
theorem hd_X9_append : yX9_append.cls = RX9 ∧ yX9_append.cls ≠ "java/lang/invoke/MethodHandle" ∧ yX9_append.cls ≠ "java/lang/invoke/VarHandle" ∧ (parseMethodDescriptor yX9_append.desc).map (fun d => d.parameters.length) = some 5 := by decide +kernel
abbrev rX9_size : Room := { frames := 6, cells := 1, slots := 6, locals := 120 }
set_option maxRecDepth 100000 in
set_option maxHeartbeats 8000000 in
theorem c_X9_size (l : Launch) (hfl : l.stackTraces = false) (t : gP) (x1 : Int) (u : uS) (g : Nat) (r : Int) (u' : uS) (h : f_X9_size x1 u = some (g, r, u')) : xTi l yX9_size wsX9_size rX9_size t [.ref (t.2.2.1 0), .int (iI x1)] u g r u' 1 6 := by
  refine x_ofTi (cc := cX9_size) (maxL := 2) (ret := .int) (own := RX9) (by decide) rfl rfl (Nat.le_of_ble_eq_true rfl) ?_
  intro p e s m args below meth c Q hQ X hlk htab hret hxo H locs ls hG hS hl
  replace hl : lv_has ls 2 [(0, .ref (t.2.2.1 0)), (1, .int (iI x1))] := hl
  have q0 : 0 < NN ∧ sT 0 = 13 := by decide
  have w1 : Cond.classLink RX9 79 "java/lang/IllegalArgumentException" ∈ wsX9_size := x_w 1 rfl
  have w2 : Cond.initialized "java/lang/IllegalArgumentException" ∈ wsX9_size := x_w 2 rfl
  have iX9 : ∀ w ∈ wsX90, w ∈ wsX9_size := by decide +kernel
  have w3 : Cond.fieldLink RX9 30 "TriggerNetwork" "network" "LTriggerNetwork$Network;" ∈ wsX9_size := x_w 3 rfl
  have iX5 : ∀ w ∈ wsX50, w ∈ wsX9_size := by decide +kernel
  have w4 : Cond.fieldLink RX9 94 "TriggerNetwork$Network" "stationCount" "I" ∈ wsX9_size := x_w 4 rfl
  have w5 : Cond.fieldLink RX9 97 "TriggerNetwork$Network" "grid" "LTriggerNetwork$Grid;" ∈ wsX9_size := x_w 5 rfl
  have w6 : Cond.fieldLink RX9 107 "TriggerNetwork$Network" "rungs" "LTriggerNetwork$Rungs;" ∈ wsX9_size := x_w 6 rfl
  have iX6 : ∀ w ∈ wsX60, w ∈ wsX9_size := by decide +kernel
  have w7 : Cond.fieldLink RX9 111 "TriggerNetwork$Rungs" "count" "I" ∈ wsX9_size := x_w 7 rfl
  have w8 : Cond.fieldLink RX9 40 "TriggerNetwork" "now" "LTriggerNetwork$Situation;" ∈ wsX9_size := x_w 8 rfl
  have q54 : 54 < NN ∧ sT 54 = 11 := by decide
  have iX7 : ∀ w ∈ wsX70, w ∈ wsX9_size := by decide +kernel
  have w9 : Cond.fieldLink RX9 116 "TriggerNetwork$Situation" "pickCount" "I" ∈ wsX9_size := x_w 9 rfl
  have w10 : Cond.fieldLink RX9 119 "TriggerNetwork$Situation" "eventCount" "I" ∈ wsX9_size := x_w 10 rfl
  unfold f_X9_size at h
  refine lv_iload_n X.1.1 X.1.2.1 dX9_size_0 rfl (lv_at hl 1 rfl) ?_
  obtain ⟨g1, h⟩ := xgd_of h
  rcases Decidable.em (x1 < 0 ∨ 5 < x1) with c2 | c2
  · replace h := xif_t h c2
    refine x_tblO (tgt := 94) X g1 dX9_size_1 c2 (by decide) ?_
    cases h
    exact x_thrS X hG hS hfl hlk htab hl.1 (g := 2) (by decide) hQ (by decide) w1 w2 (x_m 1 rfl) (fun w q => List.mem_cons_of_mem _ (List.mem_append_right _ q)) xng_2 xot_2 dX9_size_94 dX9_size_97 dX9_size_98 dX9_size_100 dX9_size_103 (by decide) (by decide) (by decide) (by decide) (by decide) (by decide)
  · replace h := xif_f h c2
    rcases Decidable.em (x1 = 0) with c3 | c3
    · replace h := xif_t h c3
      refine x_tblI (v := 0) (tgt := 40) X c3 (by decide) ⟨by decide, by decide⟩ dX9_size_1 rfl (by decide) ?_
      refine lv_aload_n X.1.1 X.1.2.1 dX9_size_40 rfl (lv_at hl 0 rfl) ?_
      obtain ⟨n4, en4, h⟩ := xlet_of h
      refine x_getd X hG 13 4 0 4 (inC := iX9) rfl q0.1 q0.2 ⟨by decide, by decide, by decide, rfl, rfl⟩ en4 w3 dX9_size_41 ?_
      obtain ⟨g5, h⟩ := xgd_of h
      refine x_geti X hG 9 10 n4 10 (inC := iX5) rfl g5.1 g5.2 ⟨by decide, by decide, by decide, rfl, rfl⟩ w4 dX9_size_44 ?_
      cases h
      exact hret _ _ _ _ _ _ (by decide) (by decide) rfl dX9_size_47 rfl hG hS
    replace h := xif_f h c3
    rcases Decidable.em (x1 = 1) with c6 | c6
    · replace h := xif_t h c6
      refine x_tblI (v := 1) (tgt := 48) X c6 (by decide) ⟨by decide, by decide⟩ dX9_size_1 rfl (by decide) ?_
      refine lv_aload_n X.1.1 X.1.2.1 dX9_size_48 rfl (lv_at hl 0 rfl) ?_
      obtain ⟨n7, en7, h⟩ := xlet_of h
      refine x_getd X hG 13 4 0 4 (inC := iX9) rfl q0.1 q0.2 ⟨by decide, by decide, by decide, rfl, rfl⟩ en7 w3 dX9_size_49 ?_
      obtain ⟨g8, h⟩ := xgd_of h
      refine x_getr X hG 9 0 n7 1 (inC := iX5) rfl g8.1 g8.2 ⟨by decide, by decide, by decide, rfl, by decide, by decide⟩ w5 dX9_size_52 ?_
      obtain ⟨v9, u10, hf, h⟩ := xbd_of h
      refine x_callVi0 X hG hS (c_X2_nodeCount l t _ _ _ _ hf) (cwV 0 X.1.2.2.2.2 gX9_size_X2_nodeCount rfl rfl rfl hd_X2_nodeCount ⟨Nat.le_of_ble_eq_true rfl, Nat.le_of_ble_eq_true rfl⟩) (fx_9_0 g8).1 (fx_9_0 g8).2 rfl (by decide) (by rfl) hl.1 (Nat.le_of_ble_eq_true rfl) dX9_size_55 ⟨by decide, by decide⟩ rfl (fun H locs hG hS => ?_)
      cases h
      exact hret _ _ _ _ _ _ (by decide) (by decide) rfl dX9_size_58 rfl hG hS
    replace h := xif_f h c6
    rcases Decidable.em (x1 = 2) with c11 | c11
    · replace h := xif_t h c11
      refine x_tblI (v := 2) (tgt := 59) X c11 (by decide) ⟨by decide, by decide⟩ dX9_size_1 rfl (by decide) ?_
      refine lv_aload_n X.1.1 X.1.2.1 dX9_size_59 rfl (lv_at hl 0 rfl) ?_
      obtain ⟨n12, en12, h⟩ := xlet_of h
      refine x_getd X hG 13 4 0 4 (inC := iX9) rfl q0.1 q0.2 ⟨by decide, by decide, by decide, rfl, rfl⟩ en12 w3 dX9_size_60 ?_
      obtain ⟨g13, h⟩ := xgd_of h
      refine x_getr X hG 9 1 n12 2 (inC := iX5) rfl g13.1 g13.2 ⟨by decide, by decide, by decide, rfl, by decide, by decide⟩ w6 dX9_size_63 ?_
      refine x_geti X hG 10 0 (n12 + 2) 0 (inC := iX6) rfl (fx_9_1 g13).1 (fx_9_1 g13).2 ⟨by decide, by decide, by decide, rfl, rfl⟩ w7 dX9_size_66 ?_
      cases h
      exact hret _ _ _ _ _ _ (by decide) (by decide) rfl dX9_size_69 rfl hG hS
    replace h := xif_f h c11
    rcases Decidable.em (x1 = 3) with c14 | c14
    · replace h := xif_t h c14
      refine x_tblI (v := 3) (tgt := 70) X c14 (by decide) ⟨by decide, by decide⟩ dX9_size_1 rfl (by decide) ?_
      refine lv_aload_n X.1.1 X.1.2.1 dX9_size_70 rfl (lv_at hl 0 rfl) ?_
      refine x_getr X hG 13 6 0 54 (inC := iX9) rfl q0.1 q0.2 ⟨by decide, by decide, by decide, rfl, by decide, by decide⟩ w8 dX9_size_71 ?_
      refine x_geti X hG 11 1 54 1 (inC := iX7) rfl q54.1 q54.2 ⟨by decide, by decide, by decide, rfl, rfl⟩ w9 dX9_size_74 ?_
      cases h
      exact hret _ _ _ _ _ _ (by decide) (by decide) rfl dX9_size_77 rfl hG hS
    replace h := xif_f h c14
    rcases Decidable.em (x1 = 4) with c15 | c15
    · replace h := xif_t h c15
      refine x_tblI (v := 4) (tgt := 78) X c15 (by decide) ⟨by decide, by decide⟩ dX9_size_1 rfl (by decide) ?_
      refine lv_aload_n X.1.1 X.1.2.1 dX9_size_78 rfl (lv_at hl 0 rfl) ?_
      refine x_getr X hG 13 6 0 54 (inC := iX9) rfl q0.1 q0.2 ⟨by decide, by decide, by decide, rfl, by decide, by decide⟩ w8 dX9_size_79 ?_
      refine x_geti X hG 11 2 54 2 (inC := iX7) rfl q54.1 q54.2 ⟨by decide, by decide, by decide, rfl, rfl⟩ w10 dX9_size_82 ?_
      cases h
      exact hret _ _ _ _ _ _ (by decide) (by decide) rfl dX9_size_85 rfl hG hS
    replace h := xif_f h c15
    rcases Decidable.em (x1 = 5) with c16 | c16
    · replace h := xif_t h c16
      refine x_tblI (v := 5) (tgt := 86) X c16 (by decide) ⟨by decide, by decide⟩ dX9_size_1 rfl (by decide) ?_
      refine lv_aload_n X.1.1 X.1.2.1 dX9_size_86 rfl (lv_at hl 0 rfl) ?_
      refine x_getr X hG 13 6 0 54 (inC := iX9) rfl q0.1 q0.2 ⟨by decide, by decide, by decide, rfl, by decide, by decide⟩ w8 dX9_size_87 ?_
      obtain ⟨v17, u18, hf, h⟩ := xbd_of h
      refine x_callVi0 X hG hS (c_X7_standingEvents l t _ _ _ _ hf) (cwV 0 X.1.2.2.2.2 gX9_size_X7_standingEvents rfl rfl rfl hd_X7_standingEvents ⟨Nat.le_of_ble_eq_true rfl, Nat.le_of_ble_eq_true rfl⟩) q54.1 q54.2 rfl (by decide) (by rfl) hl.1 (Nat.le_of_ble_eq_true rfl) dX9_size_90 ⟨by decide, by decide⟩ rfl (fun H locs hG hS => ?_)
      cases h
      exact hret _ _ _ _ _ _ (by decide) (by decide) rfl dX9_size_93 rfl hG hS
    replace h := xif_f h c16
    cases h
theorem hd_X9_size : yX9_size.cls = RX9 ∧ yX9_size.cls ≠ "java/lang/invoke/MethodHandle" ∧ yX9_size.cls ≠ "java/lang/invoke/VarHandle" ∧ (parseMethodDescriptor yX9_size.desc).map (fun d => d.parameters.length) = some 1 := by decide +kernel
abbrev rX9_tick : Room := { frames := 0, cells := 0, slots := 0, locals := 0 }
set_option maxRecDepth 100000 in
set_option maxHeartbeats 8000000 in
theorem c_X9_tick (l : Launch) (t : gP) (u : uS) (r : Int) (u' : uS) (h : f_X9_tick u = some (r, u')) : xMi l yX9_tick wsX9_tick rX9_tick t [.ref (t.2.2.1 0)] u r u' 0 0 := by
  refine x_ofWi (cc := cX9_tick) (maxL := 1) (ret := .int) (own := RX9) (by decide) rfl rfl (Nat.le_of_ble_eq_true rfl) ?_
  intro p e s m args below meth c Q X hret H locs ls hG hS hl
  replace hl : lv_has ls 1 [(0, .ref (t.2.2.1 0))] := hl
  have q0 : 0 < NN ∧ sT 0 = 13 := by decide
  have iX9 : ∀ w ∈ wsX90, w ∈ wsX9_tick := by decide +kernel
  have w1 : Cond.fieldLink RX9 40 "TriggerNetwork" "now" "LTriggerNetwork$Situation;" ∈ wsX9_tick := x_w 1 rfl
  have q54 : 54 < NN ∧ sT 54 = 11 := by decide
  have iX7 : ∀ w ∈ wsX70, w ∈ wsX9_tick := by decide +kernel
  have w2 : Cond.fieldLink RX9 127 "TriggerNetwork$Situation" "tick" "I" ∈ wsX9_tick := x_w 2 rfl
  unfold f_X9_tick at h
  refine lv_aload_n X.1.1 X.1.2.1 dX9_tick_0 rfl (lv_at hl 0 rfl) ?_
  refine x_getr X hG 13 6 0 54 (inC := iX9) rfl q0.1 q0.2 ⟨by decide, by decide, by decide, rfl, by decide, by decide⟩ w1 dX9_tick_1 ?_
  refine x_geti X hG 11 0 54 0 (inC := iX7) rfl q54.1 q54.2 ⟨by decide, by decide, by decide, rfl, rfl⟩ w2 dX9_tick_4 ?_
  cases h
  exact hret _ _ _ _ dX9_tick_7 rfl hG hS
theorem hd_X9_tick : yX9_tick.cls = RX9 ∧ yX9_tick.cls ≠ "java/lang/invoke/MethodHandle" ∧ yX9_tick.cls ≠ "java/lang/invoke/VarHandle" ∧ (parseMethodDescriptor yX9_tick.desc).map (fun d => d.parameters.length) = some 0 := by decide +kernel
abbrev rX9_needStation : Room := { frames := 6, cells := 1, slots := 6, locals := 120 }
set_option maxRecDepth 100000 in
set_option maxHeartbeats 8000000 in
theorem c_X9_needStation (l : Launch) (hfl : l.stackTraces = false) (t : gP) (x1 : Int) (u : uS) (g : Nat) (r : Int) (u' : uS) (h : f_X9_needStation x1 u = some (g, r, u')) : xTv l yX9_needStation wsX9_needStation rX9_needStation t [.ref (t.2.2.1 0), .int (iI x1)] u g u' 1 6 := by
  refine x_ofTv (cc := cX9_needStation) (maxL := 2) (own := RX9) (by decide) rfl rfl (Nat.le_of_ble_eq_true rfl) ?_
  intro p e s m args below meth c Q hQ X hlk htab hret hxo H locs ls hG hS hl
  replace hl : lv_has ls 2 [(0, .ref (t.2.2.1 0)), (1, .int (iI x1))] := hl
  have q0 : 0 < NN ∧ sT 0 = 13 := by decide
  have w1 : Cond.classLink RX9 362 "java/lang/IndexOutOfBoundsException" ∈ wsX9_needStation := x_w 1 rfl
  have w2 : Cond.initialized "java/lang/IndexOutOfBoundsException" ∈ wsX9_needStation := x_w 2 rfl
  have iX9 : ∀ w ∈ wsX90, w ∈ wsX9_needStation := by decide +kernel
  have w3 : Cond.fieldLink RX9 30 "TriggerNetwork" "network" "LTriggerNetwork$Network;" ∈ wsX9_needStation := x_w 3 rfl
  have iX5 : ∀ w ∈ wsX50, w ∈ wsX9_needStation := by decide +kernel
  have w4 : Cond.fieldLink RX9 94 "TriggerNetwork$Network" "stationCount" "I" ∈ wsX9_needStation := x_w 4 rfl
  unfold f_X9_needStation at h
  refine lv_iload_n X.1.1 X.1.2.1 dX9_needStation_0 rfl (lv_at hl 1 rfl) ?_
  obtain ⟨g1, h⟩ := xgd_of h
  obtain ⟨j2, ej2, h⟩ := xlet_of h
  have Jj2 : ∀ (u3 : uS), j2 u3 = some (g, r, u') → xG p l e rX9_needStation s m args below meth c t Q 2 0 0 15 u3 [] [] := by
      intro u3 h H locs ls hG hS hl
      replace h := (congrFun ej2 u3).symm.trans h
      cases h
      exact x_thrSW X hG hS hfl hlk htab hl.1 (g := 1) (by decide) hQ (by decide) w1 w2 (x_m 7 rfl) (fun w q => List.mem_cons_of_mem _ (List.mem_append_right _ q)) xng_1 xot_1 dX9_needStation_15 dX9_needStation_18 dX9_needStation_19 dX9_needStation_22 dX9_needStation_25 (by decide) (by decide) (by decide) (by decide) (by decide) (by decide)
  refine x_if_lt (tgt := 15) X g1 dX9_needStation_1 (by decide) (fun c4 => ?_) (fun c4 => ?_)
  · replace h := xif_t h c4
    exact Jj2 _ h _ _ _ hG hS (lv_sub hl [] rfl)
  · replace h := xif_f h c4
    refine lv_iload_n X.1.1 X.1.2.1 dX9_needStation_4 rfl (lv_at hl 1 rfl) ?_
    refine lv_aload_n X.1.1 X.1.2.1 dX9_needStation_5 rfl (lv_at hl 0 rfl) ?_
    obtain ⟨n5, en5, h⟩ := xlet_of h
    refine x_getd X hG 13 4 0 4 (inC := iX9) rfl q0.1 q0.2 ⟨by decide, by decide, by decide, rfl, rfl⟩ en5 w3 dX9_needStation_6 ?_
    obtain ⟨g6, h⟩ := xgd_of h
    refine x_geti X hG 9 10 n5 10 (inC := iX5) rfl g6.1 g6.2 ⟨by decide, by decide, by decide, rfl, rfl⟩ w4 dX9_needStation_9 ?_
    obtain ⟨g7, h⟩ := xgd_of h
    refine x_icmp_lt (tgt := 26) X g7.1 g7.2 dX9_needStation_12 (by decide) (fun c8 => ?_) (fun c8 => ?_)
    · replace h := xif_t h c8
      cases h
      exact hret _ _ _ _ _ _ (by decide) (by decide) rfl dX9_needStation_26 hG hS
    · replace h := xif_f h c8
      exact Jj2 _ h _ _ _ hG hS (lv_sub hl [] rfl)
theorem hd_X9_needStation : yX9_needStation.cls = RX9 ∧ yX9_needStation.cls ≠ "java/lang/invoke/MethodHandle" ∧ yX9_needStation.cls ≠ "java/lang/invoke/VarHandle" ∧ (parseMethodDescriptor yX9_needStation.desc).map (fun d => d.parameters.length) = some 1 := by decide +kernel
abbrev rX9_between : Room := { frames := 7, cells := 2, slots := 12, locals := 141 }
set_option maxRecDepth 100000 in
set_option maxHeartbeats 8000000 in
theorem c_X9_between (l : Launch) (hfl : l.stackTraces = false) (t : gP) (x1 : Int) (x2 : Int) (u : uS) (g : Nat) (r : Int) (u' : uS) (h : f_X9_between x1 x2 u = some (g, r, u')) : xTi l yX9_between wsX9_between rX9_between t [.ref (t.2.2.1 0), .int (iI x1), .int (iI x2)] u g r u' 2 12 := by
  refine x_ofTi (cc := cX9_between) (maxL := 3) (ret := .int) (own := RX9) (by decide) rfl rfl (Nat.le_of_ble_eq_true rfl) ?_
  intro p e s m args below meth c Q hQ X hlk htab hret hxo H locs ls hG hS hl
  replace hl : lv_has ls 3 [(0, .ref (t.2.2.1 0)), (1, .int (iI x1)), (2, .int (iI x2))] := hl
  have q0 : 0 < NN ∧ sT 0 = 13 := by decide
  have iX9 : ∀ w ∈ wsX90, w ∈ wsX9_between := by decide +kernel
  have w1 : Cond.fieldLink RX9 30 "TriggerNetwork" "network" "LTriggerNetwork$Network;" ∈ wsX9_between := x_w 1 rfl
  unfold f_X9_between at h
  refine lv_aload_n X.1.1 X.1.2.1 dX9_between_0 rfl (lv_at hl 0 rfl) ?_
  refine lv_iload_n X.1.1 X.1.2.1 dX9_between_1 rfl (lv_at hl 1 rfl) ?_
  obtain ⟨g3, v1, u2, hf, h⟩ := xbt_of h
  refine x_callVTv X hG hS (c_X9_needStation l hfl t _ _ _ _ _ hf) (cwV 1 X.1.2.2.2.2 gX9_between_X9_needStation rfl rfl rfl hd_X9_needStation ⟨Nat.le_of_ble_eq_true rfl, Nat.le_of_ble_eq_true rfl⟩) q0.1 q0.2 rfl (by decide) (by rfl) hl.1 (Nat.le_of_ble_eq_true rfl) dX9_between_2 ⟨by decide, by decide⟩ rfl (fun hg H locs ce q9 hG hS h7 h8 h9 => by rcases h with ⟨h0, _⟩ | ⟨_, h⟩; (exact absurd h0 hg); (cases h; exact hxo _ _ _ _ _ _ _ _ _ (by decide) (by decide) hg hG hS h7 h8 h9)) (fun hg H locs hG hS => ?_)
  replace h := (h.resolve_right (fun q => q.1 hg)).2
  refine lv_aload_n X.1.1 X.1.2.1 dX9_between_5 rfl (lv_at hl 0 rfl) ?_
  refine lv_iload_n X.1.1 X.1.2.1 dX9_between_6 rfl (lv_at hl 2 rfl) ?_
  obtain ⟨g6, v4, u5, hf, h⟩ := xbt_of h
  refine x_callVTv X hG hS (c_X9_needStation l hfl t _ _ _ _ _ hf) (cwV 1 X.1.2.2.2.2 gX9_between_X9_needStation rfl rfl rfl hd_X9_needStation ⟨Nat.le_of_ble_eq_true rfl, Nat.le_of_ble_eq_true rfl⟩) q0.1 q0.2 rfl (by decide) (by rfl) hl.1 (Nat.le_of_ble_eq_true rfl) dX9_between_7 ⟨by decide, by decide⟩ rfl (fun hg H locs ce q9 hG hS h7 h8 h9 => by rcases h with ⟨h0, _⟩ | ⟨_, h⟩; (exact absurd h0 hg); (cases h; exact hxo _ _ _ _ _ _ _ _ _ (by decide) (by decide) hg hG hS h7 h8 h9)) (fun hg H locs hG hS => ?_)
  replace h := (h.resolve_right (fun q => q.1 hg)).2
  refine lv_aload_n X.1.1 X.1.2.1 dX9_between_10 rfl (lv_at hl 0 rfl) ?_
  obtain ⟨n7, en7, h⟩ := xlet_of h
  refine x_getd X hG 13 4 0 4 (inC := iX9) rfl q0.1 q0.2 ⟨by decide, by decide, by decide, rfl, rfl⟩ en7 w1 dX9_between_11 ?_
  obtain ⟨g8, h⟩ := xgd_of h
  refine lv_iload_n X.1.1 X.1.2.1 dX9_between_14 rfl (lv_at hl 1 rfl) ?_
  refine lv_iload_n X.1.1 X.1.2.1 dX9_between_15 rfl (lv_at hl 2 rfl) ?_
  obtain ⟨v9, u10, hf, h⟩ := xbd_of h
  refine x_callVi0 X hG hS (c_X5_travelOfStations l t _ _ _ _ _ _ hf) (cwV 2 X.1.2.2.2.2 gX9_between_X5_travelOfStations rfl rfl rfl hd_X5_travelOfStations ⟨Nat.le_of_ble_eq_true rfl, Nat.le_of_ble_eq_true rfl⟩) g8.1 g8.2 rfl (by decide) (by rfl) hl.1 (Nat.le_of_ble_eq_true rfl) dX9_between_16 ⟨by decide, by decide⟩ rfl (fun H locs hG hS => ?_)
  cases h
  exact hret _ _ _ _ _ _ (by decide) (by decide) rfl dX9_between_19 rfl hG hS
theorem hd_X9_between : yX9_between.cls = RX9 ∧ yX9_between.cls ≠ "java/lang/invoke/MethodHandle" ∧ yX9_between.cls ≠ "java/lang/invoke/VarHandle" ∧ (parseMethodDescriptor yX9_between.desc).map (fun d => d.parameters.length) = some 2 := by decide +kernel
abbrev rX9_needNode : Room := { frames := 6, cells := 1, slots := 6, locals := 120 }
set_option maxRecDepth 100000 in
set_option maxHeartbeats 8000000 in
theorem c_X9_needNode (l : Launch) (hfl : l.stackTraces = false) (t : gP) (x1 : Int) (u : uS) (g : Nat) (r : Int) (u' : uS) (h : f_X9_needNode x1 u = some (g, r, u')) : xTv l yX9_needNode wsX9_needNode rX9_needNode t [.ref (t.2.2.1 0), .int (iI x1)] u g u' 1 6 := by
  refine x_ofTv (cc := cX9_needNode) (maxL := 2) (own := RX9) (by decide) rfl rfl (Nat.le_of_ble_eq_true rfl) ?_
  intro p e s m args below meth c Q hQ X hlk htab hret hxo H locs ls hG hS hl
  replace hl : lv_has ls 2 [(0, .ref (t.2.2.1 0)), (1, .int (iI x1))] := hl
  have q0 : 0 < NN ∧ sT 0 = 13 := by decide
  have w1 : Cond.classLink RX9 362 "java/lang/IndexOutOfBoundsException" ∈ wsX9_needNode := x_w 1 rfl
  have w2 : Cond.initialized "java/lang/IndexOutOfBoundsException" ∈ wsX9_needNode := x_w 2 rfl
  have iX9 : ∀ w ∈ wsX90, w ∈ wsX9_needNode := by decide +kernel
  have w3 : Cond.fieldLink RX9 30 "TriggerNetwork" "network" "LTriggerNetwork$Network;" ∈ wsX9_needNode := x_w 3 rfl
  have iX5 : ∀ w ∈ wsX50, w ∈ wsX9_needNode := by decide +kernel
  have w4 : Cond.fieldLink RX9 97 "TriggerNetwork$Network" "grid" "LTriggerNetwork$Grid;" ∈ wsX9_needNode := x_w 4 rfl
  unfold f_X9_needNode at h
  refine lv_iload_n X.1.1 X.1.2.1 dX9_needNode_0 rfl (lv_at hl 1 rfl) ?_
  obtain ⟨g1, h⟩ := xgd_of h
  obtain ⟨j2, ej2, h⟩ := xlet_of h
  have Jj2 : ∀ (u3 : uS), j2 u3 = some (g, r, u') → xG p l e rX9_needNode s m args below meth c t Q 2 0 0 18 u3 [] [] := by
      intro u3 h H locs ls hG hS hl
      replace h := (congrFun ej2 u3).symm.trans h
      cases h
      exact x_thrSW X hG hS hfl hlk htab hl.1 (g := 1) (by decide) hQ (by decide) w1 w2 (x_m 8 rfl) (fun w q => List.mem_cons_of_mem _ (List.mem_append_right _ q)) xng_1 xot_1 dX9_needNode_18 dX9_needNode_21 dX9_needNode_22 dX9_needNode_25 dX9_needNode_28 (by decide) (by decide) (by decide) (by decide) (by decide) (by decide)
  refine x_if_lt (tgt := 18) X g1 dX9_needNode_1 (by decide) (fun c4 => ?_) (fun c4 => ?_)
  · replace h := xif_t h c4
    exact Jj2 _ h _ _ _ hG hS (lv_sub hl [] rfl)
  · replace h := xif_f h c4
    refine lv_iload_n X.1.1 X.1.2.1 dX9_needNode_4 rfl (lv_at hl 1 rfl) ?_
    refine lv_aload_n X.1.1 X.1.2.1 dX9_needNode_5 rfl (lv_at hl 0 rfl) ?_
    obtain ⟨n5, en5, h⟩ := xlet_of h
    refine x_getd X hG 13 4 0 4 (inC := iX9) rfl q0.1 q0.2 ⟨by decide, by decide, by decide, rfl, rfl⟩ en5 w3 dX9_needNode_6 ?_
    obtain ⟨g6, h⟩ := xgd_of h
    refine x_getr X hG 9 0 n5 1 (inC := iX5) rfl g6.1 g6.2 ⟨by decide, by decide, by decide, rfl, by decide, by decide⟩ w4 dX9_needNode_9 ?_
    obtain ⟨v7, u8, hf, h⟩ := xbd_of h
    refine x_callVi0 X hG hS (c_X2_nodeCount l t _ _ _ _ hf) (cwV 0 X.1.2.2.2.2 gX9_needNode_X2_nodeCount rfl rfl rfl hd_X2_nodeCount ⟨Nat.le_of_ble_eq_true rfl, Nat.le_of_ble_eq_true rfl⟩) (fx_9_0 g6).1 (fx_9_0 g6).2 rfl (by decide) (by rfl) hl.1 (Nat.le_of_ble_eq_true rfl) dX9_needNode_12 ⟨by decide, by decide⟩ rfl (fun H locs hG hS => ?_)
    obtain ⟨g9, h⟩ := xgd_of h
    refine x_icmp_lt (tgt := 29) X g9.1 g9.2 dX9_needNode_15 (by decide) (fun c10 => ?_) (fun c10 => ?_)
    · replace h := xif_t h c10
      cases h
      exact hret _ _ _ _ _ _ (by decide) (by decide) rfl dX9_needNode_29 hG hS
    · replace h := xif_f h c10
      exact Jj2 _ h _ _ _ hG hS (lv_sub hl [] rfl)
theorem hd_X9_needNode : yX9_needNode.cls = RX9 ∧ yX9_needNode.cls ≠ "java/lang/invoke/MethodHandle" ∧ yX9_needNode.cls ≠ "java/lang/invoke/VarHandle" ∧ (parseMethodDescriptor yX9_needNode.desc).map (fun d => d.parameters.length) = some 1 := by decide +kernel
abbrev rX9_travel : Room := { frames := 7, cells := 2, slots := 12, locals := 141 }
set_option maxRecDepth 100000 in
set_option maxHeartbeats 8000000 in
theorem c_X9_travel (l : Launch) (hfl : l.stackTraces = false) (t : gP) (x1 : Int) (x2 : Int) (u : uS) (g : Nat) (r : Int) (u' : uS) (h : f_X9_travel x1 x2 u = some (g, r, u')) : xTi l yX9_travel wsX9_travel rX9_travel t [.ref (t.2.2.1 0), .int (iI x1), .int (iI x2)] u g r u' 2 12 := by
  refine x_ofTi (cc := cX9_travel) (maxL := 3) (ret := .int) (own := RX9) (by decide) rfl rfl (Nat.le_of_ble_eq_true rfl) ?_
  intro p e s m args below meth c Q hQ X hlk htab hret hxo H locs ls hG hS hl
  replace hl : lv_has ls 3 [(0, .ref (t.2.2.1 0)), (1, .int (iI x1)), (2, .int (iI x2))] := hl
  have q0 : 0 < NN ∧ sT 0 = 13 := by decide
  have iX9 : ∀ w ∈ wsX90, w ∈ wsX9_travel := by decide +kernel
  have w1 : Cond.fieldLink RX9 30 "TriggerNetwork" "network" "LTriggerNetwork$Network;" ∈ wsX9_travel := x_w 1 rfl
  unfold f_X9_travel at h
  refine lv_aload_n X.1.1 X.1.2.1 dX9_travel_0 rfl (lv_at hl 0 rfl) ?_
  refine lv_iload_n X.1.1 X.1.2.1 dX9_travel_1 rfl (lv_at hl 1 rfl) ?_
  obtain ⟨g3, v1, u2, hf, h⟩ := xbt_of h
  refine x_callVTv X hG hS (c_X9_needNode l hfl t _ _ _ _ _ hf) (cwV 1 X.1.2.2.2.2 gX9_travel_X9_needNode rfl rfl rfl hd_X9_needNode ⟨Nat.le_of_ble_eq_true rfl, Nat.le_of_ble_eq_true rfl⟩) q0.1 q0.2 rfl (by decide) (by rfl) hl.1 (Nat.le_of_ble_eq_true rfl) dX9_travel_2 ⟨by decide, by decide⟩ rfl (fun hg H locs ce q9 hG hS h7 h8 h9 => by rcases h with ⟨h0, _⟩ | ⟨_, h⟩; (exact absurd h0 hg); (cases h; exact hxo _ _ _ _ _ _ _ _ _ (by decide) (by decide) hg hG hS h7 h8 h9)) (fun hg H locs hG hS => ?_)
  replace h := (h.resolve_right (fun q => q.1 hg)).2
  refine lv_aload_n X.1.1 X.1.2.1 dX9_travel_5 rfl (lv_at hl 0 rfl) ?_
  refine lv_iload_n X.1.1 X.1.2.1 dX9_travel_6 rfl (lv_at hl 2 rfl) ?_
  obtain ⟨g6, v4, u5, hf, h⟩ := xbt_of h
  refine x_callVTv X hG hS (c_X9_needStation l hfl t _ _ _ _ _ hf) (cwV 1 X.1.2.2.2.2 gX9_travel_X9_needStation rfl rfl rfl hd_X9_needStation ⟨Nat.le_of_ble_eq_true rfl, Nat.le_of_ble_eq_true rfl⟩) q0.1 q0.2 rfl (by decide) (by rfl) hl.1 (Nat.le_of_ble_eq_true rfl) dX9_travel_7 ⟨by decide, by decide⟩ rfl (fun hg H locs ce q9 hG hS h7 h8 h9 => by rcases h with ⟨h0, _⟩ | ⟨_, h⟩; (exact absurd h0 hg); (cases h; exact hxo _ _ _ _ _ _ _ _ _ (by decide) (by decide) hg hG hS h7 h8 h9)) (fun hg H locs hG hS => ?_)
  replace h := (h.resolve_right (fun q => q.1 hg)).2
  refine lv_aload_n X.1.1 X.1.2.1 dX9_travel_10 rfl (lv_at hl 0 rfl) ?_
  obtain ⟨n7, en7, h⟩ := xlet_of h
  refine x_getd X hG 13 4 0 4 (inC := iX9) rfl q0.1 q0.2 ⟨by decide, by decide, by decide, rfl, rfl⟩ en7 w1 dX9_travel_11 ?_
  obtain ⟨g8, h⟩ := xgd_of h
  refine lv_iload_n X.1.1 X.1.2.1 dX9_travel_14 rfl (lv_at hl 1 rfl) ?_
  refine lv_iload_n X.1.1 X.1.2.1 dX9_travel_15 rfl (lv_at hl 2 rfl) ?_
  obtain ⟨v9, u10, hf, h⟩ := xbd_of h
  refine x_callVi0 X hG hS (c_X5_travelFromNode l t _ _ _ _ _ _ hf) (cwV 2 X.1.2.2.2.2 gX9_travel_X5_travelFromNode rfl rfl rfl hd_X5_travelFromNode ⟨Nat.le_of_ble_eq_true rfl, Nat.le_of_ble_eq_true rfl⟩) g8.1 g8.2 rfl (by decide) (by rfl) hl.1 (Nat.le_of_ble_eq_true rfl) dX9_travel_16 ⟨by decide, by decide⟩ rfl (fun H locs hG hS => ?_)
  cases h
  exact hret _ _ _ _ _ _ (by decide) (by decide) rfl dX9_travel_19 rfl hG hS
theorem hd_X9_travel : yX9_travel.cls = RX9 ∧ yX9_travel.cls ≠ "java/lang/invoke/MethodHandle" ∧ yX9_travel.cls ≠ "java/lang/invoke/VarHandle" ∧ (parseMethodDescriptor yX9_travel.desc).map (fun d => d.parameters.length) = some 2 := by decide +kernel
abbrev rX9_ladder : Room := { frames := 6, cells := 1, slots := 6, locals := 120 }
set_option maxRecDepth 100000 in
set_option maxHeartbeats 8000000 in
theorem c_X9_ladder (l : Launch) (hfl : l.stackTraces = false) (t : gP) (x1 : Int) (u : uS) (g : Nat) (r : Int) (u' : uS) (h : f_X9_ladder x1 u = some (g, r, u')) : xTi l yX9_ladder wsX9_ladder rX9_ladder t [.ref (t.2.2.1 0), .int (iI x1)] u g r u' 1 6 := by
  refine x_ofTi (cc := cX9_ladder) (maxL := 2) (ret := .int) (own := RX9) (by decide) rfl rfl (Nat.le_of_ble_eq_true rfl) ?_
  intro p e s m args below meth c Q hQ X hlk htab hret hxo H locs ls hG hS hl
  replace hl : lv_has ls 2 [(0, .ref (t.2.2.1 0)), (1, .int (iI x1))] := hl
  have q0 : 0 < NN ∧ sT 0 = 13 := by decide
  have w1 : Cond.classLink RX9 79 "java/lang/IllegalArgumentException" ∈ wsX9_ladder := x_w 1 rfl
  have w2 : Cond.initialized "java/lang/IllegalArgumentException" ∈ wsX9_ladder := x_w 2 rfl
  have w3 : Cond.constant RX9 143 (99999) ∈ wsX9_ladder := x_w 3 rfl
  have iX9 : ∀ w ∈ wsX90, w ∈ wsX9_ladder := by decide +kernel
  have w4 : Cond.fieldLink RX9 30 "TriggerNetwork" "network" "LTriggerNetwork$Network;" ∈ wsX9_ladder := x_w 4 rfl
  have iX5 : ∀ w ∈ wsX50, w ∈ wsX9_ladder := by decide +kernel
  have w5 : Cond.fieldLink RX9 107 "TriggerNetwork$Network" "rungs" "LTriggerNetwork$Rungs;" ∈ wsX9_ladder := x_w 5 rfl
  unfold f_X9_ladder at h
  refine lv_iload_n X.1.1 X.1.2.1 dX9_ladder_0 rfl (lv_at hl 1 rfl) ?_
  obtain ⟨g1, h⟩ := xgd_of h
  obtain ⟨j2, ej2, h⟩ := xlet_of h
  have Jj2 : ∀ (u3 : uS), j2 u3 = some (g, r, u') → xG p l e rX9_ladder s m args below meth c t Q 2 0 0 10 u3 [] [] := by
      intro u3 h H locs ls hG hS hl
      replace h := (congrFun ej2 u3).symm.trans h
      cases h
      exact x_thrS X hG hS hfl hlk htab hl.1 (g := 2) (by decide) hQ (by decide) w1 w2 (x_m 2 rfl) (fun w q => List.mem_cons_of_mem _ (List.mem_append_right _ q)) xng_2 xot_2 dX9_ladder_10 dX9_ladder_13 dX9_ladder_14 dX9_ladder_16 dX9_ladder_19 (by decide) (by decide) (by decide) (by decide) (by decide) (by decide)
  refine x_if_lt (tgt := 10) X g1 dX9_ladder_1 (by decide) (fun c4 => ?_) (fun c4 => ?_)
  · replace h := xif_t h c4
    exact Jj2 _ h _ _ _ hG hS (lv_sub hl [] rfl)
  · replace h := xif_f h c4
    refine lv_iload_n X.1.1 X.1.2.1 dX9_ladder_4 rfl (lv_at hl 1 rfl) ?_
    refine x_ldc X 99999 rfl w3 dX9_ladder_5 ?_
    obtain ⟨g5, h⟩ := xgd_of h
    refine x_icmp_le (tgt := 20) X g5 ⟨by decide, by decide⟩ dX9_ladder_7 (by decide) (fun c6 => ?_) (fun c6 => ?_)
    · replace h := xif_t h c6
      refine lv_aload_n X.1.1 X.1.2.1 dX9_ladder_20 rfl (lv_at hl 0 rfl) ?_
      obtain ⟨n7, en7, h⟩ := xlet_of h
      refine x_getd X hG 13 4 0 4 (inC := iX9) rfl q0.1 q0.2 ⟨by decide, by decide, by decide, rfl, rfl⟩ en7 w4 dX9_ladder_21 ?_
      obtain ⟨g8, h⟩ := xgd_of h
      refine x_getr X hG 9 1 n7 2 (inC := iX5) rfl g8.1 g8.2 ⟨by decide, by decide, by decide, rfl, by decide, by decide⟩ w5 dX9_ladder_24 ?_
      refine lv_iload_n X.1.1 X.1.2.1 dX9_ladder_27 rfl (lv_at hl 1 rfl) ?_
      obtain ⟨v9, u10, hf, h⟩ := xbd_of h
      refine x_callVi0 X hG hS (c_X6_magnitudeOf l t _ _ _ _ _ hf) (cwV 1 X.1.2.2.2.2 gX9_ladder_X6_magnitudeOf rfl rfl rfl hd_X6_magnitudeOf ⟨Nat.le_of_ble_eq_true rfl, Nat.le_of_ble_eq_true rfl⟩) (fx_9_1 g8).1 (fx_9_1 g8).2 rfl (by decide) (by rfl) hl.1 (Nat.le_of_ble_eq_true rfl) dX9_ladder_28 ⟨by decide, by decide⟩ rfl (fun H locs hG hS => ?_)
      cases h
      exact hret _ _ _ _ _ _ (by decide) (by decide) rfl dX9_ladder_31 rfl hG hS
    · replace h := xif_f h c6
      exact Jj2 _ h _ _ _ hG hS (lv_sub hl [] rfl)
theorem hd_X9_ladder : yX9_ladder.cls = RX9 ∧ yX9_ladder.cls ≠ "java/lang/invoke/MethodHandle" ∧ yX9_ladder.cls ≠ "java/lang/invoke/VarHandle" ∧ (parseMethodDescriptor yX9_ladder.desc).map (fun d => d.parameters.length) = some 1 := by decide +kernel
abbrev rX9_station : Room := { frames := 7, cells := 2, slots := 12, locals := 141 }
set_option maxRecDepth 100000 in
set_option maxHeartbeats 8000000 in
theorem c_X9_station (l : Launch) (hfl : l.stackTraces = false) (t : gP) (x1 : Int) (x2 : Int) (u : uS) (g : Nat) (r : Int) (u' : uS) (h : f_X9_station x1 x2 u = some (g, r, u')) : xTi l yX9_station wsX9_station rX9_station t [.ref (t.2.2.1 0), .int (iI x1), .int (iI x2)] u g r u' 2 12 := by
  refine x_ofTi (cc := cX9_station) (maxL := 3) (ret := .int) (own := RX9) (by decide) rfl rfl (Nat.le_of_ble_eq_true rfl) ?_
  intro p e s m args below meth c Q hQ X hlk htab hret hxo H locs ls hG hS hl
  replace hl : lv_has ls 3 [(0, .ref (t.2.2.1 0)), (1, .int (iI x1)), (2, .int (iI x2))] := hl
  have q0 : 0 < NN ∧ sT 0 = 13 := by decide
  have w1 : Cond.classLink RX9 79 "java/lang/IllegalArgumentException" ∈ wsX9_station := x_w 1 rfl
  have w2 : Cond.initialized "java/lang/IllegalArgumentException" ∈ wsX9_station := x_w 2 rfl
  have iX9 : ∀ w ∈ wsX90, w ∈ wsX9_station := by decide +kernel
  have w3 : Cond.fieldLink RX9 30 "TriggerNetwork" "network" "LTriggerNetwork$Network;" ∈ wsX9_station := x_w 3 rfl
  have iX5 : ∀ w ∈ wsX50, w ∈ wsX9_station := by decide +kernel
  have w4 : Cond.fieldLink RX9 150 "TriggerNetwork$Network" "xs" "[I" ∈ wsX9_station := x_w 4 rfl
  have w5 : Cond.fieldLink RX9 153 "TriggerNetwork$Network" "ys" "[I" ∈ wsX9_station := x_w 5 rfl
  have w6 : Cond.fieldLink RX9 40 "TriggerNetwork" "now" "LTriggerNetwork$Situation;" ∈ wsX9_station := x_w 6 rfl
  have q54 : 54 < NN ∧ sT 54 = 11 := by decide
  have iX7 : ∀ w ∈ wsX70, w ∈ wsX9_station := by decide +kernel
  have w7 : Cond.fieldLink RX9 156 "TriggerNetwork$Situation" "levels" "[I" ∈ wsX9_station := x_w 7 rfl
  have q55 : 55 < NN ∧ sT 55 = 100 ∧ sN 55 = 8 := by decide
  have w8 : Cond.fieldLink RX9 159 "TriggerNetwork$Situation" "shortSums" "[I" ∈ wsX9_station := x_w 8 rfl
  have q57 : 57 < NN ∧ sT 57 = 100 ∧ sN 57 = 8 := by decide
  have w9 : Cond.fieldLink RX9 162 "TriggerNetwork$Situation" "longSums" "[I" ∈ wsX9_station := x_w 9 rfl
  have q58 : 58 < NN ∧ sT 58 = 100 ∧ sN 58 = 8 := by decide
  have w10 : Cond.fieldLink RX9 168 "TriggerNetwork$Situation" "triggered" "[I" ∈ wsX9_station := x_w 10 rfl
  have q59 : 59 < NN ∧ sT 59 = 100 ∧ sN 59 = 8 := by decide
  have w11 : Cond.fieldLink RX9 171 "TriggerNetwork$Situation" "muted" "[I" ∈ wsX9_station := x_w 11 rfl
  have q60 : 60 < NN ∧ sT 60 = 100 ∧ sN 60 = 8 := by decide
  unfold f_X9_station at h
  refine lv_aload_n X.1.1 X.1.2.1 dX9_station_0 rfl (lv_at hl 0 rfl) ?_
  refine lv_iload_n X.1.1 X.1.2.1 dX9_station_1 rfl (lv_at hl 1 rfl) ?_
  obtain ⟨g3, v1, u2, hf, h⟩ := xbt_of h
  refine x_callVTv X hG hS (c_X9_needStation l hfl t _ _ _ _ _ hf) (cwV 1 X.1.2.2.2.2 gX9_station_X9_needStation rfl rfl rfl hd_X9_needStation ⟨Nat.le_of_ble_eq_true rfl, Nat.le_of_ble_eq_true rfl⟩) q0.1 q0.2 rfl (by decide) (by rfl) hl.1 (Nat.le_of_ble_eq_true rfl) dX9_station_2 ⟨by decide, by decide⟩ rfl (fun hg H locs ce q9 hG hS h7 h8 h9 => by rcases h with ⟨h0, _⟩ | ⟨_, h⟩; (exact absurd h0 hg); (cases h; exact hxo _ _ _ _ _ _ _ _ _ (by decide) (by decide) hg hG hS h7 h8 h9)) (fun hg H locs hG hS => ?_)
  replace h := (h.resolve_right (fun q => q.1 hg)).2
  refine lv_iload_n X.1.1 X.1.2.1 dX9_station_5 rfl (lv_at hl 2 rfl) ?_
  obtain ⟨g4, h⟩ := xgd_of h
  rcases Decidable.em (x2 < 0 ∨ 7 < x2) with c5 | c5
  · replace h := xif_t h c5
    refine x_tblO (tgt := 148) X g4 dX9_station_6 c5 (by decide) ?_
    cases h
    exact x_thrS X hG hS hfl hlk htab hl.1 (g := 2) (by decide) hQ (by decide) w1 w2 (x_m 3 rfl) (fun w q => List.mem_cons_of_mem _ (List.mem_append_left _ (List.mem_append_right _ q))) xng_2 xot_2 dX9_station_148 dX9_station_151 dX9_station_152 dX9_station_154 dX9_station_157 (by decide) (by decide) (by decide) (by decide) (by decide) (by decide)
  · replace h := xif_f h c5
    rcases Decidable.em (x2 = 0) with c6 | c6
    · replace h := xif_t h c6
      refine x_tblI (v := 0) (tgt := 52) X c6 (by decide) ⟨by decide, by decide⟩ dX9_station_6 rfl (by decide) ?_
      refine lv_aload_n X.1.1 X.1.2.1 dX9_station_52 rfl (lv_at hl 0 rfl) ?_
      obtain ⟨n7, en7, h⟩ := xlet_of h
      refine x_getd X hG 13 4 0 4 (inC := iX9) rfl q0.1 q0.2 ⟨by decide, by decide, by decide, rfl, rfl⟩ en7 w3 dX9_station_53 ?_
      obtain ⟨g8, h⟩ := xgd_of h
      refine x_getr X hG 9 11 n7 5 (inC := iX5) rfl g8.1 g8.2 ⟨by decide, by decide, by decide, rfl, by decide, by decide⟩ w4 dX9_station_56 ?_
      refine lv_iload_n X.1.1 X.1.2.1 dX9_station_59 rfl (lv_at hl 1 rfl) ?_
      obtain ⟨g9, h⟩ := xgd_of h
      refine x_iald X hG (fx_9_11 g8).1 (fx_9_11 g8).2.1 (n := 8) (fx_9_11 g8).2.2 g9 (by decide) dX9_station_60 ?_
      cases h
      exact hret _ _ _ _ _ _ (by decide) (by decide) rfl dX9_station_61 rfl hG hS
    replace h := xif_f h c6
    rcases Decidable.em (x2 = 1) with c10 | c10
    · replace h := xif_t h c10
      refine x_tblI (v := 1) (tgt := 62) X c10 (by decide) ⟨by decide, by decide⟩ dX9_station_6 rfl (by decide) ?_
      refine lv_aload_n X.1.1 X.1.2.1 dX9_station_62 rfl (lv_at hl 0 rfl) ?_
      obtain ⟨n11, en11, h⟩ := xlet_of h
      refine x_getd X hG 13 4 0 4 (inC := iX9) rfl q0.1 q0.2 ⟨by decide, by decide, by decide, rfl, rfl⟩ en11 w3 dX9_station_63 ?_
      obtain ⟨g12, h⟩ := xgd_of h
      refine x_getr X hG 9 12 n11 6 (inC := iX5) rfl g12.1 g12.2 ⟨by decide, by decide, by decide, rfl, by decide, by decide⟩ w5 dX9_station_66 ?_
      refine lv_iload_n X.1.1 X.1.2.1 dX9_station_69 rfl (lv_at hl 1 rfl) ?_
      obtain ⟨g13, h⟩ := xgd_of h
      refine x_iald X hG (fx_9_12 g12).1 (fx_9_12 g12).2.1 (n := 8) (fx_9_12 g12).2.2 g13 (by decide) dX9_station_70 ?_
      cases h
      exact hret _ _ _ _ _ _ (by decide) (by decide) rfl dX9_station_71 rfl hG hS
    replace h := xif_f h c10
    rcases Decidable.em (x2 = 2) with c14 | c14
    · replace h := xif_t h c14
      refine x_tblI (v := 2) (tgt := 72) X c14 (by decide) ⟨by decide, by decide⟩ dX9_station_6 rfl (by decide) ?_
      refine lv_aload_n X.1.1 X.1.2.1 dX9_station_72 rfl (lv_at hl 0 rfl) ?_
      refine x_getr X hG 13 6 0 54 (inC := iX9) rfl q0.1 q0.2 ⟨by decide, by decide, by decide, rfl, by decide, by decide⟩ w6 dX9_station_73 ?_
      refine x_getr X hG 11 3 54 1 (inC := iX7) rfl q54.1 q54.2 ⟨by decide, by decide, by decide, rfl, by decide, by decide⟩ w7 dX9_station_76 ?_
      refine lv_iload_n X.1.1 X.1.2.1 dX9_station_79 rfl (lv_at hl 1 rfl) ?_
      obtain ⟨g15, h⟩ := xgd_of h
      refine x_iald X hG q55.1 q55.2.1 (n := 8) q55.2.2 g15 (by decide) dX9_station_80 ?_
      cases h
      exact hret _ _ _ _ _ _ (by decide) (by decide) rfl dX9_station_81 rfl hG hS
    replace h := xif_f h c14
    rcases Decidable.em (x2 = 3) with c16 | c16
    · replace h := xif_t h c16
      refine x_tblI (v := 3) (tgt := 82) X c16 (by decide) ⟨by decide, by decide⟩ dX9_station_6 rfl (by decide) ?_
      refine lv_aload_n X.1.1 X.1.2.1 dX9_station_82 rfl (lv_at hl 0 rfl) ?_
      refine x_getr X hG 13 6 0 54 (inC := iX9) rfl q0.1 q0.2 ⟨by decide, by decide, by decide, rfl, by decide, by decide⟩ w6 dX9_station_83 ?_
      refine x_getr X hG 11 5 54 3 (inC := iX7) rfl q54.1 q54.2 ⟨by decide, by decide, by decide, rfl, by decide, by decide⟩ w8 dX9_station_86 ?_
      refine lv_iload_n X.1.1 X.1.2.1 dX9_station_89 rfl (lv_at hl 1 rfl) ?_
      obtain ⟨g17, h⟩ := xgd_of h
      refine x_iald X hG q57.1 q57.2.1 (n := 8) q57.2.2 g17 (by decide) dX9_station_90 ?_
      cases h
      exact hret _ _ _ _ _ _ (by decide) (by decide) rfl dX9_station_91 rfl hG hS
    replace h := xif_f h c16
    rcases Decidable.em (x2 = 4) with c18 | c18
    · replace h := xif_t h c18
      refine x_tblI (v := 4) (tgt := 92) X c18 (by decide) ⟨by decide, by decide⟩ dX9_station_6 rfl (by decide) ?_
      refine lv_aload_n X.1.1 X.1.2.1 dX9_station_92 rfl (lv_at hl 0 rfl) ?_
      refine x_getr X hG 13 6 0 54 (inC := iX9) rfl q0.1 q0.2 ⟨by decide, by decide, by decide, rfl, by decide, by decide⟩ w6 dX9_station_93 ?_
      refine x_getr X hG 11 6 54 4 (inC := iX7) rfl q54.1 q54.2 ⟨by decide, by decide, by decide, rfl, by decide, by decide⟩ w9 dX9_station_96 ?_
      refine lv_iload_n X.1.1 X.1.2.1 dX9_station_99 rfl (lv_at hl 1 rfl) ?_
      obtain ⟨g19, h⟩ := xgd_of h
      refine x_iald X hG q58.1 q58.2.1 (n := 8) q58.2.2 g19 (by decide) dX9_station_100 ?_
      cases h
      exact hret _ _ _ _ _ _ (by decide) (by decide) rfl dX9_station_101 rfl hG hS
    replace h := xif_f h c18
    rcases Decidable.em (x2 = 5) with c20 | c20
    · replace h := xif_t h c20
      refine x_tblI (v := 5) (tgt := 102) X c20 (by decide) ⟨by decide, by decide⟩ dX9_station_6 rfl (by decide) ?_
      refine lv_aload_n X.1.1 X.1.2.1 dX9_station_102 rfl (lv_at hl 0 rfl) ?_
      obtain ⟨n21, en21, h⟩ := xlet_of h
      refine x_getd X hG 13 4 0 4 (inC := iX9) rfl q0.1 q0.2 ⟨by decide, by decide, by decide, rfl, rfl⟩ en21 w3 dX9_station_103 ?_
      obtain ⟨g22, h⟩ := xgd_of h
      refine lv_aload_n X.1.1 X.1.2.1 dX9_station_106 rfl (lv_at hl 0 rfl) ?_
      refine x_getr X hG 13 6 0 54 (inC := iX9) rfl q0.1 q0.2 ⟨by decide, by decide, by decide, rfl, by decide, by decide⟩ w6 dX9_station_107 ?_
      refine x_getr X hG 11 5 54 3 (inC := iX7) rfl q54.1 q54.2 ⟨by decide, by decide, by decide, rfl, by decide, by decide⟩ w8 dX9_station_110 ?_
      refine lv_iload_n X.1.1 X.1.2.1 dX9_station_113 rfl (lv_at hl 1 rfl) ?_
      obtain ⟨g23, h⟩ := xgd_of h
      refine x_iald X hG q57.1 q57.2.1 (n := 8) q57.2.2 g23 (by decide) dX9_station_114 ?_
      refine lv_aload_n X.1.1 X.1.2.1 dX9_station_115 rfl (lv_at hl 0 rfl) ?_
      refine x_getr X hG 13 6 0 54 (inC := iX9) rfl q0.1 q0.2 ⟨by decide, by decide, by decide, rfl, by decide, by decide⟩ w6 dX9_station_116 ?_
      refine x_getr X hG 11 6 54 4 (inC := iX7) rfl q54.1 q54.2 ⟨by decide, by decide, by decide, rfl, by decide, by decide⟩ w9 dX9_station_119 ?_
      refine lv_iload_n X.1.1 X.1.2.1 dX9_station_122 rfl (lv_at hl 1 rfl) ?_
      obtain ⟨g24, h⟩ := xgd_of h
      refine x_iald X hG q58.1 q58.2.1 (n := 8) q58.2.2 g24 (by decide) dX9_station_123 ?_
      obtain ⟨v25, u26, hf, h⟩ := xbd_of h
      refine x_callVi0 X hG hS (c_X5_ratioOf l t _ _ _ _ _ _ hf) (cwV 2 X.1.2.2.2.2 gX9_station_X5_ratioOf rfl rfl rfl hd_X5_ratioOf ⟨Nat.le_of_ble_eq_true rfl, Nat.le_of_ble_eq_true rfl⟩) g22.1 g22.2 rfl (by decide) (by rfl) hl.1 (Nat.le_of_ble_eq_true rfl) dX9_station_124 ⟨by decide, by decide⟩ rfl (fun H locs hG hS => ?_)
      cases h
      exact hret _ _ _ _ _ _ (by decide) (by decide) rfl dX9_station_127 rfl hG hS
    replace h := xif_f h c20
    rcases Decidable.em (x2 = 6) with c27 | c27
    · replace h := xif_t h c27
      refine x_tblI (v := 6) (tgt := 128) X c27 (by decide) ⟨by decide, by decide⟩ dX9_station_6 rfl (by decide) ?_
      refine lv_aload_n X.1.1 X.1.2.1 dX9_station_128 rfl (lv_at hl 0 rfl) ?_
      refine x_getr X hG 13 6 0 54 (inC := iX9) rfl q0.1 q0.2 ⟨by decide, by decide, by decide, rfl, by decide, by decide⟩ w6 dX9_station_129 ?_
      refine x_getr X hG 11 7 54 5 (inC := iX7) rfl q54.1 q54.2 ⟨by decide, by decide, by decide, rfl, by decide, by decide⟩ w10 dX9_station_132 ?_
      refine lv_iload_n X.1.1 X.1.2.1 dX9_station_135 rfl (lv_at hl 1 rfl) ?_
      obtain ⟨g28, h⟩ := xgd_of h
      refine x_iald X hG q59.1 q59.2.1 (n := 8) q59.2.2 g28 (by decide) dX9_station_136 ?_
      cases h
      exact hret _ _ _ _ _ _ (by decide) (by decide) rfl dX9_station_137 rfl hG hS
    replace h := xif_f h c27
    rcases Decidable.em (x2 = 7) with c29 | c29
    · replace h := xif_t h c29
      refine x_tblI (v := 7) (tgt := 138) X c29 (by decide) ⟨by decide, by decide⟩ dX9_station_6 rfl (by decide) ?_
      refine lv_aload_n X.1.1 X.1.2.1 dX9_station_138 rfl (lv_at hl 0 rfl) ?_
      refine x_getr X hG 13 6 0 54 (inC := iX9) rfl q0.1 q0.2 ⟨by decide, by decide, by decide, rfl, by decide, by decide⟩ w6 dX9_station_139 ?_
      refine x_getr X hG 11 8 54 6 (inC := iX7) rfl q54.1 q54.2 ⟨by decide, by decide, by decide, rfl, by decide, by decide⟩ w11 dX9_station_142 ?_
      refine lv_iload_n X.1.1 X.1.2.1 dX9_station_145 rfl (lv_at hl 1 rfl) ?_
      obtain ⟨g30, h⟩ := xgd_of h
      refine x_iald X hG q60.1 q60.2.1 (n := 8) q60.2.2 g30 (by decide) dX9_station_146 ?_
      cases h
      exact hret _ _ _ _ _ _ (by decide) (by decide) rfl dX9_station_147 rfl hG hS
    replace h := xif_f h c29
    cases h
theorem hd_X9_station : yX9_station.cls = RX9 ∧ yX9_station.cls ≠ "java/lang/invoke/MethodHandle" ∧ yX9_station.cls ≠ "java/lang/invoke/VarHandle" ∧ (parseMethodDescriptor yX9_station.desc).map (fun d => d.parameters.length) = some 2 := by decide +kernel
abbrev rX9_triggered : Room := { frames := 1, cells := 0, slots := 0, locals := 22 }
set_option maxRecDepth 100000 in
set_option maxHeartbeats 8000000 in
theorem c_X9_triggered (l : Launch) (t : gP) (u : uS) (r : Int) (u' : uS) (h : f_X9_triggered u = some (r, u')) : xMi l yX9_triggered wsX9_triggered rX9_triggered t [.ref (t.2.2.1 0)] u r u' 0 0 := by
  refine x_ofWi (cc := cX9_triggered) (maxL := 1) (ret := .int) (own := RX9) (by decide) rfl rfl (Nat.le_of_ble_eq_true rfl) ?_
  intro p e s m args below meth c Q X hret H locs ls hG hS hl
  replace hl : lv_has ls 1 [(0, .ref (t.2.2.1 0))] := hl
  have q0 : 0 < NN ∧ sT 0 = 13 := by decide
  have iX9 : ∀ w ∈ wsX90, w ∈ wsX9_triggered := by decide +kernel
  have w1 : Cond.fieldLink RX9 40 "TriggerNetwork" "now" "LTriggerNetwork$Situation;" ∈ wsX9_triggered := x_w 1 rfl
  have q54 : 54 < NN ∧ sT 54 = 11 := by decide
  unfold f_X9_triggered at h
  refine lv_aload_n X.1.1 X.1.2.1 dX9_triggered_0 rfl (lv_at hl 0 rfl) ?_
  refine x_getr X hG 13 6 0 54 (inC := iX9) rfl q0.1 q0.2 ⟨by decide, by decide, by decide, rfl, by decide, by decide⟩ w1 dX9_triggered_1 ?_
  obtain ⟨v1, u2, hf, h⟩ := xbd_of h
  refine x_callVi0 X hG hS (c_X7_triggeredStations l t _ _ _ _ hf) (cwV 0 X.1.2.2.2.2 gX9_triggered_X7_triggeredStations rfl rfl rfl hd_X7_triggeredStations ⟨Nat.le_of_ble_eq_true rfl, Nat.le_of_ble_eq_true rfl⟩) q54.1 q54.2 rfl (by decide) (by rfl) hl.1 (Nat.le_of_ble_eq_true rfl) dX9_triggered_4 ⟨by decide, by decide⟩ rfl (fun H locs hG hS => ?_)
  cases h
  exact hret _ _ _ _ dX9_triggered_7 rfl hG hS
theorem hd_X9_triggered : yX9_triggered.cls = RX9 ∧ yX9_triggered.cls ≠ "java/lang/invoke/MethodHandle" ∧ yX9_triggered.cls ≠ "java/lang/invoke/VarHandle" ∧ (parseMethodDescriptor yX9_triggered.desc).map (fun d => d.parameters.length) = some 0 := by decide +kernel
abbrev rX9_needPick : Room := { frames := 6, cells := 1, slots := 6, locals := 120 }
set_option maxRecDepth 100000 in
set_option maxHeartbeats 8000000 in
theorem c_X9_needPick (l : Launch) (hfl : l.stackTraces = false) (t : gP) (x1 : Int) (u : uS) (g : Nat) (r : Int) (u' : uS) (h : f_X9_needPick x1 u = some (g, r, u')) : xTv l yX9_needPick wsX9_needPick rX9_needPick t [.ref (t.2.2.1 0), .int (iI x1)] u g u' 1 6 := by
  refine x_ofTv (cc := cX9_needPick) (maxL := 2) (own := RX9) (by decide) rfl rfl (Nat.le_of_ble_eq_true rfl) ?_
  intro p e s m args below meth c Q hQ X hlk htab hret hxo H locs ls hG hS hl
  replace hl : lv_has ls 2 [(0, .ref (t.2.2.1 0)), (1, .int (iI x1))] := hl
  have q0 : 0 < NN ∧ sT 0 = 13 := by decide
  have w1 : Cond.classLink RX9 362 "java/lang/IndexOutOfBoundsException" ∈ wsX9_needPick := x_w 1 rfl
  have w2 : Cond.initialized "java/lang/IndexOutOfBoundsException" ∈ wsX9_needPick := x_w 2 rfl
  have iX9 : ∀ w ∈ wsX90, w ∈ wsX9_needPick := by decide +kernel
  have w3 : Cond.fieldLink RX9 40 "TriggerNetwork" "now" "LTriggerNetwork$Situation;" ∈ wsX9_needPick := x_w 3 rfl
  have q54 : 54 < NN ∧ sT 54 = 11 := by decide
  have iX7 : ∀ w ∈ wsX70, w ∈ wsX9_needPick := by decide +kernel
  have w4 : Cond.fieldLink RX9 116 "TriggerNetwork$Situation" "pickCount" "I" ∈ wsX9_needPick := x_w 4 rfl
  unfold f_X9_needPick at h
  refine lv_iload_n X.1.1 X.1.2.1 dX9_needPick_0 rfl (lv_at hl 1 rfl) ?_
  obtain ⟨g1, h⟩ := xgd_of h
  obtain ⟨j2, ej2, h⟩ := xlet_of h
  have Jj2 : ∀ (u3 : uS), j2 u3 = some (g, r, u') → xG p l e rX9_needPick s m args below meth c t Q 2 0 0 15 u3 [] [] := by
      intro u3 h H locs ls hG hS hl
      replace h := (congrFun ej2 u3).symm.trans h
      cases h
      exact x_thrSW X hG hS hfl hlk htab hl.1 (g := 1) (by decide) hQ (by decide) w1 w2 (x_m 9 rfl) (fun w q => List.mem_cons_of_mem _ (List.mem_append_right _ q)) xng_1 xot_1 dX9_needPick_15 dX9_needPick_18 dX9_needPick_19 dX9_needPick_22 dX9_needPick_25 (by decide) (by decide) (by decide) (by decide) (by decide) (by decide)
  refine x_if_lt (tgt := 15) X g1 dX9_needPick_1 (by decide) (fun c4 => ?_) (fun c4 => ?_)
  · replace h := xif_t h c4
    exact Jj2 _ h _ _ _ hG hS (lv_sub hl [] rfl)
  · replace h := xif_f h c4
    refine lv_iload_n X.1.1 X.1.2.1 dX9_needPick_4 rfl (lv_at hl 1 rfl) ?_
    refine lv_aload_n X.1.1 X.1.2.1 dX9_needPick_5 rfl (lv_at hl 0 rfl) ?_
    refine x_getr X hG 13 6 0 54 (inC := iX9) rfl q0.1 q0.2 ⟨by decide, by decide, by decide, rfl, by decide, by decide⟩ w3 dX9_needPick_6 ?_
    refine x_geti X hG 11 1 54 1 (inC := iX7) rfl q54.1 q54.2 ⟨by decide, by decide, by decide, rfl, rfl⟩ w4 dX9_needPick_9 ?_
    obtain ⟨g5, h⟩ := xgd_of h
    refine x_icmp_lt (tgt := 26) X g5.1 g5.2 dX9_needPick_12 (by decide) (fun c6 => ?_) (fun c6 => ?_)
    · replace h := xif_t h c6
      cases h
      exact hret _ _ _ _ _ _ (by decide) (by decide) rfl dX9_needPick_26 hG hS
    · replace h := xif_f h c6
      exact Jj2 _ h _ _ _ hG hS (lv_sub hl [] rfl)
theorem hd_X9_needPick : yX9_needPick.cls = RX9 ∧ yX9_needPick.cls ≠ "java/lang/invoke/MethodHandle" ∧ yX9_needPick.cls ≠ "java/lang/invoke/VarHandle" ∧ (parseMethodDescriptor yX9_needPick.desc).map (fun d => d.parameters.length) = some 1 := by decide +kernel
abbrev rX9_pick : Room := { frames := 7, cells := 2, slots := 12, locals := 141 }
set_option maxRecDepth 100000 in
set_option maxHeartbeats 8000000 in
theorem c_X9_pick (l : Launch) (hfl : l.stackTraces = false) (t : gP) (x1 : Int) (x2 : Int) (u : uS) (g : Nat) (r : Int) (u' : uS) (h : f_X9_pick x1 x2 u = some (g, r, u')) : xTi l yX9_pick wsX9_pick rX9_pick t [.ref (t.2.2.1 0), .int (iI x1), .int (iI x2)] u g r u' 2 12 := by
  refine x_ofTi (cc := cX9_pick) (maxL := 3) (ret := .int) (own := RX9) (by decide) rfl rfl (Nat.le_of_ble_eq_true rfl) ?_
  intro p e s m args below meth c Q hQ X hlk htab hret hxo H locs ls hG hS hl
  replace hl : lv_has ls 3 [(0, .ref (t.2.2.1 0)), (1, .int (iI x1)), (2, .int (iI x2))] := hl
  have q0 : 0 < NN ∧ sT 0 = 13 := by decide
  have w1 : Cond.classLink RX9 79 "java/lang/IllegalArgumentException" ∈ wsX9_pick := x_w 1 rfl
  have w2 : Cond.initialized "java/lang/IllegalArgumentException" ∈ wsX9_pick := x_w 2 rfl
  have iX9 : ∀ w ∈ wsX90, w ∈ wsX9_pick := by decide +kernel
  have w3 : Cond.fieldLink RX9 40 "TriggerNetwork" "now" "LTriggerNetwork$Situation;" ∈ wsX9_pick := x_w 3 rfl
  have q54 : 54 < NN ∧ sT 54 = 11 := by decide
  have iX7 : ∀ w ∈ wsX70, w ∈ wsX9_pick := by decide +kernel
  have w4 : Cond.fieldLink RX9 182 "TriggerNetwork$Situation" "pickStations" "[I" ∈ wsX9_pick := x_w 4 rfl
  have q62 : 62 < NN ∧ sT 62 = 100 ∧ sN 62 = 60 := by decide
  have w5 : Cond.fieldLink RX9 185 "TriggerNetwork$Situation" "pickTimes" "[I" ∈ wsX9_pick := x_w 5 rfl
  have q63 : 63 < NN ∧ sT 63 = 100 ∧ sN 63 = 60 := by decide
  have w6 : Cond.fieldLink RX9 188 "TriggerNetwork$Situation" "pickPeaks" "[I" ∈ wsX9_pick := x_w 6 rfl
  have q64 : 64 < NN ∧ sT 64 = 100 ∧ sN 64 = 60 := by decide
  have w7 : Cond.fieldLink RX9 191 "TriggerNetwork$Situation" "pickEvents" "[I" ∈ wsX9_pick := x_w 7 rfl
  have q65 : 65 < NN ∧ sT 65 = 100 ∧ sN 65 = 60 := by decide
  have w8 : Cond.fieldLink RX9 194 "TriggerNetwork$Situation" "removed" "[I" ∈ wsX9_pick := x_w 8 rfl
  have q66 : 66 < NN ∧ sT 66 = 100 ∧ sN 66 = 60 := by decide
  unfold f_X9_pick at h
  refine lv_aload_n X.1.1 X.1.2.1 dX9_pick_0 rfl (lv_at hl 0 rfl) ?_
  refine lv_iload_n X.1.1 X.1.2.1 dX9_pick_1 rfl (lv_at hl 1 rfl) ?_
  obtain ⟨g3, v1, u2, hf, h⟩ := xbt_of h
  refine x_callVTv X hG hS (c_X9_needPick l hfl t _ _ _ _ _ hf) (cwV 1 X.1.2.2.2.2 gX9_pick_X9_needPick rfl rfl rfl hd_X9_needPick ⟨Nat.le_of_ble_eq_true rfl, Nat.le_of_ble_eq_true rfl⟩) q0.1 q0.2 rfl (by decide) (by rfl) hl.1 (Nat.le_of_ble_eq_true rfl) dX9_pick_2 ⟨by decide, by decide⟩ rfl (fun hg H locs ce q9 hG hS h7 h8 h9 => by rcases h with ⟨h0, _⟩ | ⟨_, h⟩; (exact absurd h0 hg); (cases h; exact hxo _ _ _ _ _ _ _ _ _ (by decide) (by decide) hg hG hS h7 h8 h9)) (fun hg H locs hG hS => ?_)
  replace h := (h.resolve_right (fun q => q.1 hg)).2
  refine lv_iload_n X.1.1 X.1.2.1 dX9_pick_5 rfl (lv_at hl 2 rfl) ?_
  obtain ⟨g4, h⟩ := xgd_of h
  rcases Decidable.em (x2 < 0 ∨ 4 < x2) with c5 | c5
  · replace h := xif_t h c5
    refine x_tblO (tgt := 90) X g4 dX9_pick_6 c5 (by decide) ?_
    cases h
    exact x_thrS X hG hS hfl hlk htab hl.1 (g := 2) (by decide) hQ (by decide) w1 w2 (x_m 4 rfl) (fun w q => List.mem_cons_of_mem _ (List.mem_append_left _ (List.mem_append_right _ q))) xng_2 xot_2 dX9_pick_90 dX9_pick_93 dX9_pick_94 dX9_pick_96 dX9_pick_99 (by decide) (by decide) (by decide) (by decide) (by decide) (by decide)
  · replace h := xif_f h c5
    rcases Decidable.em (x2 = 0) with c6 | c6
    · replace h := xif_t h c6
      refine x_tblI (v := 0) (tgt := 40) X c6 (by decide) ⟨by decide, by decide⟩ dX9_pick_6 rfl (by decide) ?_
      refine lv_aload_n X.1.1 X.1.2.1 dX9_pick_40 rfl (lv_at hl 0 rfl) ?_
      refine x_getr X hG 13 6 0 54 (inC := iX9) rfl q0.1 q0.2 ⟨by decide, by decide, by decide, rfl, by decide, by decide⟩ w3 dX9_pick_41 ?_
      refine x_getr X hG 11 10 54 8 (inC := iX7) rfl q54.1 q54.2 ⟨by decide, by decide, by decide, rfl, by decide, by decide⟩ w4 dX9_pick_44 ?_
      refine lv_iload_n X.1.1 X.1.2.1 dX9_pick_47 rfl (lv_at hl 1 rfl) ?_
      obtain ⟨g7, h⟩ := xgd_of h
      refine x_iald X hG q62.1 q62.2.1 (n := 60) q62.2.2 g7 (by decide) dX9_pick_48 ?_
      cases h
      exact hret _ _ _ _ _ _ (by decide) (by decide) rfl dX9_pick_49 rfl hG hS
    replace h := xif_f h c6
    rcases Decidable.em (x2 = 1) with c8 | c8
    · replace h := xif_t h c8
      refine x_tblI (v := 1) (tgt := 50) X c8 (by decide) ⟨by decide, by decide⟩ dX9_pick_6 rfl (by decide) ?_
      refine lv_aload_n X.1.1 X.1.2.1 dX9_pick_50 rfl (lv_at hl 0 rfl) ?_
      refine x_getr X hG 13 6 0 54 (inC := iX9) rfl q0.1 q0.2 ⟨by decide, by decide, by decide, rfl, by decide, by decide⟩ w3 dX9_pick_51 ?_
      refine x_getr X hG 11 11 54 9 (inC := iX7) rfl q54.1 q54.2 ⟨by decide, by decide, by decide, rfl, by decide, by decide⟩ w5 dX9_pick_54 ?_
      refine lv_iload_n X.1.1 X.1.2.1 dX9_pick_57 rfl (lv_at hl 1 rfl) ?_
      obtain ⟨g9, h⟩ := xgd_of h
      refine x_iald X hG q63.1 q63.2.1 (n := 60) q63.2.2 g9 (by decide) dX9_pick_58 ?_
      cases h
      exact hret _ _ _ _ _ _ (by decide) (by decide) rfl dX9_pick_59 rfl hG hS
    replace h := xif_f h c8
    rcases Decidable.em (x2 = 2) with c10 | c10
    · replace h := xif_t h c10
      refine x_tblI (v := 2) (tgt := 60) X c10 (by decide) ⟨by decide, by decide⟩ dX9_pick_6 rfl (by decide) ?_
      refine lv_aload_n X.1.1 X.1.2.1 dX9_pick_60 rfl (lv_at hl 0 rfl) ?_
      refine x_getr X hG 13 6 0 54 (inC := iX9) rfl q0.1 q0.2 ⟨by decide, by decide, by decide, rfl, by decide, by decide⟩ w3 dX9_pick_61 ?_
      refine x_getr X hG 11 12 54 10 (inC := iX7) rfl q54.1 q54.2 ⟨by decide, by decide, by decide, rfl, by decide, by decide⟩ w6 dX9_pick_64 ?_
      refine lv_iload_n X.1.1 X.1.2.1 dX9_pick_67 rfl (lv_at hl 1 rfl) ?_
      obtain ⟨g11, h⟩ := xgd_of h
      refine x_iald X hG q64.1 q64.2.1 (n := 60) q64.2.2 g11 (by decide) dX9_pick_68 ?_
      cases h
      exact hret _ _ _ _ _ _ (by decide) (by decide) rfl dX9_pick_69 rfl hG hS
    replace h := xif_f h c10
    rcases Decidable.em (x2 = 3) with c12 | c12
    · replace h := xif_t h c12
      refine x_tblI (v := 3) (tgt := 70) X c12 (by decide) ⟨by decide, by decide⟩ dX9_pick_6 rfl (by decide) ?_
      refine lv_aload_n X.1.1 X.1.2.1 dX9_pick_70 rfl (lv_at hl 0 rfl) ?_
      refine x_getr X hG 13 6 0 54 (inC := iX9) rfl q0.1 q0.2 ⟨by decide, by decide, by decide, rfl, by decide, by decide⟩ w3 dX9_pick_71 ?_
      refine x_getr X hG 11 13 54 11 (inC := iX7) rfl q54.1 q54.2 ⟨by decide, by decide, by decide, rfl, by decide, by decide⟩ w7 dX9_pick_74 ?_
      refine lv_iload_n X.1.1 X.1.2.1 dX9_pick_77 rfl (lv_at hl 1 rfl) ?_
      obtain ⟨g13, h⟩ := xgd_of h
      refine x_iald X hG q65.1 q65.2.1 (n := 60) q65.2.2 g13 (by decide) dX9_pick_78 ?_
      cases h
      exact hret _ _ _ _ _ _ (by decide) (by decide) rfl dX9_pick_79 rfl hG hS
    replace h := xif_f h c12
    rcases Decidable.em (x2 = 4) with c14 | c14
    · replace h := xif_t h c14
      refine x_tblI (v := 4) (tgt := 80) X c14 (by decide) ⟨by decide, by decide⟩ dX9_pick_6 rfl (by decide) ?_
      refine lv_aload_n X.1.1 X.1.2.1 dX9_pick_80 rfl (lv_at hl 0 rfl) ?_
      refine x_getr X hG 13 6 0 54 (inC := iX9) rfl q0.1 q0.2 ⟨by decide, by decide, by decide, rfl, by decide, by decide⟩ w3 dX9_pick_81 ?_
      refine x_getr X hG 11 14 54 12 (inC := iX7) rfl q54.1 q54.2 ⟨by decide, by decide, by decide, rfl, by decide, by decide⟩ w8 dX9_pick_84 ?_
      refine lv_iload_n X.1.1 X.1.2.1 dX9_pick_87 rfl (lv_at hl 1 rfl) ?_
      obtain ⟨g15, h⟩ := xgd_of h
      refine x_iald X hG q66.1 q66.2.1 (n := 60) q66.2.2 g15 (by decide) dX9_pick_88 ?_
      cases h
      exact hret _ _ _ _ _ _ (by decide) (by decide) rfl dX9_pick_89 rfl hG hS
    replace h := xif_f h c14
    cases h
theorem hd_X9_pick : yX9_pick.cls = RX9 ∧ yX9_pick.cls ≠ "java/lang/invoke/MethodHandle" ∧ yX9_pick.cls ≠ "java/lang/invoke/VarHandle" ∧ (parseMethodDescriptor yX9_pick.desc).map (fun d => d.parameters.length) = some 2 := by decide +kernel
abbrev rX9_fits : Room := { frames := 7, cells := 2, slots := 12, locals := 141 }
set_option maxRecDepth 100000 in
set_option maxHeartbeats 8000000 in
theorem c_X9_fits (l : Launch) (hfl : l.stackTraces = false) (t : gP) (x1 : Int) (x2 : Int) (u : uS) (g : Nat) (r : Int) (u' : uS) (h : f_X9_fits x1 x2 u = some (g, r, u')) : xTi l yX9_fits wsX9_fits rX9_fits t [.ref (t.2.2.1 0), .int (iI x1), .int (iI x2)] u g r u' 2 12 := by
  refine x_ofTi (cc := cX9_fits) (maxL := 3) (ret := .boolean) (own := RX9) (by decide) rfl rfl (Nat.le_of_ble_eq_true rfl) ?_
  intro p e s m args below meth c Q hQ X hlk htab hret hxo H locs ls hG hS hl
  replace hl : lv_has ls 3 [(0, .ref (t.2.2.1 0)), (1, .int (iI x1)), (2, .int (iI x2))] := hl
  have q0 : 0 < NN ∧ sT 0 = 13 := by decide
  have iX9 : ∀ w ∈ wsX90, w ∈ wsX9_fits := by decide +kernel
  have w1 : Cond.fieldLink RX9 40 "TriggerNetwork" "now" "LTriggerNetwork$Situation;" ∈ wsX9_fits := x_w 1 rfl
  have q54 : 54 < NN ∧ sT 54 = 11 := by decide
  have w2 : Cond.fieldLink RX9 30 "TriggerNetwork" "network" "LTriggerNetwork$Network;" ∈ wsX9_fits := x_w 2 rfl
  unfold f_X9_fits at h
  refine lv_aload_n X.1.1 X.1.2.1 dX9_fits_0 rfl (lv_at hl 0 rfl) ?_
  refine lv_iload_n X.1.1 X.1.2.1 dX9_fits_1 rfl (lv_at hl 1 rfl) ?_
  obtain ⟨g3, v1, u2, hf, h⟩ := xbt_of h
  refine x_callVTv X hG hS (c_X9_needPick l hfl t _ _ _ _ _ hf) (cwV 1 X.1.2.2.2.2 gX9_fits_X9_needPick rfl rfl rfl hd_X9_needPick ⟨Nat.le_of_ble_eq_true rfl, Nat.le_of_ble_eq_true rfl⟩) q0.1 q0.2 rfl (by decide) (by rfl) hl.1 (Nat.le_of_ble_eq_true rfl) dX9_fits_2 ⟨by decide, by decide⟩ rfl (fun hg H locs ce q9 hG hS h7 h8 h9 => by rcases h with ⟨h0, _⟩ | ⟨_, h⟩; (exact absurd h0 hg); (cases h; exact hxo _ _ _ _ _ _ _ _ _ (by decide) (by decide) hg hG hS h7 h8 h9)) (fun hg H locs hG hS => ?_)
  replace h := (h.resolve_right (fun q => q.1 hg)).2
  refine lv_aload_n X.1.1 X.1.2.1 dX9_fits_5 rfl (lv_at hl 0 rfl) ?_
  refine lv_iload_n X.1.1 X.1.2.1 dX9_fits_6 rfl (lv_at hl 2 rfl) ?_
  obtain ⟨g6, v4, u5, hf, h⟩ := xbt_of h
  refine x_callVTv X hG hS (c_X9_needPick l hfl t _ _ _ _ _ hf) (cwV 1 X.1.2.2.2.2 gX9_fits_X9_needPick rfl rfl rfl hd_X9_needPick ⟨Nat.le_of_ble_eq_true rfl, Nat.le_of_ble_eq_true rfl⟩) q0.1 q0.2 rfl (by decide) (by rfl) hl.1 (Nat.le_of_ble_eq_true rfl) dX9_fits_7 ⟨by decide, by decide⟩ rfl (fun hg H locs ce q9 hG hS h7 h8 h9 => by rcases h with ⟨h0, _⟩ | ⟨_, h⟩; (exact absurd h0 hg); (cases h; exact hxo _ _ _ _ _ _ _ _ _ (by decide) (by decide) hg hG hS h7 h8 h9)) (fun hg H locs hG hS => ?_)
  replace h := (h.resolve_right (fun q => q.1 hg)).2
  refine lv_aload_n X.1.1 X.1.2.1 dX9_fits_10 rfl (lv_at hl 0 rfl) ?_
  refine x_getr X hG 13 6 0 54 (inC := iX9) rfl q0.1 q0.2 ⟨by decide, by decide, by decide, rfl, by decide, by decide⟩ w1 dX9_fits_11 ?_
  refine lv_aload_n X.1.1 X.1.2.1 dX9_fits_14 rfl (lv_at hl 0 rfl) ?_
  obtain ⟨n7, en7, h⟩ := xlet_of h
  refine x_getd X hG 13 4 0 4 (inC := iX9) rfl q0.1 q0.2 ⟨by decide, by decide, by decide, rfl, rfl⟩ en7 w2 dX9_fits_15 ?_
  obtain ⟨g8, h⟩ := xgd_of h
  refine lv_iload_n X.1.1 X.1.2.1 dX9_fits_18 rfl (lv_at hl 1 rfl) ?_
  refine lv_iload_n X.1.1 X.1.2.1 dX9_fits_19 rfl (lv_at hl 2 rfl) ?_
  obtain ⟨v9, u10, hf, h⟩ := xbd_of h
  refine x_callVi0 X hG hS (c_X7_picksFit l t _ _ _ _ _ _ _ hf) (cwV 3 X.1.2.2.2.2 gX9_fits_X7_picksFit rfl rfl rfl hd_X7_picksFit ⟨Nat.le_of_ble_eq_true rfl, Nat.le_of_ble_eq_true rfl⟩) q54.1 q54.2 rfl (by decide) (by rfl) hl.1 (Nat.le_of_ble_eq_true rfl) dX9_fits_20 ⟨by decide, by decide⟩ rfl (fun H locs hG hS => ?_)
  obtain ⟨g11, h⟩ := xgd_of h
  cases h
  exact hret _ _ _ _ _ _ (by decide) (by decide) rfl dX9_fits_23 (nz_of g11) hG hS
theorem hd_X9_fits : yX9_fits.cls = RX9 ∧ yX9_fits.cls ≠ "java/lang/invoke/MethodHandle" ∧ yX9_fits.cls ≠ "java/lang/invoke/VarHandle" ∧ (parseMethodDescriptor yX9_fits.desc).map (fun d => d.parameters.length) = some 2 := by decide +kernel
abbrev rX9_located : Room := { frames := 5, cells := 0, slots := 0, locals := 119 }
set_option maxRecDepth 100000 in
set_option maxHeartbeats 8000000 in
theorem c_X9_located (l : Launch) (t : gP) (x1 : Int) (x2 : Int) (u : uS) (r : Int) (u' : uS) (h : f_X9_located x1 x2 u = some (r, u')) : xMi l yX9_located wsX9_located rX9_located t [.ref (t.2.2.1 0), .int (iI x1), .int (iI x2)] u r u' 0 0 := by
  refine x_ofWi (cc := cX9_located) (maxL := 3) (ret := .int) (own := RX9) (by decide) rfl rfl (Nat.le_of_ble_eq_true rfl) ?_
  intro p e s m args below meth c Q X hret H locs ls hG hS hl
  replace hl : lv_has ls 3 [(0, .ref (t.2.2.1 0)), (1, .int (iI x1)), (2, .int (iI x2))] := hl
  have q0 : 0 < NN ∧ sT 0 = 13 := by decide
  have iX9 : ∀ w ∈ wsX90, w ∈ wsX9_located := by decide +kernel
  have w1 : Cond.fieldLink RX9 64 "TriggerNetwork" "locator" "LTriggerNetwork$Locator;" ∈ wsX9_located := x_w 1 rfl
  have q30 : 30 < NN ∧ sT 30 = 7 := by decide
  have w2 : Cond.fieldLink RX9 30 "TriggerNetwork" "network" "LTriggerNetwork$Network;" ∈ wsX9_located := x_w 2 rfl
  have w3 : Cond.fieldLink RX9 40 "TriggerNetwork" "now" "LTriggerNetwork$Situation;" ∈ wsX9_located := x_w 3 rfl
  have q54 : 54 < NN ∧ sT 54 = 11 := by decide
  have iX3 : ∀ w ∈ wsX30, w ∈ wsX9_located := by decide +kernel
  have w4 : Cond.fieldLink RX9 334 "TriggerNetwork$Locator" "node" "I" ∈ wsX9_located := x_w 4 rfl
  have w5 : Cond.fieldLink RX9 337 "TriggerNetwork$Locator" "origin" "I" ∈ wsX9_located := x_w 5 rfl
  have w6 : Cond.fieldLink RX9 234 "TriggerNetwork$Locator" "misfit" "I" ∈ wsX9_located := x_w 6 rfl
  unfold f_X9_located at h
  refine lv_aload_n X.1.1 X.1.2.1 dX9_located_0 rfl (lv_at hl 0 rfl) ?_
  refine x_getr X hG 13 10 0 30 (inC := iX9) rfl q0.1 q0.2 ⟨by decide, by decide, by decide, rfl, by decide, by decide⟩ w1 dX9_located_1 ?_
  refine lv_aload_n X.1.1 X.1.2.1 dX9_located_4 rfl (lv_at hl 0 rfl) ?_
  obtain ⟨n1, en1, h⟩ := xlet_of h
  refine x_getd X hG 13 4 0 4 (inC := iX9) rfl q0.1 q0.2 ⟨by decide, by decide, by decide, rfl, rfl⟩ en1 w2 dX9_located_5 ?_
  obtain ⟨g2, h⟩ := xgd_of h
  refine lv_aload_n X.1.1 X.1.2.1 dX9_located_8 rfl (lv_at hl 0 rfl) ?_
  refine x_getr X hG 13 6 0 54 (inC := iX9) rfl q0.1 q0.2 ⟨by decide, by decide, by decide, rfl, by decide, by decide⟩ w3 dX9_located_9 ?_
  refine lv_iload_n X.1.1 X.1.2.1 dX9_located_12 rfl (lv_at hl 1 rfl) ?_
  obtain ⟨v3, u4, hf, h⟩ := xbd_of h
  refine x_callVv0 X hG hS (c_X3_locate l t _ _ _ _ _ _ hf) (cwV 3 X.1.2.2.2.2 gX9_located_X3_locate rfl rfl rfl hd_X3_locate ⟨Nat.le_of_ble_eq_true rfl, Nat.le_of_ble_eq_true rfl⟩) q30.1 q30.2 rfl (by decide) (by rfl) hl.1 (Nat.le_of_ble_eq_true rfl) dX9_located_13 ⟨by decide, by decide⟩ rfl (fun H locs hG hS => ?_)
  refine lv_iload_n X.1.1 X.1.2.1 dX9_located_16 rfl (lv_at hl 2 rfl) ?_
  obtain ⟨g5, h⟩ := xgd_of h
  rcases Decidable.em (x2 < 3 ∨ 5 < x2) with c6 | c6
  · replace h := xif_t h c6
    refine x_tblO (tgt := 68) X g5 dX9_located_17 c6 (by decide) ?_
    refine lv_aload_n X.1.1 X.1.2.1 dX9_located_68 rfl (lv_at hl 0 rfl) ?_
    refine x_getr X hG 13 10 0 30 (inC := iX9) rfl q0.1 q0.2 ⟨by decide, by decide, by decide, rfl, by decide, by decide⟩ w1 dX9_located_69 ?_
    refine lv_aload_n X.1.1 X.1.2.1 dX9_located_72 rfl (lv_at hl 0 rfl) ?_
    obtain ⟨n7, en7, h⟩ := xlet_of h
    refine x_getd X hG 13 4 0 4 (inC := iX9) rfl q0.1 q0.2 ⟨by decide, by decide, by decide, rfl, rfl⟩ en7 w2 dX9_located_73 ?_
    obtain ⟨g8, h⟩ := xgd_of h
    refine lv_aload_n X.1.1 X.1.2.1 dX9_located_76 rfl (lv_at hl 0 rfl) ?_
    refine x_getr X hG 13 6 0 54 (inC := iX9) rfl q0.1 q0.2 ⟨by decide, by decide, by decide, rfl, by decide, by decide⟩ w3 dX9_located_77 ?_
    obtain ⟨v9, u10, hf, h⟩ := xbd_of h
    refine x_callVi0 X hG hS (c_X3_magnitude l t _ _ _ _ _ hf) (cwV 2 X.1.2.2.2.2 gX9_located_X3_magnitude rfl rfl rfl hd_X3_magnitude ⟨Nat.le_of_ble_eq_true rfl, Nat.le_of_ble_eq_true rfl⟩) q30.1 q30.2 rfl (by decide) (by rfl) hl.1 (Nat.le_of_ble_eq_true rfl) dX9_located_80 ⟨by decide, by decide⟩ rfl (fun H locs hG hS => ?_)
    cases h
    exact hret _ _ _ _ dX9_located_83 rfl hG hS
  · replace h := xif_f h c6
    rcases Decidable.em (x2 = 3) with c11 | c11
    · replace h := xif_t h c11
      refine x_tblI (v := 3) (tgt := 44) X c11 (by decide) ⟨by decide, by decide⟩ dX9_located_17 rfl (by decide) ?_
      refine lv_aload_n X.1.1 X.1.2.1 dX9_located_44 rfl (lv_at hl 0 rfl) ?_
      refine x_getr X hG 13 10 0 30 (inC := iX9) rfl q0.1 q0.2 ⟨by decide, by decide, by decide, rfl, by decide, by decide⟩ w1 dX9_located_45 ?_
      refine x_geti X hG 7 1 30 1 (inC := iX3) rfl q30.1 q30.2 ⟨by decide, by decide, by decide, rfl, rfl⟩ w4 dX9_located_48 ?_
      cases h
      exact hret _ _ _ _ dX9_located_51 rfl hG hS
    replace h := xif_f h c11
    rcases Decidable.em (x2 = 4) with c12 | c12
    · replace h := xif_t h c12
      refine x_tblI (v := 4) (tgt := 52) X c12 (by decide) ⟨by decide, by decide⟩ dX9_located_17 rfl (by decide) ?_
      refine lv_aload_n X.1.1 X.1.2.1 dX9_located_52 rfl (lv_at hl 0 rfl) ?_
      refine x_getr X hG 13 10 0 30 (inC := iX9) rfl q0.1 q0.2 ⟨by decide, by decide, by decide, rfl, by decide, by decide⟩ w1 dX9_located_53 ?_
      refine x_geti X hG 7 2 30 2 (inC := iX3) rfl q30.1 q30.2 ⟨by decide, by decide, by decide, rfl, rfl⟩ w5 dX9_located_56 ?_
      cases h
      exact hret _ _ _ _ dX9_located_59 rfl hG hS
    replace h := xif_f h c12
    rcases Decidable.em (x2 = 5) with c13 | c13
    · replace h := xif_t h c13
      refine x_tblI (v := 5) (tgt := 60) X c13 (by decide) ⟨by decide, by decide⟩ dX9_located_17 rfl (by decide) ?_
      refine lv_aload_n X.1.1 X.1.2.1 dX9_located_60 rfl (lv_at hl 0 rfl) ?_
      refine x_getr X hG 13 10 0 30 (inC := iX9) rfl q0.1 q0.2 ⟨by decide, by decide, by decide, rfl, by decide, by decide⟩ w1 dX9_located_61 ?_
      refine x_geti X hG 7 3 30 3 (inC := iX3) rfl q30.1 q30.2 ⟨by decide, by decide, by decide, rfl, rfl⟩ w6 dX9_located_64 ?_
      cases h
      exact hret _ _ _ _ dX9_located_67 rfl hG hS
    replace h := xif_f h c13
    cases h
theorem hd_X9_located : yX9_located.cls = RX9 ∧ yX9_located.cls ≠ "java/lang/invoke/MethodHandle" ∧ yX9_located.cls ≠ "java/lang/invoke/VarHandle" ∧ (parseMethodDescriptor yX9_located.desc).map (fun d => d.parameters.length) = some 2 := by decide +kernel
abbrev rX9_needEvent : Room := { frames := 6, cells := 1, slots := 6, locals := 120 }
set_option maxRecDepth 100000 in
set_option maxHeartbeats 8000000 in
theorem c_X9_needEvent (l : Launch) (hfl : l.stackTraces = false) (t : gP) (x1 : Int) (u : uS) (g : Nat) (r : Int) (u' : uS) (h : f_X9_needEvent x1 u = some (g, r, u')) : xTv l yX9_needEvent wsX9_needEvent rX9_needEvent t [.ref (t.2.2.1 0), .int (iI x1)] u g u' 1 6 := by
  refine x_ofTv (cc := cX9_needEvent) (maxL := 2) (own := RX9) (by decide) rfl rfl (Nat.le_of_ble_eq_true rfl) ?_
  intro p e s m args below meth c Q hQ X hlk htab hret hxo H locs ls hG hS hl
  replace hl : lv_has ls 2 [(0, .ref (t.2.2.1 0)), (1, .int (iI x1))] := hl
  have q0 : 0 < NN ∧ sT 0 = 13 := by decide
  have w1 : Cond.classLink RX9 362 "java/lang/IndexOutOfBoundsException" ∈ wsX9_needEvent := x_w 1 rfl
  have w2 : Cond.initialized "java/lang/IndexOutOfBoundsException" ∈ wsX9_needEvent := x_w 2 rfl
  have iX9 : ∀ w ∈ wsX90, w ∈ wsX9_needEvent := by decide +kernel
  have w3 : Cond.fieldLink RX9 40 "TriggerNetwork" "now" "LTriggerNetwork$Situation;" ∈ wsX9_needEvent := x_w 3 rfl
  have q54 : 54 < NN ∧ sT 54 = 11 := by decide
  have iX7 : ∀ w ∈ wsX70, w ∈ wsX9_needEvent := by decide +kernel
  have w4 : Cond.fieldLink RX9 119 "TriggerNetwork$Situation" "eventCount" "I" ∈ wsX9_needEvent := x_w 4 rfl
  unfold f_X9_needEvent at h
  refine lv_iload_n X.1.1 X.1.2.1 dX9_needEvent_0 rfl (lv_at hl 1 rfl) ?_
  obtain ⟨g1, h⟩ := xgd_of h
  obtain ⟨j2, ej2, h⟩ := xlet_of h
  have Jj2 : ∀ (u3 : uS), j2 u3 = some (g, r, u') → xG p l e rX9_needEvent s m args below meth c t Q 2 0 0 15 u3 [] [] := by
      intro u3 h H locs ls hG hS hl
      replace h := (congrFun ej2 u3).symm.trans h
      cases h
      exact x_thrSW X hG hS hfl hlk htab hl.1 (g := 1) (by decide) hQ (by decide) w1 w2 (x_m 10 rfl) (fun w q => List.mem_cons_of_mem _ (List.mem_append_right _ q)) xng_1 xot_1 dX9_needEvent_15 dX9_needEvent_18 dX9_needEvent_19 dX9_needEvent_22 dX9_needEvent_25 (by decide) (by decide) (by decide) (by decide) (by decide) (by decide)
  refine x_if_lt (tgt := 15) X g1 dX9_needEvent_1 (by decide) (fun c4 => ?_) (fun c4 => ?_)
  · replace h := xif_t h c4
    exact Jj2 _ h _ _ _ hG hS (lv_sub hl [] rfl)
  · replace h := xif_f h c4
    refine lv_iload_n X.1.1 X.1.2.1 dX9_needEvent_4 rfl (lv_at hl 1 rfl) ?_
    refine lv_aload_n X.1.1 X.1.2.1 dX9_needEvent_5 rfl (lv_at hl 0 rfl) ?_
    refine x_getr X hG 13 6 0 54 (inC := iX9) rfl q0.1 q0.2 ⟨by decide, by decide, by decide, rfl, by decide, by decide⟩ w3 dX9_needEvent_6 ?_
    refine x_geti X hG 11 2 54 2 (inC := iX7) rfl q54.1 q54.2 ⟨by decide, by decide, by decide, rfl, rfl⟩ w4 dX9_needEvent_9 ?_
    obtain ⟨g5, h⟩ := xgd_of h
    refine x_icmp_lt (tgt := 26) X g5.1 g5.2 dX9_needEvent_12 (by decide) (fun c6 => ?_) (fun c6 => ?_)
    · replace h := xif_t h c6
      cases h
      exact hret _ _ _ _ _ _ (by decide) (by decide) rfl dX9_needEvent_26 hG hS
    · replace h := xif_f h c6
      exact Jj2 _ h _ _ _ hG hS (lv_sub hl [] rfl)
theorem hd_X9_needEvent : yX9_needEvent.cls = RX9 ∧ yX9_needEvent.cls ≠ "java/lang/invoke/MethodHandle" ∧ yX9_needEvent.cls ≠ "java/lang/invoke/VarHandle" ∧ (parseMethodDescriptor yX9_needEvent.desc).map (fun d => d.parameters.length) = some 1 := by decide +kernel
abbrev rX9_event : Room := { frames := 7, cells := 2, slots := 12, locals := 141 }
set_option maxRecDepth 100000 in
set_option maxHeartbeats 8000000 in
theorem c_X9_event (l : Launch) (hfl : l.stackTraces = false) (t : gP) (x1 : Int) (x2 : Int) (u : uS) (g : Nat) (r : Int) (u' : uS) (h : f_X9_event x1 x2 u = some (g, r, u')) : xTi l yX9_event wsX9_event rX9_event t [.ref (t.2.2.1 0), .int (iI x1), .int (iI x2)] u g r u' 2 12 := by
  refine x_ofTi (cc := cX9_event) (maxL := 3) (ret := .int) (own := RX9) (by decide) rfl rfl (Nat.le_of_ble_eq_true rfl) ?_
  intro p e s m args below meth c Q hQ X hlk htab hret hxo H locs ls hG hS hl
  replace hl : lv_has ls 3 [(0, .ref (t.2.2.1 0)), (1, .int (iI x1)), (2, .int (iI x2))] := hl
  have q0 : 0 < NN ∧ sT 0 = 13 := by decide
  have w1 : Cond.classLink RX9 79 "java/lang/IllegalArgumentException" ∈ wsX9_event := x_w 1 rfl
  have w2 : Cond.initialized "java/lang/IllegalArgumentException" ∈ wsX9_event := x_w 2 rfl
  have iX9 : ∀ w ∈ wsX90, w ∈ wsX9_event := by decide +kernel
  have w3 : Cond.fieldLink RX9 40 "TriggerNetwork" "now" "LTriggerNetwork$Situation;" ∈ wsX9_event := x_w 3 rfl
  have q54 : 54 < NN ∧ sT 54 = 11 := by decide
  have iX7 : ∀ w ∈ wsX70, w ∈ wsX9_event := by decide +kernel
  have w4 : Cond.fieldLink RX9 206 "TriggerNetwork$Situation" "retracted" "[I" ∈ wsX9_event := x_w 4 rfl
  have q68 : 68 < NN ∧ sT 68 = 100 ∧ sN 68 = 20 := by decide
  have w5 : Cond.fieldLink RX9 212 "TriggerNetwork$Situation" "declared" "[I" ∈ wsX9_event := x_w 5 rfl
  have q67 : 67 < NN ∧ sT 67 = 100 ∧ sN 67 = 20 := by decide
  unfold f_X9_event at h
  refine lv_aload_n X.1.1 X.1.2.1 dX9_event_0 rfl (lv_at hl 0 rfl) ?_
  refine lv_iload_n X.1.1 X.1.2.1 dX9_event_1 rfl (lv_at hl 1 rfl) ?_
  obtain ⟨g3, v1, u2, hf, h⟩ := xbt_of h
  refine x_callVTv X hG hS (c_X9_needEvent l hfl t _ _ _ _ _ hf) (cwV 1 X.1.2.2.2.2 gX9_event_X9_needEvent rfl rfl rfl hd_X9_needEvent ⟨Nat.le_of_ble_eq_true rfl, Nat.le_of_ble_eq_true rfl⟩) q0.1 q0.2 rfl (by decide) (by rfl) hl.1 (Nat.le_of_ble_eq_true rfl) dX9_event_2 ⟨by decide, by decide⟩ rfl (fun hg H locs ce q9 hG hS h7 h8 h9 => by rcases h with ⟨h0, _⟩ | ⟨_, h⟩; (exact absurd h0 hg); (cases h; exact hxo _ _ _ _ _ _ _ _ _ (by decide) (by decide) hg hG hS h7 h8 h9)) (fun hg H locs hG hS => ?_)
  replace h := (h.resolve_right (fun q => q.1 hg)).2
  refine lv_iload_n X.1.1 X.1.2.1 dX9_event_5 rfl (lv_at hl 2 rfl) ?_
  obtain ⟨g4, h⟩ := xgd_of h
  rcases Decidable.em (x2 < 0 ∨ 6 < x2) with c5 | c5
  · replace h := xif_t h c5
    refine x_tblO (tgt := 101) X g4 dX9_event_6 c5 (by decide) ?_
    cases h
    exact x_thrS X hG hS hfl hlk htab hl.1 (g := 2) (by decide) hQ (by decide) w1 w2 (x_m 5 rfl) (fun w q => List.mem_cons_of_mem _ (List.mem_append_left _ (List.mem_append_right _ q))) xng_2 xot_2 dX9_event_101 dX9_event_104 dX9_event_105 dX9_event_107 dX9_event_110 (by decide) (by decide) (by decide) (by decide) (by decide) (by decide)
  · replace h := xif_f h c5
    rcases Decidable.em (x2 = 0) with c6 | c6
    · replace h := xif_t h c6
      refine x_tblI (v := 0) (tgt := 48) X c6 (by decide) ⟨by decide, by decide⟩ dX9_event_6 rfl (by decide) ?_
      refine lv_aload_n X.1.1 X.1.2.1 dX9_event_48 rfl (lv_at hl 0 rfl) ?_
      refine x_getr X hG 13 6 0 54 (inC := iX9) rfl q0.1 q0.2 ⟨by decide, by decide, by decide, rfl, by decide, by decide⟩ w3 dX9_event_49 ?_
      refine x_getr X hG 11 16 54 14 (inC := iX7) rfl q54.1 q54.2 ⟨by decide, by decide, by decide, rfl, by decide, by decide⟩ w4 dX9_event_52 ?_
      refine lv_iload_n X.1.1 X.1.2.1 dX9_event_55 rfl (lv_at hl 1 rfl) ?_
      obtain ⟨g7, h⟩ := xgd_of h
      refine x_iald X hG q68.1 q68.2.1 (n := 20) q68.2.2 g7 (by decide) dX9_event_56 ?_
      cases h
      exact hret _ _ _ _ _ _ (by decide) (by decide) rfl dX9_event_57 rfl hG hS
    replace h := xif_f h c6
    rcases Decidable.em (x2 = 1) with c8 | c8
    · replace h := xif_t h c8
      refine x_tblI (v := 1) (tgt := 58) X c8 (by decide) ⟨by decide, by decide⟩ dX9_event_6 rfl (by decide) ?_
      refine lv_aload_n X.1.1 X.1.2.1 dX9_event_58 rfl (lv_at hl 0 rfl) ?_
      refine x_getr X hG 13 6 0 54 (inC := iX9) rfl q0.1 q0.2 ⟨by decide, by decide, by decide, rfl, by decide, by decide⟩ w3 dX9_event_59 ?_
      refine lv_iload_n X.1.1 X.1.2.1 dX9_event_62 rfl (lv_at hl 1 rfl) ?_
      obtain ⟨v9, u10, hf, h⟩ := xbd_of h
      refine x_callVi0 X hG hS (c_X7_picksOf l t _ _ _ _ _ hf) (cwV 1 X.1.2.2.2.2 gX9_event_X7_picksOf rfl rfl rfl hd_X7_picksOf ⟨Nat.le_of_ble_eq_true rfl, Nat.le_of_ble_eq_true rfl⟩) q54.1 q54.2 rfl (by decide) (by rfl) hl.1 (Nat.le_of_ble_eq_true rfl) dX9_event_63 ⟨by decide, by decide⟩ rfl (fun H locs hG hS => ?_)
      cases h
      exact hret _ _ _ _ _ _ (by decide) (by decide) rfl dX9_event_66 rfl hG hS
    replace h := xif_f h c8
    rcases Decidable.em (x2 = 2) with c11 | c11
    · replace h := xif_t h c11
      refine x_tblI (v := 2) (tgt := 67) X c11 (by decide) ⟨by decide, by decide⟩ dX9_event_6 rfl (by decide) ?_
      refine lv_aload_n X.1.1 X.1.2.1 dX9_event_67 rfl (lv_at hl 0 rfl) ?_
      refine x_getr X hG 13 6 0 54 (inC := iX9) rfl q0.1 q0.2 ⟨by decide, by decide, by decide, rfl, by decide, by decide⟩ w3 dX9_event_68 ?_
      refine x_getr X hG 11 15 54 13 (inC := iX7) rfl q54.1 q54.2 ⟨by decide, by decide, by decide, rfl, by decide, by decide⟩ w5 dX9_event_71 ?_
      refine lv_iload_n X.1.1 X.1.2.1 dX9_event_74 rfl (lv_at hl 1 rfl) ?_
      obtain ⟨g12, h⟩ := xgd_of h
      refine x_iald X hG q67.1 q67.2.1 (n := 20) q67.2.2 g12 (by decide) dX9_event_75 ?_
      cases h
      exact hret _ _ _ _ _ _ (by decide) (by decide) rfl dX9_event_76 rfl hG hS
    replace h := xif_f h c11
    rcases Decidable.em (x2 = 3) with c13 | c13
    · replace h := xif_t h c13
      refine x_tblI (v := 3) (tgt := 77) X c13 (by decide) ⟨by decide, by decide⟩ dX9_event_6 rfl (by decide) ?_
      refine lv_aload_n X.1.1 X.1.2.1 dX9_event_77 rfl (lv_at hl 0 rfl) ?_
      refine x_getr X hG 13 6 0 54 (inC := iX9) rfl q0.1 q0.2 ⟨by decide, by decide, by decide, rfl, by decide, by decide⟩ w3 dX9_event_78 ?_
      refine x_getr X hG 11 16 54 14 (inC := iX7) rfl q54.1 q54.2 ⟨by decide, by decide, by decide, rfl, by decide, by decide⟩ w4 dX9_event_81 ?_
      refine lv_iload_n X.1.1 X.1.2.1 dX9_event_84 rfl (lv_at hl 1 rfl) ?_
      obtain ⟨g14, h⟩ := xgd_of h
      refine x_iald X hG q68.1 q68.2.1 (n := 20) q68.2.2 g14 (by decide) dX9_event_85 ?_
      refine x_iconst X dX9_event_86 ?_
      obtain ⟨g15, h⟩ := xgd_of h
      refine x_icmp_ne (tgt := 94) X g15 ⟨by decide, by decide⟩ dX9_event_87 (by decide) (fun c16 => ?_) (fun c16 => ?_)
      · replace h := xif_f h c16
        refine lv_aload_n X.1.1 X.1.2.1 dX9_event_94 rfl (lv_at hl 0 rfl) ?_
        refine lv_iload_n X.1.1 X.1.2.1 dX9_event_95 rfl (lv_at hl 1 rfl) ?_
        refine lv_iload_n X.1.1 X.1.2.1 dX9_event_96 rfl (lv_at hl 2 rfl) ?_
        obtain ⟨v17, u18, hf, h⟩ := xbd_of h
        refine x_callVi0 X hG hS (c_X9_located l t _ _ _ _ _ hf) (cwV 2 X.1.2.2.2.2 gX9_event_X9_located rfl rfl rfl hd_X9_located ⟨Nat.le_of_ble_eq_true rfl, Nat.le_of_ble_eq_true rfl⟩) q0.1 q0.2 rfl (by decide) (by rfl) hl.1 (Nat.le_of_ble_eq_true rfl) dX9_event_97 ⟨by decide, by decide⟩ rfl (fun H locs hG hS => ?_)
        cases h
        exact hret _ _ _ _ _ _ (by decide) (by decide) rfl dX9_event_100 rfl hG hS
      · replace h := xif_t h c16
        refine x_iconst X dX9_event_90 ?_
        refine lv_goto (tgt := 100) X.1.1 X.1.2.1 dX9_event_91 (by decide) ?_
        cases h
        exact hret _ _ _ _ _ _ (by decide) (by decide) rfl dX9_event_100 rfl hG hS
    replace h := xif_f h c13
    rcases Decidable.em (x2 = 4) with c19 | c19
    · replace h := xif_t h c19
      refine x_tblI (v := 4) (tgt := 77) X c19 (by decide) ⟨by decide, by decide⟩ dX9_event_6 rfl (by decide) ?_
      refine lv_aload_n X.1.1 X.1.2.1 dX9_event_77 rfl (lv_at hl 0 rfl) ?_
      refine x_getr X hG 13 6 0 54 (inC := iX9) rfl q0.1 q0.2 ⟨by decide, by decide, by decide, rfl, by decide, by decide⟩ w3 dX9_event_78 ?_
      refine x_getr X hG 11 16 54 14 (inC := iX7) rfl q54.1 q54.2 ⟨by decide, by decide, by decide, rfl, by decide, by decide⟩ w4 dX9_event_81 ?_
      refine lv_iload_n X.1.1 X.1.2.1 dX9_event_84 rfl (lv_at hl 1 rfl) ?_
      obtain ⟨g20, h⟩ := xgd_of h
      refine x_iald X hG q68.1 q68.2.1 (n := 20) q68.2.2 g20 (by decide) dX9_event_85 ?_
      refine x_iconst X dX9_event_86 ?_
      obtain ⟨g21, h⟩ := xgd_of h
      refine x_icmp_ne (tgt := 94) X g21 ⟨by decide, by decide⟩ dX9_event_87 (by decide) (fun c22 => ?_) (fun c22 => ?_)
      · replace h := xif_f h c22
        refine lv_aload_n X.1.1 X.1.2.1 dX9_event_94 rfl (lv_at hl 0 rfl) ?_
        refine lv_iload_n X.1.1 X.1.2.1 dX9_event_95 rfl (lv_at hl 1 rfl) ?_
        refine lv_iload_n X.1.1 X.1.2.1 dX9_event_96 rfl (lv_at hl 2 rfl) ?_
        obtain ⟨v23, u24, hf, h⟩ := xbd_of h
        refine x_callVi0 X hG hS (c_X9_located l t _ _ _ _ _ hf) (cwV 2 X.1.2.2.2.2 gX9_event_X9_located rfl rfl rfl hd_X9_located ⟨Nat.le_of_ble_eq_true rfl, Nat.le_of_ble_eq_true rfl⟩) q0.1 q0.2 rfl (by decide) (by rfl) hl.1 (Nat.le_of_ble_eq_true rfl) dX9_event_97 ⟨by decide, by decide⟩ rfl (fun H locs hG hS => ?_)
        cases h
        exact hret _ _ _ _ _ _ (by decide) (by decide) rfl dX9_event_100 rfl hG hS
      · replace h := xif_t h c22
        refine x_iconst X dX9_event_90 ?_
        refine lv_goto (tgt := 100) X.1.1 X.1.2.1 dX9_event_91 (by decide) ?_
        cases h
        exact hret _ _ _ _ _ _ (by decide) (by decide) rfl dX9_event_100 rfl hG hS
    replace h := xif_f h c19
    rcases Decidable.em (x2 = 5) with c25 | c25
    · replace h := xif_t h c25
      refine x_tblI (v := 5) (tgt := 77) X c25 (by decide) ⟨by decide, by decide⟩ dX9_event_6 rfl (by decide) ?_
      refine lv_aload_n X.1.1 X.1.2.1 dX9_event_77 rfl (lv_at hl 0 rfl) ?_
      refine x_getr X hG 13 6 0 54 (inC := iX9) rfl q0.1 q0.2 ⟨by decide, by decide, by decide, rfl, by decide, by decide⟩ w3 dX9_event_78 ?_
      refine x_getr X hG 11 16 54 14 (inC := iX7) rfl q54.1 q54.2 ⟨by decide, by decide, by decide, rfl, by decide, by decide⟩ w4 dX9_event_81 ?_
      refine lv_iload_n X.1.1 X.1.2.1 dX9_event_84 rfl (lv_at hl 1 rfl) ?_
      obtain ⟨g26, h⟩ := xgd_of h
      refine x_iald X hG q68.1 q68.2.1 (n := 20) q68.2.2 g26 (by decide) dX9_event_85 ?_
      refine x_iconst X dX9_event_86 ?_
      obtain ⟨g27, h⟩ := xgd_of h
      refine x_icmp_ne (tgt := 94) X g27 ⟨by decide, by decide⟩ dX9_event_87 (by decide) (fun c28 => ?_) (fun c28 => ?_)
      · replace h := xif_f h c28
        refine lv_aload_n X.1.1 X.1.2.1 dX9_event_94 rfl (lv_at hl 0 rfl) ?_
        refine lv_iload_n X.1.1 X.1.2.1 dX9_event_95 rfl (lv_at hl 1 rfl) ?_
        refine lv_iload_n X.1.1 X.1.2.1 dX9_event_96 rfl (lv_at hl 2 rfl) ?_
        obtain ⟨v29, u30, hf, h⟩ := xbd_of h
        refine x_callVi0 X hG hS (c_X9_located l t _ _ _ _ _ hf) (cwV 2 X.1.2.2.2.2 gX9_event_X9_located rfl rfl rfl hd_X9_located ⟨Nat.le_of_ble_eq_true rfl, Nat.le_of_ble_eq_true rfl⟩) q0.1 q0.2 rfl (by decide) (by rfl) hl.1 (Nat.le_of_ble_eq_true rfl) dX9_event_97 ⟨by decide, by decide⟩ rfl (fun H locs hG hS => ?_)
        cases h
        exact hret _ _ _ _ _ _ (by decide) (by decide) rfl dX9_event_100 rfl hG hS
      · replace h := xif_t h c28
        refine x_iconst X dX9_event_90 ?_
        refine lv_goto (tgt := 100) X.1.1 X.1.2.1 dX9_event_91 (by decide) ?_
        cases h
        exact hret _ _ _ _ _ _ (by decide) (by decide) rfl dX9_event_100 rfl hG hS
    replace h := xif_f h c25
    rcases Decidable.em (x2 = 6) with c31 | c31
    · replace h := xif_t h c31
      refine x_tblI (v := 6) (tgt := 77) X c31 (by decide) ⟨by decide, by decide⟩ dX9_event_6 rfl (by decide) ?_
      refine lv_aload_n X.1.1 X.1.2.1 dX9_event_77 rfl (lv_at hl 0 rfl) ?_
      refine x_getr X hG 13 6 0 54 (inC := iX9) rfl q0.1 q0.2 ⟨by decide, by decide, by decide, rfl, by decide, by decide⟩ w3 dX9_event_78 ?_
      refine x_getr X hG 11 16 54 14 (inC := iX7) rfl q54.1 q54.2 ⟨by decide, by decide, by decide, rfl, by decide, by decide⟩ w4 dX9_event_81 ?_
      refine lv_iload_n X.1.1 X.1.2.1 dX9_event_84 rfl (lv_at hl 1 rfl) ?_
      obtain ⟨g32, h⟩ := xgd_of h
      refine x_iald X hG q68.1 q68.2.1 (n := 20) q68.2.2 g32 (by decide) dX9_event_85 ?_
      refine x_iconst X dX9_event_86 ?_
      obtain ⟨g33, h⟩ := xgd_of h
      refine x_icmp_ne (tgt := 94) X g33 ⟨by decide, by decide⟩ dX9_event_87 (by decide) (fun c34 => ?_) (fun c34 => ?_)
      · replace h := xif_f h c34
        refine lv_aload_n X.1.1 X.1.2.1 dX9_event_94 rfl (lv_at hl 0 rfl) ?_
        refine lv_iload_n X.1.1 X.1.2.1 dX9_event_95 rfl (lv_at hl 1 rfl) ?_
        refine lv_iload_n X.1.1 X.1.2.1 dX9_event_96 rfl (lv_at hl 2 rfl) ?_
        obtain ⟨v35, u36, hf, h⟩ := xbd_of h
        refine x_callVi0 X hG hS (c_X9_located l t _ _ _ _ _ hf) (cwV 2 X.1.2.2.2.2 gX9_event_X9_located rfl rfl rfl hd_X9_located ⟨Nat.le_of_ble_eq_true rfl, Nat.le_of_ble_eq_true rfl⟩) q0.1 q0.2 rfl (by decide) (by rfl) hl.1 (Nat.le_of_ble_eq_true rfl) dX9_event_97 ⟨by decide, by decide⟩ rfl (fun H locs hG hS => ?_)
        cases h
        exact hret _ _ _ _ _ _ (by decide) (by decide) rfl dX9_event_100 rfl hG hS
      · replace h := xif_t h c34
        refine x_iconst X dX9_event_90 ?_
        refine lv_goto (tgt := 100) X.1.1 X.1.2.1 dX9_event_91 (by decide) ?_
        cases h
        exact hret _ _ _ _ _ _ (by decide) (by decide) rfl dX9_event_100 rfl hG hS
    replace h := xif_f h c31
    cases h
theorem hd_X9_event : yX9_event.cls = RX9 ∧ yX9_event.cls ≠ "java/lang/invoke/MethodHandle" ∧ yX9_event.cls ≠ "java/lang/invoke/VarHandle" ∧ (parseMethodDescriptor yX9_event.desc).map (fun d => d.parameters.length) = some 2 := by decide +kernel
abbrev rX9_needStanding : Room := { frames := 6, cells := 1, slots := 6, locals := 120 }
set_option maxRecDepth 100000 in
set_option maxHeartbeats 8000000 in
theorem c_X9_needStanding (l : Launch) (hfl : l.stackTraces = false) (t : gP) (x1 : Int) (u : uS) (g : Nat) (r : Int) (u' : uS) (h : f_X9_needStanding x1 u = some (g, r, u')) : xTv l yX9_needStanding wsX9_needStanding rX9_needStanding t [.ref (t.2.2.1 0), .int (iI x1)] u g u' 1 6 := by
  refine x_ofTv (cc := cX9_needStanding) (maxL := 2) (own := RX9) (by decide) rfl rfl (Nat.le_of_ble_eq_true rfl) ?_
  intro p e s m args below meth c Q hQ X hlk htab hret hxo H locs ls hG hS hl
  replace hl : lv_has ls 2 [(0, .ref (t.2.2.1 0)), (1, .int (iI x1))] := hl
  have q0 : 0 < NN ∧ sT 0 = 13 := by decide
  have iX9 : ∀ w ∈ wsX90, w ∈ wsX9_needStanding := by decide +kernel
  have w3 : Cond.fieldLink RX9 40 "TriggerNetwork" "now" "LTriggerNetwork$Situation;" ∈ wsX9_needStanding := x_w 3 rfl
  have q54 : 54 < NN ∧ sT 54 = 11 := by decide
  have iX7 : ∀ w ∈ wsX70, w ∈ wsX9_needStanding := by decide +kernel
  have w4 : Cond.fieldLink RX9 206 "TriggerNetwork$Situation" "retracted" "[I" ∈ wsX9_needStanding := x_w 4 rfl
  have q68 : 68 < NN ∧ sT 68 = 100 ∧ sN 68 = 20 := by decide
  have w1 : Cond.classLink RX9 296 "java/lang/IllegalStateException" ∈ wsX9_needStanding := x_w 1 rfl
  have w2 : Cond.initialized "java/lang/IllegalStateException" ∈ wsX9_needStanding := x_w 2 rfl
  unfold f_X9_needStanding at h
  refine lv_aload_n X.1.1 X.1.2.1 dX9_needStanding_0 rfl (lv_at hl 0 rfl) ?_
  refine x_getr X hG 13 6 0 54 (inC := iX9) rfl q0.1 q0.2 ⟨by decide, by decide, by decide, rfl, by decide, by decide⟩ w3 dX9_needStanding_1 ?_
  refine x_getr X hG 11 16 54 14 (inC := iX7) rfl q54.1 q54.2 ⟨by decide, by decide, by decide, rfl, by decide, by decide⟩ w4 dX9_needStanding_4 ?_
  refine lv_iload_n X.1.1 X.1.2.1 dX9_needStanding_7 rfl (lv_at hl 1 rfl) ?_
  obtain ⟨g1, h⟩ := xgd_of h
  refine x_iald X hG q68.1 q68.2.1 (n := 20) q68.2.2 g1 (by decide) dX9_needStanding_8 ?_
  refine x_iconst X dX9_needStanding_9 ?_
  obtain ⟨g2, h⟩ := xgd_of h
  refine x_icmp_ne (tgt := 24) X g2 ⟨by decide, by decide⟩ dX9_needStanding_10 (by decide) (fun c3 => ?_) (fun c3 => ?_)
  · replace h := xif_f h c3
    cases h
    exact hret _ _ _ _ _ _ (by decide) (by decide) rfl dX9_needStanding_24 hG hS
  · replace h := xif_t h c3
    cases h
    exact x_thrSW X hG hS hfl hlk htab hl.1 (g := 3) (by decide) hQ (by decide) w1 w2 (x_m 14 rfl) (fun w q => List.mem_cons_of_mem _ (List.mem_append_right _ q)) xng_3 xot_3 dX9_needStanding_13 dX9_needStanding_16 dX9_needStanding_17 dX9_needStanding_20 dX9_needStanding_23 (by decide) (by decide) (by decide) (by decide) (by decide) (by decide)
theorem hd_X9_needStanding : yX9_needStanding.cls = RX9 ∧ yX9_needStanding.cls ≠ "java/lang/invoke/MethodHandle" ∧ yX9_needStanding.cls ≠ "java/lang/invoke/VarHandle" ∧ (parseMethodDescriptor yX9_needStanding.desc).map (fun d => d.parameters.length) = some 1 := by decide +kernel
abbrev rX9_misfit : Room := { frames := 7, cells := 3, slots := 18, locals := 141 }
set_option maxRecDepth 100000 in
set_option maxHeartbeats 8000000 in
theorem c_X9_misfit (l : Launch) (hfl : l.stackTraces = false) (t : gP) (x1 : Int) (x2 : Int) (u : uS) (g : Nat) (r : Int) (u' : uS) (h : f_X9_misfit x1 x2 u = some (g, r, u')) : xTi l yX9_misfit wsX9_misfit rX9_misfit t [.ref (t.2.2.1 0), .int (iI x1), .int (iI x2)] u g r u' 3 18 := by
  refine x_ofTi (cc := cX9_misfit) (maxL := 3) (ret := .int) (own := RX9) (by decide) rfl rfl (Nat.le_of_ble_eq_true rfl) ?_
  intro p e s m args below meth c Q hQ X hlk htab hret hxo H locs ls hG hS hl
  replace hl : lv_has ls 3 [(0, .ref (t.2.2.1 0)), (1, .int (iI x1)), (2, .int (iI x2))] := hl
  have q0 : 0 < NN ∧ sT 0 = 13 := by decide
  have iX9 : ∀ w ∈ wsX90, w ∈ wsX9_misfit := by decide +kernel
  have w1 : Cond.fieldLink RX9 64 "TriggerNetwork" "locator" "LTriggerNetwork$Locator;" ∈ wsX9_misfit := x_w 1 rfl
  have q30 : 30 < NN ∧ sT 30 = 7 := by decide
  have w2 : Cond.fieldLink RX9 40 "TriggerNetwork" "now" "LTriggerNetwork$Situation;" ∈ wsX9_misfit := x_w 2 rfl
  have q54 : 54 < NN ∧ sT 54 = 11 := by decide
  have w3 : Cond.fieldLink RX9 30 "TriggerNetwork" "network" "LTriggerNetwork$Network;" ∈ wsX9_misfit := x_w 3 rfl
  have iX3 : ∀ w ∈ wsX30, w ∈ wsX9_misfit := by decide +kernel
  have w4 : Cond.fieldLink RX9 234 "TriggerNetwork$Locator" "misfit" "I" ∈ wsX9_misfit := x_w 4 rfl
  unfold f_X9_misfit at h
  refine lv_aload_n X.1.1 X.1.2.1 dX9_misfit_0 rfl (lv_at hl 0 rfl) ?_
  refine lv_iload_n X.1.1 X.1.2.1 dX9_misfit_1 rfl (lv_at hl 1 rfl) ?_
  obtain ⟨g3, v1, u2, hf, h⟩ := xbt_of h
  refine x_callVTv X hG hS (c_X9_needNode l hfl t _ _ _ _ _ hf) (cwV 1 X.1.2.2.2.2 gX9_misfit_X9_needNode rfl rfl rfl hd_X9_needNode ⟨Nat.le_of_ble_eq_true rfl, Nat.le_of_ble_eq_true rfl⟩) q0.1 q0.2 rfl (by decide) (by rfl) hl.1 (Nat.le_of_ble_eq_true rfl) dX9_misfit_2 ⟨by decide, by decide⟩ rfl (fun hg H locs ce q9 hG hS h7 h8 h9 => by rcases h with ⟨h0, _⟩ | ⟨_, h⟩; (exact absurd h0 hg); (cases h; exact hxo _ _ _ _ _ _ _ _ _ (by decide) (by decide) hg hG hS h7 h8 h9)) (fun hg H locs hG hS => ?_)
  replace h := (h.resolve_right (fun q => q.1 hg)).2
  refine lv_aload_n X.1.1 X.1.2.1 dX9_misfit_5 rfl (lv_at hl 0 rfl) ?_
  refine lv_iload_n X.1.1 X.1.2.1 dX9_misfit_6 rfl (lv_at hl 2 rfl) ?_
  obtain ⟨g6, v4, u5, hf, h⟩ := xbt_of h
  refine x_callVTv X hG hS (c_X9_needEvent l hfl t _ _ _ _ _ hf) (cwV 1 X.1.2.2.2.2 gX9_misfit_X9_needEvent rfl rfl rfl hd_X9_needEvent ⟨Nat.le_of_ble_eq_true rfl, Nat.le_of_ble_eq_true rfl⟩) q0.1 q0.2 rfl (by decide) (by rfl) hl.1 (Nat.le_of_ble_eq_true rfl) dX9_misfit_7 ⟨by decide, by decide⟩ rfl (fun hg H locs ce q9 hG hS h7 h8 h9 => by rcases h with ⟨h0, _⟩ | ⟨_, h⟩; (exact absurd h0 hg); (cases h; exact hxo _ _ _ _ _ _ _ _ _ (by decide) (by decide) hg hG hS h7 h8 h9)) (fun hg H locs hG hS => ?_)
  replace h := (h.resolve_right (fun q => q.1 hg)).2
  refine lv_aload_n X.1.1 X.1.2.1 dX9_misfit_10 rfl (lv_at hl 0 rfl) ?_
  refine lv_iload_n X.1.1 X.1.2.1 dX9_misfit_11 rfl (lv_at hl 2 rfl) ?_
  obtain ⟨g9, v7, u8, hf, h⟩ := xbt_of h
  refine x_callVTv X hG hS (c_X9_needStanding l hfl t _ _ _ _ _ hf) (cwV 1 X.1.2.2.2.2 gX9_misfit_X9_needStanding rfl rfl rfl hd_X9_needStanding ⟨Nat.le_of_ble_eq_true rfl, Nat.le_of_ble_eq_true rfl⟩) q0.1 q0.2 rfl (by decide) (by rfl) hl.1 (Nat.le_of_ble_eq_true rfl) dX9_misfit_12 ⟨by decide, by decide⟩ rfl (fun hg H locs ce q9 hG hS h7 h8 h9 => by rcases h with ⟨h0, _⟩ | ⟨_, h⟩; (exact absurd h0 hg); (cases h; exact hxo _ _ _ _ _ _ _ _ _ (by decide) (by decide) hg hG hS h7 h8 h9)) (fun hg H locs hG hS => ?_)
  replace h := (h.resolve_right (fun q => q.1 hg)).2
  refine lv_aload_n X.1.1 X.1.2.1 dX9_misfit_15 rfl (lv_at hl 0 rfl) ?_
  refine x_getr X hG 13 10 0 30 (inC := iX9) rfl q0.1 q0.2 ⟨by decide, by decide, by decide, rfl, by decide, by decide⟩ w1 dX9_misfit_16 ?_
  refine lv_aload_n X.1.1 X.1.2.1 dX9_misfit_19 rfl (lv_at hl 0 rfl) ?_
  refine x_getr X hG 13 6 0 54 (inC := iX9) rfl q0.1 q0.2 ⟨by decide, by decide, by decide, rfl, by decide, by decide⟩ w2 dX9_misfit_20 ?_
  refine lv_iload_n X.1.1 X.1.2.1 dX9_misfit_23 rfl (lv_at hl 2 rfl) ?_
  obtain ⟨v10, u11, hf, h⟩ := xbd_of h
  refine x_callVv0 X hG hS (c_X3_gather l t _ _ _ _ _ hf) (cwV 2 X.1.2.2.2.2 gX9_misfit_X3_gather rfl rfl rfl hd_X3_gather ⟨Nat.le_of_ble_eq_true rfl, Nat.le_of_ble_eq_true rfl⟩) q30.1 q30.2 rfl (by decide) (by rfl) hl.1 (Nat.le_of_ble_eq_true rfl) dX9_misfit_24 ⟨by decide, by decide⟩ rfl (fun H locs hG hS => ?_)
  refine lv_aload_n X.1.1 X.1.2.1 dX9_misfit_27 rfl (lv_at hl 0 rfl) ?_
  refine x_getr X hG 13 10 0 30 (inC := iX9) rfl q0.1 q0.2 ⟨by decide, by decide, by decide, rfl, by decide, by decide⟩ w1 dX9_misfit_28 ?_
  refine lv_aload_n X.1.1 X.1.2.1 dX9_misfit_31 rfl (lv_at hl 0 rfl) ?_
  obtain ⟨n12, en12, h⟩ := xlet_of h
  refine x_getd X hG 13 4 0 4 (inC := iX9) rfl q0.1 q0.2 ⟨by decide, by decide, by decide, rfl, rfl⟩ en12 w3 dX9_misfit_32 ?_
  obtain ⟨g13, h⟩ := xgd_of h
  refine lv_aload_n X.1.1 X.1.2.1 dX9_misfit_35 rfl (lv_at hl 0 rfl) ?_
  refine x_getr X hG 13 6 0 54 (inC := iX9) rfl q0.1 q0.2 ⟨by decide, by decide, by decide, rfl, by decide, by decide⟩ w2 dX9_misfit_36 ?_
  refine lv_iload_n X.1.1 X.1.2.1 dX9_misfit_39 rfl (lv_at hl 1 rfl) ?_
  obtain ⟨v14, u15, hf, h⟩ := xbd_of h
  refine x_callVv0 X hG hS (c_X3_weigh l t _ _ _ _ _ _ hf) (cwV 3 X.1.2.2.2.2 gX9_misfit_X3_weigh rfl rfl rfl hd_X3_weigh ⟨Nat.le_of_ble_eq_true rfl, Nat.le_of_ble_eq_true rfl⟩) q30.1 q30.2 rfl (by decide) (by rfl) hl.1 (Nat.le_of_ble_eq_true rfl) dX9_misfit_40 ⟨by decide, by decide⟩ rfl (fun H locs hG hS => ?_)
  refine lv_aload_n X.1.1 X.1.2.1 dX9_misfit_43 rfl (lv_at hl 0 rfl) ?_
  refine x_getr X hG 13 10 0 30 (inC := iX9) rfl q0.1 q0.2 ⟨by decide, by decide, by decide, rfl, by decide, by decide⟩ w1 dX9_misfit_44 ?_
  refine x_geti X hG 7 3 30 3 (inC := iX3) rfl q30.1 q30.2 ⟨by decide, by decide, by decide, rfl, rfl⟩ w4 dX9_misfit_47 ?_
  cases h
  exact hret _ _ _ _ _ _ (by decide) (by decide) rfl dX9_misfit_50 rfl hG hS
theorem hd_X9_misfit : yX9_misfit.cls = RX9 ∧ yX9_misfit.cls ≠ "java/lang/invoke/MethodHandle" ∧ yX9_misfit.cls ≠ "java/lang/invoke/VarHandle" ∧ (parseMethodDescriptor yX9_misfit.desc).map (fun d => d.parameters.length) = some 2 := by decide +kernel
abbrev rX9_needLevel : Room := { frames := 6, cells := 1, slots := 6, locals := 120 }
set_option maxRecDepth 100000 in
set_option maxHeartbeats 8000000 in
theorem c_X9_needLevel (l : Launch) (hfl : l.stackTraces = false) (t : gP) (x1 : Int) (u : uS) (g : Nat) (r : Int) (u' : uS) (h : f_X9_needLevel x1 u = some (g, r, u')) : xTv l yX9_needLevel wsX9_needLevel rX9_needLevel t [.ref (t.2.2.1 0), .int (iI x1)] u g u' 1 6 := by
  refine x_ofTv (cc := cX9_needLevel) (maxL := 2) (own := RX9) (by decide) rfl rfl (Nat.le_of_ble_eq_true rfl) ?_
  intro p e s m args below meth c Q hQ X hlk htab hret hxo H locs ls hG hS hl
  replace hl : lv_has ls 2 [(0, .ref (t.2.2.1 0)), (1, .int (iI x1))] := hl
  have q0 : 0 < NN ∧ sT 0 = 13 := by decide
  have w1 : Cond.classLink RX9 79 "java/lang/IllegalArgumentException" ∈ wsX9_needLevel := x_w 1 rfl
  have w2 : Cond.initialized "java/lang/IllegalArgumentException" ∈ wsX9_needLevel := x_w 2 rfl
  unfold f_X9_needLevel at h
  refine lv_iload_n X.1.1 X.1.2.1 dX9_needLevel_0 rfl (lv_at hl 1 rfl) ?_
  obtain ⟨g1, h⟩ := xgd_of h
  obtain ⟨j2, ej2, h⟩ := xlet_of h
  have Jj2 : ∀ (u3 : uS), j2 u3 = some (g, r, u') → xG p l e rX9_needLevel s m args below meth c t Q 2 0 0 11 u3 [] [] := by
      intro u3 h H locs ls hG hS hl
      replace h := (congrFun ej2 u3).symm.trans h
      cases h
      exact x_thrSW X hG hS hfl hlk htab hl.1 (g := 2) (by decide) hQ (by decide) w1 w2 (x_m 11 rfl) (fun w q => List.mem_cons_of_mem _ (List.mem_append_right _ q)) xng_2 xot_2 dX9_needLevel_11 dX9_needLevel_14 dX9_needLevel_15 dX9_needLevel_18 dX9_needLevel_21 (by decide) (by decide) (by decide) (by decide) (by decide) (by decide)
  refine x_if_lt (tgt := 11) X g1 dX9_needLevel_1 (by decide) (fun c4 => ?_) (fun c4 => ?_)
  · replace h := xif_t h c4
    exact Jj2 _ h _ _ _ hG hS (lv_sub hl [] rfl)
  · replace h := xif_f h c4
    refine lv_iload_n X.1.1 X.1.2.1 dX9_needLevel_4 rfl (lv_at hl 1 rfl) ?_
    refine x_sipush X dX9_needLevel_5 (by decide) ?_
    obtain ⟨g5, h⟩ := xgd_of h
    refine x_icmp_le (tgt := 22) X g5 ⟨by decide, by decide⟩ dX9_needLevel_8 (by decide) (fun c6 => ?_) (fun c6 => ?_)
    · replace h := xif_t h c6
      cases h
      exact hret _ _ _ _ _ _ (by decide) (by decide) rfl dX9_needLevel_22 hG hS
    · replace h := xif_f h c6
      exact Jj2 _ h _ _ _ hG hS (lv_sub hl [] rfl)
theorem hd_X9_needLevel : yX9_needLevel.cls = RX9 ∧ yX9_needLevel.cls ≠ "java/lang/invoke/MethodHandle" ∧ yX9_needLevel.cls ≠ "java/lang/invoke/VarHandle" ∧ (parseMethodDescriptor yX9_needLevel.desc).map (fun d => d.parameters.length) = some 1 := by decide +kernel
abbrev rX9_setLevel : Room := { frames := 7, cells := 2, slots := 12, locals := 141 }
set_option maxRecDepth 100000 in
set_option maxHeartbeats 8000000 in
theorem c_X9_setLevel (l : Launch) (hfl : l.stackTraces = false) (t : gP) (x1 : Int) (x2 : Int) (u : uS) (g : Nat) (r : Int) (u' : uS) (h : f_X9_setLevel x1 x2 u = some (g, r, u')) : xTi l yX9_setLevel wsX9_setLevel rX9_setLevel t [.ref (t.2.2.1 0), .int (iI x1), .int (iI x2)] u g r u' 2 12 := by
  refine x_ofTi (cc := cX9_setLevel) (maxL := 4) (ret := .int) (own := RX9) (by decide) rfl rfl (Nat.le_of_ble_eq_true rfl) ?_
  intro p e s m args below meth c Q hQ X hlk htab hret hxo H locs ls hG hS hl
  replace hl : lv_has ls 4 [(0, .ref (t.2.2.1 0)), (1, .int (iI x1)), (2, .int (iI x2))] := hl
  have q0 : 0 < NN ∧ sT 0 = 13 := by decide
  have iX9 : ∀ w ∈ wsX90, w ∈ wsX9_setLevel := by decide +kernel
  have w1 : Cond.fieldLink RX9 50 "TriggerNetwork" "memory" "LTriggerNetwork$Memory;" ∈ wsX9_setLevel := x_w 1 rfl
  have q33 : 33 < NN ∧ sT 33 = 8 := by decide
  have w2 : Cond.fieldLink RX9 40 "TriggerNetwork" "now" "LTriggerNetwork$Situation;" ∈ wsX9_setLevel := x_w 2 rfl
  have q54 : 54 < NN ∧ sT 54 = 11 := by decide
  have iX7 : ∀ w ∈ wsX70, w ∈ wsX9_setLevel := by decide +kernel
  have w3 : Cond.fieldLink RX9 156 "TriggerNetwork$Situation" "levels" "[I" ∈ wsX9_setLevel := x_w 3 rfl
  have q55 : 55 < NN ∧ sT 55 = 100 ∧ sN 55 = 8 := by decide
  unfold f_X9_setLevel at h
  refine lv_aload_n X.1.1 X.1.2.1 dX9_setLevel_0 rfl (lv_at hl 0 rfl) ?_
  refine lv_iload_n X.1.1 X.1.2.1 dX9_setLevel_1 rfl (lv_at hl 1 rfl) ?_
  obtain ⟨g3, v1, u2, hf, h⟩ := xbt_of h
  refine x_callVTv X hG hS (c_X9_needStation l hfl t _ _ _ _ _ hf) (cwV 1 X.1.2.2.2.2 gX9_setLevel_X9_needStation rfl rfl rfl hd_X9_needStation ⟨Nat.le_of_ble_eq_true rfl, Nat.le_of_ble_eq_true rfl⟩) q0.1 q0.2 rfl (by decide) (by rfl) hl.1 (Nat.le_of_ble_eq_true rfl) dX9_setLevel_2 ⟨by decide, by decide⟩ rfl (fun hg H locs ce q9 hG hS h7 h8 h9 => by rcases h with ⟨h0, _⟩ | ⟨_, h⟩; (exact absurd h0 hg); (cases h; exact hxo _ _ _ _ _ _ _ _ _ (by decide) (by decide) hg hG hS h7 h8 h9)) (fun hg H locs hG hS => ?_)
  replace h := (h.resolve_right (fun q => q.1 hg)).2
  refine lv_aload_n X.1.1 X.1.2.1 dX9_setLevel_5 rfl (lv_at hl 0 rfl) ?_
  refine lv_iload_n X.1.1 X.1.2.1 dX9_setLevel_6 rfl (lv_at hl 2 rfl) ?_
  obtain ⟨g6, v4, u5, hf, h⟩ := xbt_of h
  refine x_callVTv X hG hS (c_X9_needLevel l hfl t _ _ _ _ _ hf) (cwV 1 X.1.2.2.2.2 gX9_setLevel_X9_needLevel rfl rfl rfl hd_X9_needLevel ⟨Nat.le_of_ble_eq_true rfl, Nat.le_of_ble_eq_true rfl⟩) q0.1 q0.2 rfl (by decide) (by rfl) hl.1 (Nat.le_of_ble_eq_true rfl) dX9_setLevel_7 ⟨by decide, by decide⟩ rfl (fun hg H locs ce q9 hG hS h7 h8 h9 => by rcases h with ⟨h0, _⟩ | ⟨_, h⟩; (exact absurd h0 hg); (cases h; exact hxo _ _ _ _ _ _ _ _ _ (by decide) (by decide) hg hG hS h7 h8 h9)) (fun hg H locs hG hS => ?_)
  replace h := (h.resolve_right (fun q => q.1 hg)).2
  refine lv_aload_n X.1.1 X.1.2.1 dX9_setLevel_10 rfl (lv_at hl 0 rfl) ?_
  refine x_getr X hG 13 8 0 33 (inC := iX9) rfl q0.1 q0.2 ⟨by decide, by decide, by decide, rfl, by decide, by decide⟩ w1 dX9_setLevel_11 ?_
  refine lv_aload_n X.1.1 X.1.2.1 dX9_setLevel_14 rfl (lv_at hl 0 rfl) ?_
  refine x_getr X hG 13 6 0 54 (inC := iX9) rfl q0.1 q0.2 ⟨by decide, by decide, by decide, rfl, by decide, by decide⟩ w2 dX9_setLevel_15 ?_
  obtain ⟨v7, u8, hf, h⟩ := xbd_of h
  refine x_callVv0 X hG hS (c_X4_remember l t _ _ _ _ hf) (cwV 1 X.1.2.2.2.2 gX9_setLevel_X4_remember rfl rfl rfl hd_X4_remember ⟨Nat.le_of_ble_eq_true rfl, Nat.le_of_ble_eq_true rfl⟩) q33.1 q33.2 rfl (by decide) (by rfl) hl.1 (Nat.le_of_ble_eq_true rfl) dX9_setLevel_18 ⟨by decide, by decide⟩ rfl (fun H locs hG hS => ?_)
  refine lv_aload_n X.1.1 X.1.2.1 dX9_setLevel_21 rfl (lv_at hl 0 rfl) ?_
  refine x_getr X hG 13 6 0 54 (inC := iX9) rfl q0.1 q0.2 ⟨by decide, by decide, by decide, rfl, by decide, by decide⟩ w2 dX9_setLevel_22 ?_
  refine x_getr X hG 11 3 54 1 (inC := iX7) rfl q54.1 q54.2 ⟨by decide, by decide, by decide, rfl, by decide, by decide⟩ w3 dX9_setLevel_25 ?_
  refine lv_iload_n X.1.1 X.1.2.1 dX9_setLevel_28 rfl (lv_at hl 1 rfl) ?_
  obtain ⟨g9, h⟩ := xgd_of h
  refine x_iald X hG q55.1 q55.2.1 (n := 8) q55.2.2 g9 (by decide) dX9_setLevel_29 ?_
  refine x_name (fun x3_10 ex3_10 => ?_)
  replace h := xlet_at ex3_10 h
  refine lv_istore_n (lv' := [(3, .int (iI x3_10)), (0, .ref (t.2.2.1 0)), (1, .int (iI x1)), (2, .int (iI x2))]) X.1.1 X.1.2.1 dX9_setLevel_30 rfl hl (by decide) rfl (fun ls hl => ?_)
  refine lv_aload_n X.1.1 X.1.2.1 dX9_setLevel_31 rfl (lv_at hl 1 rfl) ?_
  refine x_getr X hG 13 6 0 54 (inC := iX9) rfl q0.1 q0.2 ⟨by decide, by decide, by decide, rfl, by decide, by decide⟩ w2 dX9_setLevel_32 ?_
  refine x_getr X hG 11 3 54 1 (inC := iX7) rfl q54.1 q54.2 ⟨by decide, by decide, by decide, rfl, by decide, by decide⟩ w3 dX9_setLevel_35 ?_
  refine lv_iload_n X.1.1 X.1.2.1 dX9_setLevel_38 rfl (lv_at hl 2 rfl) ?_
  refine lv_iload_n X.1.1 X.1.2.1 dX9_setLevel_39 rfl (lv_at hl 3 rfl) ?_
  obtain ⟨g11, h⟩ := xgd_of h
  refine x_iast X hG hS q55.1 q55.2.1 (n := 8) q55.2.2 g11 (by decide) dX9_setLevel_40 (fun H locs hG hS => ?_)
  obtain ⟨u12, eu12, h⟩ := xlet_of h
  replace hG : G t u12 H := by rw [eu12]; exact hG
  refine lv_iload_n X.1.1 X.1.2.1 dX9_setLevel_41 rfl (lv_at hl 0 rfl) ?_
  cases h
  exact hret _ _ _ _ _ _ (by decide) (by decide) rfl dX9_setLevel_42 rfl hG hS
theorem hd_X9_setLevel : yX9_setLevel.cls = RX9 ∧ yX9_setLevel.cls ≠ "java/lang/invoke/MethodHandle" ∧ yX9_setLevel.cls ≠ "java/lang/invoke/VarHandle" ∧ (parseMethodDescriptor yX9_setLevel.desc).map (fun d => d.parameters.length) = some 2 := by decide +kernel
abbrev rX9_needTicks : Room := { frames := 6, cells := 1, slots := 6, locals := 120 }
set_option maxRecDepth 100000 in
set_option maxHeartbeats 8000000 in
theorem c_X9_needTicks (l : Launch) (hfl : l.stackTraces = false) (t : gP) (x1 : Int) (x2 : Int) (u : uS) (g : Nat) (r : Int) (u' : uS) (h : f_X9_needTicks x1 x2 u = some (g, r, u')) : xTv l yX9_needTicks wsX9_needTicks rX9_needTicks t [.ref (t.2.2.1 0), .int (iI x1), .int (iI x2)] u g u' 1 6 := by
  refine x_ofTv (cc := cX9_needTicks) (maxL := 3) (own := RX9) (by decide) rfl rfl (Nat.le_of_ble_eq_true rfl) ?_
  intro p e s m args below meth c Q hQ X hlk htab hret hxo H locs ls hG hS hl
  replace hl : lv_has ls 3 [(0, .ref (t.2.2.1 0)), (1, .int (iI x1)), (2, .int (iI x2))] := hl
  have q0 : 0 < NN ∧ sT 0 = 13 := by decide
  have w1 : Cond.classLink RX9 79 "java/lang/IllegalArgumentException" ∈ wsX9_needTicks := x_w 1 rfl
  have w2 : Cond.initialized "java/lang/IllegalArgumentException" ∈ wsX9_needTicks := x_w 2 rfl
  unfold f_X9_needTicks at h
  refine lv_iload_n X.1.1 X.1.2.1 dX9_needTicks_0 rfl (lv_at hl 2 rfl) ?_
  refine lv_iload_n X.1.1 X.1.2.1 dX9_needTicks_1 rfl (lv_at hl 1 rfl) ?_
  obtain ⟨g1, h⟩ := xgd_of h
  obtain ⟨j2, ej2, h⟩ := xlet_of h
  have Jj2 : ∀ (u3 : uS), j2 u3 = some (g, r, u') → xG p l e rX9_needTicks s m args below meth c t Q 3 0 0 12 u3 [] [] := by
      intro u3 h H locs ls hG hS hl
      replace h := (congrFun ej2 u3).symm.trans h
      cases h
      exact x_thrSW X hG hS hfl hlk htab hl.1 (g := 2) (by decide) hQ (by decide) w1 w2 (x_m 12 rfl) (fun w q => List.mem_cons_of_mem _ (List.mem_append_right _ q)) xng_2 xot_2 dX9_needTicks_12 dX9_needTicks_15 dX9_needTicks_16 dX9_needTicks_19 dX9_needTicks_22 (by decide) (by decide) (by decide) (by decide) (by decide) (by decide)
  refine x_icmp_lt (tgt := 12) X g1.1 g1.2 dX9_needTicks_2 (by decide) (fun c4 => ?_) (fun c4 => ?_)
  · replace h := xif_t h c4
    exact Jj2 _ h _ _ _ hG hS (lv_sub hl [] rfl)
  · replace h := xif_f h c4
    refine lv_iload_n X.1.1 X.1.2.1 dX9_needTicks_5 rfl (lv_at hl 2 rfl) ?_
    refine x_sipush X dX9_needTicks_6 (by decide) ?_
    obtain ⟨g5, h⟩ := xgd_of h
    refine x_icmp_le (tgt := 23) X g5 ⟨by decide, by decide⟩ dX9_needTicks_9 (by decide) (fun c6 => ?_) (fun c6 => ?_)
    · replace h := xif_t h c6
      cases h
      exact hret _ _ _ _ _ _ (by decide) (by decide) rfl dX9_needTicks_23 hG hS
    · replace h := xif_f h c6
      exact Jj2 _ h _ _ _ hG hS (lv_sub hl [] rfl)
theorem hd_X9_needTicks : yX9_needTicks.cls = RX9 ∧ yX9_needTicks.cls ≠ "java/lang/invoke/MethodHandle" ∧ yX9_needTicks.cls ≠ "java/lang/invoke/VarHandle" ∧ (parseMethodDescriptor yX9_needTicks.desc).map (fun d => d.parameters.length) = some 2 := by decide +kernel
abbrev rX9_pass : Room := { frames := 7, cells := 2, slots := 12, locals := 180 }
set_option maxRecDepth 100000 in
set_option maxHeartbeats 8000000 in
theorem c_X9_pass (l : Launch) (hfl : l.stackTraces = false) (t : gP) (x1 : Int) (u : uS) (g : Nat) (r : Int) (u' : uS) (h : f_X9_pass x1 u = some (g, r, u')) : xTi l yX9_pass wsX9_pass rX9_pass t [.ref (t.2.2.1 0), .int (iI x1)] u g r u' 2 12 := by
  refine x_ofTi (cc := cX9_pass) (maxL := 4) (ret := .int) (own := RX9) (by decide) rfl rfl (Nat.le_of_ble_eq_true rfl) ?_
  intro p e s m args below meth c Q hQ X hlk htab hret hxo H locs ls hG hS hl
  replace hl : lv_has ls 4 [(0, .ref (t.2.2.1 0)), (1, .int (iI x1))] := hl
  have q0 : 0 < NN ∧ sT 0 = 13 := by decide
  have iX9 : ∀ w ∈ wsX90, w ∈ wsX9_pass := by decide +kernel
  have w3 : Cond.fieldLink RX9 40 "TriggerNetwork" "now" "LTriggerNetwork$Situation;" ∈ wsX9_pass := x_w 3 rfl
  have q54 : 54 < NN ∧ sT 54 = 11 := by decide
  have iX7 : ∀ w ∈ wsX70, w ∈ wsX9_pass := by decide +kernel
  have w4 : Cond.fieldLink RX9 127 "TriggerNetwork$Situation" "tick" "I" ∈ wsX9_pass := x_w 4 rfl
  have w5 : Cond.fieldLink RX9 50 "TriggerNetwork" "memory" "LTriggerNetwork$Memory;" ∈ wsX9_pass := x_w 5 rfl
  have q33 : 33 < NN ∧ sT 33 = 8 := by decide
  have w6 : Cond.fieldLink RX9 116 "TriggerNetwork$Situation" "pickCount" "I" ∈ wsX9_pass := x_w 6 rfl
  have w7 : Cond.fieldLink RX9 57 "TriggerNetwork" "engine" "LTriggerNetwork$Engine;" ∈ wsX9_pass := x_w 7 rfl
  have q28 : 28 < NN ∧ sT 28 = 4 := by decide
  have w8 : Cond.fieldLink RX9 30 "TriggerNetwork" "network" "LTriggerNetwork$Network;" ∈ wsX9_pass := x_w 8 rfl
  have w1 : Cond.classLink RX9 296 "java/lang/IllegalStateException" ∈ wsX9_pass := x_w 1 rfl
  have w2 : Cond.initialized "java/lang/IllegalStateException" ∈ wsX9_pass := x_w 2 rfl
  unfold f_X9_pass at h
  refine lv_aload_n X.1.1 X.1.2.1 dX9_pass_0 rfl (lv_at hl 0 rfl) ?_
  refine x_iconst X dX9_pass_1 ?_
  refine lv_iload_n X.1.1 X.1.2.1 dX9_pass_2 rfl (lv_at hl 1 rfl) ?_
  obtain ⟨g3, v1, u2, hf, h⟩ := xbt_of h
  refine x_callVTv X hG hS (c_X9_needTicks l hfl t _ _ _ _ _ _ hf) (cwV 2 X.1.2.2.2.2 gX9_pass_X9_needTicks rfl rfl rfl hd_X9_needTicks ⟨Nat.le_of_ble_eq_true rfl, Nat.le_of_ble_eq_true rfl⟩) q0.1 q0.2 rfl (by decide) (by rfl) hl.1 (Nat.le_of_ble_eq_true rfl) dX9_pass_3 ⟨by decide, by decide⟩ rfl (fun hg H locs ce q9 hG hS h7 h8 h9 => by rcases h with ⟨h0, _⟩ | ⟨_, h⟩; (exact absurd h0 hg); (cases h; exact hxo _ _ _ _ _ _ _ _ _ (by decide) (by decide) hg hG hS h7 h8 h9)) (fun hg H locs hG hS => ?_)
  replace h := (h.resolve_right (fun q => q.1 hg)).2
  refine lv_aload_n X.1.1 X.1.2.1 dX9_pass_6 rfl (lv_at hl 0 rfl) ?_
  refine x_getr X hG 13 6 0 54 (inC := iX9) rfl q0.1 q0.2 ⟨by decide, by decide, by decide, rfl, by decide, by decide⟩ w3 dX9_pass_7 ?_
  refine x_geti X hG 11 0 54 0 (inC := iX7) rfl q54.1 q54.2 ⟨by decide, by decide, by decide, rfl, rfl⟩ w4 dX9_pass_10 ?_
  refine lv_iload_n X.1.1 X.1.2.1 dX9_pass_13 rfl (lv_at hl 1 rfl) ?_
  refine x_iadd X dX9_pass_14 ?_
  refine x_sipush X dX9_pass_15 (by decide) ?_
  obtain ⟨g4, h⟩ := xgd_of h
  refine x_icmp_le (tgt := 32) X g4 ⟨by decide, by decide⟩ dX9_pass_18 (by decide) (fun c5 => ?_) (fun c5 => ?_)
  · replace h := xif_t h c5
    refine lv_aload_n X.1.1 X.1.2.1 dX9_pass_32 rfl (lv_at hl 0 rfl) ?_
    refine x_getr X hG 13 8 0 33 (inC := iX9) rfl q0.1 q0.2 ⟨by decide, by decide, by decide, rfl, by decide, by decide⟩ w5 dX9_pass_33 ?_
    refine lv_aload_n X.1.1 X.1.2.1 dX9_pass_36 rfl (lv_at hl 0 rfl) ?_
    refine x_getr X hG 13 6 0 54 (inC := iX9) rfl q0.1 q0.2 ⟨by decide, by decide, by decide, rfl, by decide, by decide⟩ w3 dX9_pass_37 ?_
    obtain ⟨v6, u7, hf, h⟩ := xbd_of h
    refine x_callVv0 X hG hS (c_X4_remember l t _ _ _ _ hf) (cwV 1 X.1.2.2.2.2 gX9_pass_X4_remember rfl rfl rfl hd_X4_remember ⟨Nat.le_of_ble_eq_true rfl, Nat.le_of_ble_eq_true rfl⟩) q33.1 q33.2 rfl (by decide) (by rfl) hl.1 (Nat.le_of_ble_eq_true rfl) dX9_pass_40 ⟨by decide, by decide⟩ rfl (fun H locs hG hS => ?_)
    refine lv_aload_n X.1.1 X.1.2.1 dX9_pass_43 rfl (lv_at hl 0 rfl) ?_
    refine x_getr X hG 13 6 0 54 (inC := iX9) rfl q0.1 q0.2 ⟨by decide, by decide, by decide, rfl, by decide, by decide⟩ w3 dX9_pass_44 ?_
    refine x_geti X hG 11 1 54 1 (inC := iX7) rfl q54.1 q54.2 ⟨by decide, by decide, by decide, rfl, rfl⟩ w6 dX9_pass_47 ?_
    refine x_name (fun x2_8 ex2_8 => ?_)
    replace h := xlet_at ex2_8 h
    refine lv_istore_n (lv' := [(2, .int (iI x2_8)), (0, .ref (t.2.2.1 0)), (1, .int (iI x1))]) X.1.1 X.1.2.1 dX9_pass_50 rfl hl (by decide) rfl (fun ls hl => ?_)
    refine x_iconst X dX9_pass_51 ?_
    refine lv_istore_n (lv' := [(3, .int (iI 0)), (2, .int (iI x2_8)), (0, .ref (t.2.2.1 0)), (1, .int (iI x1))]) X.1.1 X.1.2.1 dX9_pass_52 rfl hl (by decide) rfl (fun ls hl => ?_)
    obtain ⟨j9, ej9, h⟩ := xlet_of h
    have Jj9 : ∀ (u10 : uS), j9 u10 = some (g, r, u') → xG p l e rX9_pass s m args below meth c t Q 4 1 6 79 u10 [(0, .ref (t.2.2.1 0)), (2, .int (iI x2_8))] [] := by
        intro u10 h H locs ls hG hS hl
        replace h := (congrFun ej9 u10).symm.trans h
        refine lv_aload_n X.1.1 X.1.2.1 dX9_pass_79 rfl (lv_at hl 0 rfl) ?_
        refine x_getr X hG 13 6 0 54 (inC := iX9) rfl q0.1 q0.2 ⟨by decide, by decide, by decide, rfl, by decide, by decide⟩ w3 dX9_pass_80 ?_
        refine x_geti X hG 11 1 54 1 (inC := iX7) rfl q54.1 q54.2 ⟨by decide, by decide, by decide, rfl, rfl⟩ w6 dX9_pass_83 ?_
        refine lv_iload_n X.1.1 X.1.2.1 dX9_pass_86 rfl (lv_at hl 1 rfl) ?_
        refine x_isub X dX9_pass_87 ?_
        cases h
        exact hret _ _ _ _ _ _ (by decide) (by decide) rfl dX9_pass_88 rfl hG hS
    have Lgo11 : ∀ (n : Nat) (x3_12 : Int) (u13 : uS), xl2 (s_X9_pass_53 x1 j9) n x3_12 u13 = some (g, r, u') → xG p l e rX9_pass s m args below meth c t Q 4 1 6 53 u13 [(3, .int (iI x3_12)), (0, .ref (t.2.2.1 0)), (1, .int (iI x1)), (2, .int (iI x2_8))] [] := by
      intro n x3_12 u13 h
      refine xl2_W (F := s_X9_pass_53 x1 j9) (fun x3_12 u13 q => q = (g, r, u') → xG p l e rX9_pass s m args below meth c t Q 4 1 6 53 u13 [(3, .int (iI x3_12)), (0, .ref (t.2.2.1 0)), (1, .int (iI x1)), (2, .int (iI x2_8))] []) ?_ n x3_12 u13 _ h rfl
      intro go11 igo11 x3_12 u13 q h hq H locs ls hG hS hl
      subst hq
      unfold s_X9_pass_53 at h
      refine lv_iload_n X.1.1 X.1.2.1 dX9_pass_53 rfl (lv_at hl 0 rfl) ?_
      refine lv_iload_n X.1.1 X.1.2.1 dX9_pass_54 rfl (lv_at hl 2 rfl) ?_
      obtain ⟨g14, h⟩ := xgd_of h
      refine x_icmp_ge (tgt := 79) X g14.1 g14.2 dX9_pass_55 (by decide) (fun c15 => ?_) (fun c15 => ?_)
      · replace h := xif_t h c15
        exact Jj9 _ h _ _ _ hG hS (lv_sub hl [1, 3] rfl)
      · replace h := xif_f h c15
        refine lv_aload_n X.1.1 X.1.2.1 dX9_pass_58 rfl (lv_at hl 1 rfl) ?_
        refine x_getr X hG 13 9 0 28 (inC := iX9) rfl q0.1 q0.2 ⟨by decide, by decide, by decide, rfl, by decide, by decide⟩ w7 dX9_pass_59 ?_
        refine lv_aload_n X.1.1 X.1.2.1 dX9_pass_62 rfl (lv_at hl 1 rfl) ?_
        obtain ⟨n16, en16, h⟩ := xlet_of h
        refine x_getd X hG 13 4 0 4 (inC := iX9) rfl q0.1 q0.2 ⟨by decide, by decide, by decide, rfl, rfl⟩ en16 w8 dX9_pass_63 ?_
        obtain ⟨g17, h⟩ := xgd_of h
        refine lv_aload_n X.1.1 X.1.2.1 dX9_pass_66 rfl (lv_at hl 1 rfl) ?_
        refine x_getr X hG 13 6 0 54 (inC := iX9) rfl q0.1 q0.2 ⟨by decide, by decide, by decide, rfl, by decide, by decide⟩ w3 dX9_pass_67 ?_
        obtain ⟨v18, u19, hf, h⟩ := xbd_of h
        refine x_callVv0 X hG hS (c_X0_doTick l t _ _ _ _ _ hf) (cwV 2 X.1.2.2.2.2 gX9_pass_X0_doTick rfl rfl rfl hd_X0_doTick ⟨Nat.le_of_ble_eq_true rfl, Nat.le_of_ble_eq_true rfl⟩) q28.1 q28.2 rfl (by decide) (by rfl) hl.1 (Nat.le_of_ble_eq_true rfl) dX9_pass_70 ⟨by decide, by decide⟩ rfl (fun H locs hG hS => ?_)
        refine lv_iinc (v := (iI (x3_12 + 1))) (lv' := [(3, .int (iI (x3_12 + 1))), (0, .ref (t.2.2.1 0)), (1, .int (iI x1)), (2, .int (iI x2_8))]) X.1.1 X.1.2.1 dX9_pass_73 hl (k := 0) rfl (iI_add _ _) (by decide) rfl (fun ls hl => ?_)
        refine lv_goto (tgt := 53) X.1.1 X.1.2.1 dX9_pass_76 (by decide) ?_
        exact igo11 _ _ _ h rfl _ _ _ hG hS (lv_sub hl [0, 1, 2, 3] rfl)
    exact Lgo11 FU _ _ h _ _ _ hG hS (lv_sub hl [0, 2, 3, 1] rfl)
  · replace h := xif_f h c5
    cases h
    exact x_thrSW X hG hS hfl hlk htab hl.1 (g := 3) (by decide) hQ (by decide) w1 w2 (x_m 6 rfl) (fun w q => List.mem_cons_of_mem _ (List.mem_append_left _ (List.mem_append_right _ q))) xng_3 xot_3 dX9_pass_21 dX9_pass_24 dX9_pass_25 dX9_pass_28 dX9_pass_31 (by decide) (by decide) (by decide) (by decide) (by decide) (by decide)
theorem hd_X9_pass : yX9_pass.cls = RX9 ∧ yX9_pass.cls ≠ "java/lang/invoke/MethodHandle" ∧ yX9_pass.cls ≠ "java/lang/invoke/VarHandle" ∧ (parseMethodDescriptor yX9_pass.desc).map (fun d => d.parameters.length) = some 1 := by decide +kernel
abbrev rX9_needMuted : Room := { frames := 6, cells := 1, slots := 6, locals := 120 }
set_option maxRecDepth 100000 in
set_option maxHeartbeats 8000000 in
theorem c_X9_needMuted (l : Launch) (hfl : l.stackTraces = false) (t : gP) (x1 : Int) (x2 : Int) (u : uS) (g : Nat) (r : Int) (u' : uS) (h : f_X9_needMuted x1 x2 u = some (g, r, u')) : xTv l yX9_needMuted wsX9_needMuted rX9_needMuted t [.ref (t.2.2.1 0), .int (iI x1), .int (iI x2)] u g u' 1 6 := by
  refine x_ofTv (cc := cX9_needMuted) (maxL := 3) (own := RX9) (by decide) rfl rfl (Nat.le_of_ble_eq_true rfl) ?_
  intro p e s m args below meth c Q hQ X hlk htab hret hxo H locs ls hG hS hl
  replace hl : lv_has ls 3 [(0, .ref (t.2.2.1 0)), (1, .int (iI x1)), (2, .int (iI x2))] := hl
  have q0 : 0 < NN ∧ sT 0 = 13 := by decide
  have iX9 : ∀ w ∈ wsX90, w ∈ wsX9_needMuted := by decide +kernel
  have w3 : Cond.fieldLink RX9 40 "TriggerNetwork" "now" "LTriggerNetwork$Situation;" ∈ wsX9_needMuted := x_w 3 rfl
  have q54 : 54 < NN ∧ sT 54 = 11 := by decide
  have iX7 : ∀ w ∈ wsX70, w ∈ wsX9_needMuted := by decide +kernel
  have w4 : Cond.fieldLink RX9 171 "TriggerNetwork$Situation" "muted" "[I" ∈ wsX9_needMuted := x_w 4 rfl
  have q60 : 60 < NN ∧ sT 60 = 100 ∧ sN 60 = 8 := by decide
  have w1 : Cond.classLink RX9 296 "java/lang/IllegalStateException" ∈ wsX9_needMuted := x_w 1 rfl
  have w2 : Cond.initialized "java/lang/IllegalStateException" ∈ wsX9_needMuted := x_w 2 rfl
  unfold f_X9_needMuted at h
  refine lv_aload_n X.1.1 X.1.2.1 dX9_needMuted_0 rfl (lv_at hl 0 rfl) ?_
  refine x_getr X hG 13 6 0 54 (inC := iX9) rfl q0.1 q0.2 ⟨by decide, by decide, by decide, rfl, by decide, by decide⟩ w3 dX9_needMuted_1 ?_
  refine x_getr X hG 11 8 54 6 (inC := iX7) rfl q54.1 q54.2 ⟨by decide, by decide, by decide, rfl, by decide, by decide⟩ w4 dX9_needMuted_4 ?_
  refine lv_iload_n X.1.1 X.1.2.1 dX9_needMuted_7 rfl (lv_at hl 1 rfl) ?_
  obtain ⟨g1, h⟩ := xgd_of h
  refine x_iald X hG q60.1 q60.2.1 (n := 8) q60.2.2 g1 (by decide) dX9_needMuted_8 ?_
  refine lv_iload_n X.1.1 X.1.2.1 dX9_needMuted_9 rfl (lv_at hl 2 rfl) ?_
  obtain ⟨g2, h⟩ := xgd_of h
  refine x_icmp_eq (tgt := 24) X g2.1 g2.2 dX9_needMuted_10 (by decide) (fun c3 => ?_) (fun c3 => ?_)
  · replace h := xif_t h c3
    cases h
    exact hret _ _ _ _ _ _ (by decide) (by decide) rfl dX9_needMuted_24 hG hS
  · replace h := xif_f h c3
    cases h
    exact x_thrSW X hG hS hfl hlk htab hl.1 (g := 3) (by decide) hQ (by decide) w1 w2 (x_m 13 rfl) (fun w q => List.mem_cons_of_mem _ (List.mem_append_right _ q)) xng_3 xot_3 dX9_needMuted_13 dX9_needMuted_16 dX9_needMuted_17 dX9_needMuted_20 dX9_needMuted_23 (by decide) (by decide) (by decide) (by decide) (by decide) (by decide)
theorem hd_X9_needMuted : yX9_needMuted.cls = RX9 ∧ yX9_needMuted.cls ≠ "java/lang/invoke/MethodHandle" ∧ yX9_needMuted.cls ≠ "java/lang/invoke/VarHandle" ∧ (parseMethodDescriptor yX9_needMuted.desc).map (fun d => d.parameters.length) = some 2 := by decide +kernel
abbrev rX9_mute : Room := { frames := 7, cells := 2, slots := 12, locals := 142 }
set_option maxRecDepth 100000 in
set_option maxHeartbeats 8000000 in
theorem c_X9_mute (l : Launch) (hfl : l.stackTraces = false) (t : gP) (x1 : Int) (u : uS) (g : Nat) (r : Int) (u' : uS) (h : f_X9_mute x1 u = some (g, r, u')) : xTi l yX9_mute wsX9_mute rX9_mute t [.ref (t.2.2.1 0), .int (iI x1)] u g r u' 2 12 := by
  refine x_ofTi (cc := cX9_mute) (maxL := 2) (ret := .int) (own := RX9) (by decide) rfl rfl (Nat.le_of_ble_eq_true rfl) ?_
  intro p e s m args below meth c Q hQ X hlk htab hret hxo H locs ls hG hS hl
  replace hl : lv_has ls 2 [(0, .ref (t.2.2.1 0)), (1, .int (iI x1))] := hl
  have q0 : 0 < NN ∧ sT 0 = 13 := by decide
  have iX9 : ∀ w ∈ wsX90, w ∈ wsX9_mute := by decide +kernel
  have w1 : Cond.fieldLink RX9 50 "TriggerNetwork" "memory" "LTriggerNetwork$Memory;" ∈ wsX9_mute := x_w 1 rfl
  have q33 : 33 < NN ∧ sT 33 = 8 := by decide
  have w2 : Cond.fieldLink RX9 40 "TriggerNetwork" "now" "LTriggerNetwork$Situation;" ∈ wsX9_mute := x_w 2 rfl
  have q54 : 54 < NN ∧ sT 54 = 11 := by decide
  have w3 : Cond.fieldLink RX9 30 "TriggerNetwork" "network" "LTriggerNetwork$Network;" ∈ wsX9_mute := x_w 3 rfl
  unfold f_X9_mute at h
  refine lv_aload_n X.1.1 X.1.2.1 dX9_mute_0 rfl (lv_at hl 0 rfl) ?_
  refine lv_iload_n X.1.1 X.1.2.1 dX9_mute_1 rfl (lv_at hl 1 rfl) ?_
  obtain ⟨g3, v1, u2, hf, h⟩ := xbt_of h
  refine x_callVTv X hG hS (c_X9_needStation l hfl t _ _ _ _ _ hf) (cwV 1 X.1.2.2.2.2 gX9_mute_X9_needStation rfl rfl rfl hd_X9_needStation ⟨Nat.le_of_ble_eq_true rfl, Nat.le_of_ble_eq_true rfl⟩) q0.1 q0.2 rfl (by decide) (by rfl) hl.1 (Nat.le_of_ble_eq_true rfl) dX9_mute_2 ⟨by decide, by decide⟩ rfl (fun hg H locs ce q9 hG hS h7 h8 h9 => by rcases h with ⟨h0, _⟩ | ⟨_, h⟩; (exact absurd h0 hg); (cases h; exact hxo _ _ _ _ _ _ _ _ _ (by decide) (by decide) hg hG hS h7 h8 h9)) (fun hg H locs hG hS => ?_)
  replace h := (h.resolve_right (fun q => q.1 hg)).2
  refine lv_aload_n X.1.1 X.1.2.1 dX9_mute_5 rfl (lv_at hl 0 rfl) ?_
  refine lv_iload_n X.1.1 X.1.2.1 dX9_mute_6 rfl (lv_at hl 1 rfl) ?_
  refine x_iconst X dX9_mute_7 ?_
  obtain ⟨g6, v4, u5, hf, h⟩ := xbt_of h
  refine x_callVTv X hG hS (c_X9_needMuted l hfl t _ _ _ _ _ _ hf) (cwV 2 X.1.2.2.2.2 gX9_mute_X9_needMuted rfl rfl rfl hd_X9_needMuted ⟨Nat.le_of_ble_eq_true rfl, Nat.le_of_ble_eq_true rfl⟩) q0.1 q0.2 rfl (by decide) (by rfl) hl.1 (Nat.le_of_ble_eq_true rfl) dX9_mute_8 ⟨by decide, by decide⟩ rfl (fun hg H locs ce q9 hG hS h7 h8 h9 => by rcases h with ⟨h0, _⟩ | ⟨_, h⟩; (exact absurd h0 hg); (cases h; exact hxo _ _ _ _ _ _ _ _ _ (by decide) (by decide) hg hG hS h7 h8 h9)) (fun hg H locs hG hS => ?_)
  replace h := (h.resolve_right (fun q => q.1 hg)).2
  refine lv_aload_n X.1.1 X.1.2.1 dX9_mute_11 rfl (lv_at hl 0 rfl) ?_
  refine x_getr X hG 13 8 0 33 (inC := iX9) rfl q0.1 q0.2 ⟨by decide, by decide, by decide, rfl, by decide, by decide⟩ w1 dX9_mute_12 ?_
  refine lv_aload_n X.1.1 X.1.2.1 dX9_mute_15 rfl (lv_at hl 0 rfl) ?_
  refine x_getr X hG 13 6 0 54 (inC := iX9) rfl q0.1 q0.2 ⟨by decide, by decide, by decide, rfl, by decide, by decide⟩ w2 dX9_mute_16 ?_
  obtain ⟨v7, u8, hf, h⟩ := xbd_of h
  refine x_callVv0 X hG hS (c_X4_remember l t _ _ _ _ hf) (cwV 1 X.1.2.2.2.2 gX9_mute_X4_remember rfl rfl rfl hd_X4_remember ⟨Nat.le_of_ble_eq_true rfl, Nat.le_of_ble_eq_true rfl⟩) q33.1 q33.2 rfl (by decide) (by rfl) hl.1 (Nat.le_of_ble_eq_true rfl) dX9_mute_19 ⟨by decide, by decide⟩ rfl (fun H locs hG hS => ?_)
  refine lv_aload_n X.1.1 X.1.2.1 dX9_mute_22 rfl (lv_at hl 0 rfl) ?_
  refine x_getr X hG 13 6 0 54 (inC := iX9) rfl q0.1 q0.2 ⟨by decide, by decide, by decide, rfl, by decide, by decide⟩ w2 dX9_mute_23 ?_
  refine lv_aload_n X.1.1 X.1.2.1 dX9_mute_26 rfl (lv_at hl 0 rfl) ?_
  obtain ⟨n9, en9, h⟩ := xlet_of h
  refine x_getd X hG 13 4 0 4 (inC := iX9) rfl q0.1 q0.2 ⟨by decide, by decide, by decide, rfl, rfl⟩ en9 w3 dX9_mute_27 ?_
  obtain ⟨g10, h⟩ := xgd_of h
  refine lv_iload_n X.1.1 X.1.2.1 dX9_mute_30 rfl (lv_at hl 1 rfl) ?_
  obtain ⟨v11, u12, hf, h⟩ := xbd_of h
  refine x_callVi0 X hG hS (c_X7_silence l t _ _ _ _ _ _ hf) (cwV 2 X.1.2.2.2.2 gX9_mute_X7_silence rfl rfl rfl hd_X7_silence ⟨Nat.le_of_ble_eq_true rfl, Nat.le_of_ble_eq_true rfl⟩) q54.1 q54.2 rfl (by decide) (by rfl) hl.1 (Nat.le_of_ble_eq_true rfl) dX9_mute_31 ⟨by decide, by decide⟩ rfl (fun H locs hG hS => ?_)
  cases h
  exact hret _ _ _ _ _ _ (by decide) (by decide) rfl dX9_mute_34 rfl hG hS
theorem hd_X9_mute : yX9_mute.cls = RX9 ∧ yX9_mute.cls ≠ "java/lang/invoke/MethodHandle" ∧ yX9_mute.cls ≠ "java/lang/invoke/VarHandle" ∧ (parseMethodDescriptor yX9_mute.desc).map (fun d => d.parameters.length) = some 1 := by decide +kernel
abbrev rX9_unmute : Room := { frames := 7, cells := 2, slots := 12, locals := 142 }
set_option maxRecDepth 100000 in
set_option maxHeartbeats 8000000 in
theorem c_X9_unmute (l : Launch) (hfl : l.stackTraces = false) (t : gP) (x1 : Int) (u : uS) (g : Nat) (r : Int) (u' : uS) (h : f_X9_unmute x1 u = some (g, r, u')) : xTi l yX9_unmute wsX9_unmute rX9_unmute t [.ref (t.2.2.1 0), .int (iI x1)] u g r u' 2 12 := by
  refine x_ofTi (cc := cX9_unmute) (maxL := 2) (ret := .int) (own := RX9) (by decide) rfl rfl (Nat.le_of_ble_eq_true rfl) ?_
  intro p e s m args below meth c Q hQ X hlk htab hret hxo H locs ls hG hS hl
  replace hl : lv_has ls 2 [(0, .ref (t.2.2.1 0)), (1, .int (iI x1))] := hl
  have q0 : 0 < NN ∧ sT 0 = 13 := by decide
  have iX9 : ∀ w ∈ wsX90, w ∈ wsX9_unmute := by decide +kernel
  have w1 : Cond.fieldLink RX9 50 "TriggerNetwork" "memory" "LTriggerNetwork$Memory;" ∈ wsX9_unmute := x_w 1 rfl
  have q33 : 33 < NN ∧ sT 33 = 8 := by decide
  have w2 : Cond.fieldLink RX9 40 "TriggerNetwork" "now" "LTriggerNetwork$Situation;" ∈ wsX9_unmute := x_w 2 rfl
  have q54 : 54 < NN ∧ sT 54 = 11 := by decide
  have iX7 : ∀ w ∈ wsX70, w ∈ wsX9_unmute := by decide +kernel
  have w3 : Cond.fieldLink RX9 171 "TriggerNetwork$Situation" "muted" "[I" ∈ wsX9_unmute := x_w 3 rfl
  have q60 : 60 < NN ∧ sT 60 = 100 ∧ sN 60 = 8 := by decide
  have w4 : Cond.fieldLink RX9 30 "TriggerNetwork" "network" "LTriggerNetwork$Network;" ∈ wsX9_unmute := x_w 4 rfl
  have w5 : Cond.fieldLink RX9 159 "TriggerNetwork$Situation" "shortSums" "[I" ∈ wsX9_unmute := x_w 5 rfl
  have q57 : 57 < NN ∧ sT 57 = 100 ∧ sN 57 = 8 := by decide
  have w6 : Cond.fieldLink RX9 162 "TriggerNetwork$Situation" "longSums" "[I" ∈ wsX9_unmute := x_w 6 rfl
  have q58 : 58 < NN ∧ sT 58 = 100 ∧ sN 58 = 8 := by decide
  unfold f_X9_unmute at h
  refine lv_aload_n X.1.1 X.1.2.1 dX9_unmute_0 rfl (lv_at hl 0 rfl) ?_
  refine lv_iload_n X.1.1 X.1.2.1 dX9_unmute_1 rfl (lv_at hl 1 rfl) ?_
  obtain ⟨g3, v1, u2, hf, h⟩ := xbt_of h
  refine x_callVTv X hG hS (c_X9_needStation l hfl t _ _ _ _ _ hf) (cwV 1 X.1.2.2.2.2 gX9_unmute_X9_needStation rfl rfl rfl hd_X9_needStation ⟨Nat.le_of_ble_eq_true rfl, Nat.le_of_ble_eq_true rfl⟩) q0.1 q0.2 rfl (by decide) (by rfl) hl.1 (Nat.le_of_ble_eq_true rfl) dX9_unmute_2 ⟨by decide, by decide⟩ rfl (fun hg H locs ce q9 hG hS h7 h8 h9 => by rcases h with ⟨h0, _⟩ | ⟨_, h⟩; (exact absurd h0 hg); (cases h; exact hxo _ _ _ _ _ _ _ _ _ (by decide) (by decide) hg hG hS h7 h8 h9)) (fun hg H locs hG hS => ?_)
  replace h := (h.resolve_right (fun q => q.1 hg)).2
  refine lv_aload_n X.1.1 X.1.2.1 dX9_unmute_5 rfl (lv_at hl 0 rfl) ?_
  refine lv_iload_n X.1.1 X.1.2.1 dX9_unmute_6 rfl (lv_at hl 1 rfl) ?_
  refine x_iconst X dX9_unmute_7 ?_
  obtain ⟨g6, v4, u5, hf, h⟩ := xbt_of h
  refine x_callVTv X hG hS (c_X9_needMuted l hfl t _ _ _ _ _ _ hf) (cwV 2 X.1.2.2.2.2 gX9_unmute_X9_needMuted rfl rfl rfl hd_X9_needMuted ⟨Nat.le_of_ble_eq_true rfl, Nat.le_of_ble_eq_true rfl⟩) q0.1 q0.2 rfl (by decide) (by rfl) hl.1 (Nat.le_of_ble_eq_true rfl) dX9_unmute_8 ⟨by decide, by decide⟩ rfl (fun hg H locs ce q9 hG hS h7 h8 h9 => by rcases h with ⟨h0, _⟩ | ⟨_, h⟩; (exact absurd h0 hg); (cases h; exact hxo _ _ _ _ _ _ _ _ _ (by decide) (by decide) hg hG hS h7 h8 h9)) (fun hg H locs hG hS => ?_)
  replace h := (h.resolve_right (fun q => q.1 hg)).2
  refine lv_aload_n X.1.1 X.1.2.1 dX9_unmute_11 rfl (lv_at hl 0 rfl) ?_
  refine x_getr X hG 13 8 0 33 (inC := iX9) rfl q0.1 q0.2 ⟨by decide, by decide, by decide, rfl, by decide, by decide⟩ w1 dX9_unmute_12 ?_
  refine lv_aload_n X.1.1 X.1.2.1 dX9_unmute_15 rfl (lv_at hl 0 rfl) ?_
  refine x_getr X hG 13 6 0 54 (inC := iX9) rfl q0.1 q0.2 ⟨by decide, by decide, by decide, rfl, by decide, by decide⟩ w2 dX9_unmute_16 ?_
  obtain ⟨v7, u8, hf, h⟩ := xbd_of h
  refine x_callVv0 X hG hS (c_X4_remember l t _ _ _ _ hf) (cwV 1 X.1.2.2.2.2 gX9_unmute_X4_remember rfl rfl rfl hd_X4_remember ⟨Nat.le_of_ble_eq_true rfl, Nat.le_of_ble_eq_true rfl⟩) q33.1 q33.2 rfl (by decide) (by rfl) hl.1 (Nat.le_of_ble_eq_true rfl) dX9_unmute_19 ⟨by decide, by decide⟩ rfl (fun H locs hG hS => ?_)
  refine lv_aload_n X.1.1 X.1.2.1 dX9_unmute_22 rfl (lv_at hl 0 rfl) ?_
  refine x_getr X hG 13 6 0 54 (inC := iX9) rfl q0.1 q0.2 ⟨by decide, by decide, by decide, rfl, by decide, by decide⟩ w2 dX9_unmute_23 ?_
  refine x_getr X hG 11 8 54 6 (inC := iX7) rfl q54.1 q54.2 ⟨by decide, by decide, by decide, rfl, by decide, by decide⟩ w3 dX9_unmute_26 ?_
  refine lv_iload_n X.1.1 X.1.2.1 dX9_unmute_29 rfl (lv_at hl 1 rfl) ?_
  refine x_iconst X dX9_unmute_30 ?_
  obtain ⟨g9, h⟩ := xgd_of h
  refine x_iast X hG hS q60.1 q60.2.1 (n := 8) q60.2.2 g9 (by decide) dX9_unmute_31 (fun H locs hG hS => ?_)
  obtain ⟨u10, eu10, h⟩ := xlet_of h
  replace hG : G t u10 H := by rw [eu10]; exact hG
  refine lv_aload_n X.1.1 X.1.2.1 dX9_unmute_32 rfl (lv_at hl 0 rfl) ?_
  obtain ⟨n11, en11, h⟩ := xlet_of h
  refine x_getd X hG 13 4 0 4 (inC := iX9) rfl q0.1 q0.2 ⟨by decide, by decide, by decide, rfl, rfl⟩ en11 w4 dX9_unmute_33 ?_
  obtain ⟨g12, h⟩ := xgd_of h
  refine lv_aload_n X.1.1 X.1.2.1 dX9_unmute_36 rfl (lv_at hl 0 rfl) ?_
  refine x_getr X hG 13 6 0 54 (inC := iX9) rfl q0.1 q0.2 ⟨by decide, by decide, by decide, rfl, by decide, by decide⟩ w2 dX9_unmute_37 ?_
  refine x_getr X hG 11 5 54 3 (inC := iX7) rfl q54.1 q54.2 ⟨by decide, by decide, by decide, rfl, by decide, by decide⟩ w5 dX9_unmute_40 ?_
  refine lv_iload_n X.1.1 X.1.2.1 dX9_unmute_43 rfl (lv_at hl 1 rfl) ?_
  obtain ⟨g13, h⟩ := xgd_of h
  refine x_iald X hG q57.1 q57.2.1 (n := 8) q57.2.2 g13 (by decide) dX9_unmute_44 ?_
  refine lv_aload_n X.1.1 X.1.2.1 dX9_unmute_45 rfl (lv_at hl 0 rfl) ?_
  refine x_getr X hG 13 6 0 54 (inC := iX9) rfl q0.1 q0.2 ⟨by decide, by decide, by decide, rfl, by decide, by decide⟩ w2 dX9_unmute_46 ?_
  refine x_getr X hG 11 6 54 4 (inC := iX7) rfl q54.1 q54.2 ⟨by decide, by decide, by decide, rfl, by decide, by decide⟩ w6 dX9_unmute_49 ?_
  refine lv_iload_n X.1.1 X.1.2.1 dX9_unmute_52 rfl (lv_at hl 1 rfl) ?_
  obtain ⟨g14, h⟩ := xgd_of h
  refine x_iald X hG q58.1 q58.2.1 (n := 8) q58.2.2 g14 (by decide) dX9_unmute_53 ?_
  obtain ⟨v15, u16, hf, h⟩ := xbd_of h
  refine x_callVi0 X hG hS (c_X5_ratioOf l t _ _ _ _ _ _ hf) (cwV 2 X.1.2.2.2.2 gX9_unmute_X5_ratioOf rfl rfl rfl hd_X5_ratioOf ⟨Nat.le_of_ble_eq_true rfl, Nat.le_of_ble_eq_true rfl⟩) g12.1 g12.2 rfl (by decide) (by rfl) hl.1 (Nat.le_of_ble_eq_true rfl) dX9_unmute_54 ⟨by decide, by decide⟩ rfl (fun H locs hG hS => ?_)
  cases h
  exact hret _ _ _ _ _ _ (by decide) (by decide) rfl dX9_unmute_57 rfl hG hS
theorem hd_X9_unmute : yX9_unmute.cls = RX9 ∧ yX9_unmute.cls ≠ "java/lang/invoke/MethodHandle" ∧ yX9_unmute.cls ≠ "java/lang/invoke/VarHandle" ∧ (parseMethodDescriptor yX9_unmute.desc).map (fun d => d.parameters.length) = some 1 := by decide +kernel
abbrev rX9_retract : Room := { frames := 7, cells := 2, slots := 12, locals := 141 }
set_option maxRecDepth 100000 in
set_option maxHeartbeats 8000000 in
theorem c_X9_retract (l : Launch) (hfl : l.stackTraces = false) (t : gP) (x1 : Int) (u : uS) (g : Nat) (r : Int) (u' : uS) (h : f_X9_retract x1 u = some (g, r, u')) : xTi l yX9_retract wsX9_retract rX9_retract t [.ref (t.2.2.1 0), .int (iI x1)] u g r u' 2 12 := by
  refine x_ofTi (cc := cX9_retract) (maxL := 3) (ret := .int) (own := RX9) (by decide) rfl rfl (Nat.le_of_ble_eq_true rfl) ?_
  intro p e s m args below meth c Q hQ X hlk htab hret hxo H locs ls hG hS hl
  replace hl : lv_has ls 3 [(0, .ref (t.2.2.1 0)), (1, .int (iI x1))] := hl
  have q0 : 0 < NN ∧ sT 0 = 13 := by decide
  have iX9 : ∀ w ∈ wsX90, w ∈ wsX9_retract := by decide +kernel
  have w1 : Cond.fieldLink RX9 50 "TriggerNetwork" "memory" "LTriggerNetwork$Memory;" ∈ wsX9_retract := x_w 1 rfl
  have q33 : 33 < NN ∧ sT 33 = 8 := by decide
  have w2 : Cond.fieldLink RX9 40 "TriggerNetwork" "now" "LTriggerNetwork$Situation;" ∈ wsX9_retract := x_w 2 rfl
  have q54 : 54 < NN ∧ sT 54 = 11 := by decide
  unfold f_X9_retract at h
  refine lv_aload_n X.1.1 X.1.2.1 dX9_retract_0 rfl (lv_at hl 0 rfl) ?_
  refine lv_iload_n X.1.1 X.1.2.1 dX9_retract_1 rfl (lv_at hl 1 rfl) ?_
  obtain ⟨g3, v1, u2, hf, h⟩ := xbt_of h
  refine x_callVTv X hG hS (c_X9_needEvent l hfl t _ _ _ _ _ hf) (cwV 1 X.1.2.2.2.2 gX9_retract_X9_needEvent rfl rfl rfl hd_X9_needEvent ⟨Nat.le_of_ble_eq_true rfl, Nat.le_of_ble_eq_true rfl⟩) q0.1 q0.2 rfl (by decide) (by rfl) hl.1 (Nat.le_of_ble_eq_true rfl) dX9_retract_2 ⟨by decide, by decide⟩ rfl (fun hg H locs ce q9 hG hS h7 h8 h9 => by rcases h with ⟨h0, _⟩ | ⟨_, h⟩; (exact absurd h0 hg); (cases h; exact hxo _ _ _ _ _ _ _ _ _ (by decide) (by decide) hg hG hS h7 h8 h9)) (fun hg H locs hG hS => ?_)
  replace h := (h.resolve_right (fun q => q.1 hg)).2
  refine lv_aload_n X.1.1 X.1.2.1 dX9_retract_5 rfl (lv_at hl 0 rfl) ?_
  refine lv_iload_n X.1.1 X.1.2.1 dX9_retract_6 rfl (lv_at hl 1 rfl) ?_
  obtain ⟨g6, v4, u5, hf, h⟩ := xbt_of h
  refine x_callVTv X hG hS (c_X9_needStanding l hfl t _ _ _ _ _ hf) (cwV 1 X.1.2.2.2.2 gX9_retract_X9_needStanding rfl rfl rfl hd_X9_needStanding ⟨Nat.le_of_ble_eq_true rfl, Nat.le_of_ble_eq_true rfl⟩) q0.1 q0.2 rfl (by decide) (by rfl) hl.1 (Nat.le_of_ble_eq_true rfl) dX9_retract_7 ⟨by decide, by decide⟩ rfl (fun hg H locs ce q9 hG hS h7 h8 h9 => by rcases h with ⟨h0, _⟩ | ⟨_, h⟩; (exact absurd h0 hg); (cases h; exact hxo _ _ _ _ _ _ _ _ _ (by decide) (by decide) hg hG hS h7 h8 h9)) (fun hg H locs hG hS => ?_)
  replace h := (h.resolve_right (fun q => q.1 hg)).2
  refine lv_aload_n X.1.1 X.1.2.1 dX9_retract_10 rfl (lv_at hl 0 rfl) ?_
  refine x_getr X hG 13 8 0 33 (inC := iX9) rfl q0.1 q0.2 ⟨by decide, by decide, by decide, rfl, by decide, by decide⟩ w1 dX9_retract_11 ?_
  refine lv_aload_n X.1.1 X.1.2.1 dX9_retract_14 rfl (lv_at hl 0 rfl) ?_
  refine x_getr X hG 13 6 0 54 (inC := iX9) rfl q0.1 q0.2 ⟨by decide, by decide, by decide, rfl, by decide, by decide⟩ w2 dX9_retract_15 ?_
  obtain ⟨v7, u8, hf, h⟩ := xbd_of h
  refine x_callVv0 X hG hS (c_X4_remember l t _ _ _ _ hf) (cwV 1 X.1.2.2.2.2 gX9_retract_X4_remember rfl rfl rfl hd_X4_remember ⟨Nat.le_of_ble_eq_true rfl, Nat.le_of_ble_eq_true rfl⟩) q33.1 q33.2 rfl (by decide) (by rfl) hl.1 (Nat.le_of_ble_eq_true rfl) dX9_retract_18 ⟨by decide, by decide⟩ rfl (fun H locs hG hS => ?_)
  refine lv_aload_n X.1.1 X.1.2.1 dX9_retract_21 rfl (lv_at hl 0 rfl) ?_
  refine x_getr X hG 13 6 0 54 (inC := iX9) rfl q0.1 q0.2 ⟨by decide, by decide, by decide, rfl, by decide, by decide⟩ w2 dX9_retract_22 ?_
  refine lv_iload_n X.1.1 X.1.2.1 dX9_retract_25 rfl (lv_at hl 1 rfl) ?_
  obtain ⟨v9, u10, hf, h⟩ := xbd_of h
  refine x_callVi0 X hG hS (c_X7_picksOf l t _ _ _ _ _ hf) (cwV 1 X.1.2.2.2.2 gX9_retract_X7_picksOf rfl rfl rfl hd_X7_picksOf ⟨Nat.le_of_ble_eq_true rfl, Nat.le_of_ble_eq_true rfl⟩) q54.1 q54.2 rfl (by decide) (by rfl) hl.1 (Nat.le_of_ble_eq_true rfl) dX9_retract_26 ⟨by decide, by decide⟩ rfl (fun H locs hG hS => ?_)
  refine lv_istore_n (lv' := [(2, .int (iI v9)), (0, .ref (t.2.2.1 0)), (1, .int (iI x1))]) X.1.1 X.1.2.1 dX9_retract_29 rfl hl (by decide) rfl (fun ls hl => ?_)
  refine lv_aload_n X.1.1 X.1.2.1 dX9_retract_30 rfl (lv_at hl 1 rfl) ?_
  refine x_getr X hG 13 6 0 54 (inC := iX9) rfl q0.1 q0.2 ⟨by decide, by decide, by decide, rfl, by decide, by decide⟩ w2 dX9_retract_31 ?_
  refine lv_iload_n X.1.1 X.1.2.1 dX9_retract_34 rfl (lv_at hl 2 rfl) ?_
  obtain ⟨v11, u12, hf, h⟩ := xbd_of h
  refine x_callVv0 X hG hS (c_X7_withdraw l t _ _ _ _ _ hf) (cwV 1 X.1.2.2.2.2 gX9_retract_X7_withdraw rfl rfl rfl hd_X7_withdraw ⟨Nat.le_of_ble_eq_true rfl, Nat.le_of_ble_eq_true rfl⟩) q54.1 q54.2 rfl (by decide) (by rfl) hl.1 (Nat.le_of_ble_eq_true rfl) dX9_retract_35 ⟨by decide, by decide⟩ rfl (fun H locs hG hS => ?_)
  refine lv_iload_n X.1.1 X.1.2.1 dX9_retract_38 rfl (lv_at hl 0 rfl) ?_
  cases h
  exact hret _ _ _ _ _ _ (by decide) (by decide) rfl dX9_retract_39 rfl hG hS
theorem hd_X9_retract : yX9_retract.cls = RX9 ∧ yX9_retract.cls ≠ "java/lang/invoke/MethodHandle" ∧ yX9_retract.cls ≠ "java/lang/invoke/VarHandle" ∧ (parseMethodDescriptor yX9_retract.desc).map (fun d => d.parameters.length) = some 1 := by decide +kernel
