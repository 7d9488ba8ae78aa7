/-! the class's asking methods where they throw nothing: nothing is made -/
abbrev r0X9_size : Room := { frames := 6, cells := 0, slots := 0, locals := 120 }
set_option maxRecDepth 100000 in
set_option maxHeartbeats 8000000 in
theorem c0_X9_size (l : Launch) (hfl : l.stackTraces = false) (t : gP) (x1 : Int) (u : uS) (r : Int) (u' : uS) (h : f_X9_size x1 u = some (0, r, u')) : xTi l yX9_size wsX9_size r0X9_size t [.ref (t.2.2.1 0), .int (iI x1)] u 0 r u' 0 0 := by
  refine x_ofTi (cc := cX9_size) (maxL := 2) (ret := .int) (own := RX9) (by decide) rfl rfl (Nat.le_of_ble_eq_true rfl) ?_
  intro p e s m args below meth c Q hQ X hlk htab hret hxo H locs ls hG hS hl
  replace hl : lv_has ls 2 [(0, .ref (t.2.2.1 0)), (1, .int (iI x1))] := hl
  have q0 : 0 < NN ∧ sT 0 = 13 := by decide
  have w1 : Cond.classLink RX9 79 "java/lang/IllegalArgumentException" ∈ wsX9_size := x_w 1 rfl
  have w2 : Cond.initialized "java/lang/IllegalArgumentException" ∈ wsX9_size := x_w 2 rfl
  have iX9 : ∀ w ∈ wsX90, w ∈ wsX9_size := by decide +kernel
  have w3 : Cond.fieldLink RX9 30 "TriggerNetwork" "network" "LTriggerNetwork$Network;" ∈ wsX9_size := x_w 3 rfl
  have iX5 : ∀ w ∈ wsX50, w ∈ wsX9_size := by decide +kernel
  have w4 : Cond.fieldLink RX9 94 "TriggerNetwork$Network" "stationCount" "I" ∈ wsX9_size := x_w 4 rfl
  have w5 : Cond.fieldLink RX9 97 "TriggerNetwork$Network" "grid" "LTriggerNetwork$Grid;" ∈ wsX9_size := x_w 5 rfl
  have w6 : Cond.fieldLink RX9 107 "TriggerNetwork$Network" "rungs" "LTriggerNetwork$Rungs;" ∈ wsX9_size := x_w 6 rfl
  have iX6 : ∀ w ∈ wsX60, w ∈ wsX9_size := by decide +kernel
  have w7 : Cond.fieldLink RX9 111 "TriggerNetwork$Rungs" "count" "I" ∈ wsX9_size := x_w 7 rfl
  have w8 : Cond.fieldLink RX9 40 "TriggerNetwork" "now" "LTriggerNetwork$Situation;" ∈ wsX9_size := x_w 8 rfl
  have q54 : 54 < NN ∧ sT 54 = 11 := by decide
  have iX7 : ∀ w ∈ wsX70, w ∈ wsX9_size := by decide +kernel
  have w9 : Cond.fieldLink RX9 116 "TriggerNetwork$Situation" "pickCount" "I" ∈ wsX9_size := x_w 9 rfl
  have w10 : Cond.fieldLink RX9 119 "TriggerNetwork$Situation" "eventCount" "I" ∈ wsX9_size := x_w 10 rfl
  unfold f_X9_size at h
  refine lv_iload_n X.1.1 X.1.2.1 dX9_size_0 rfl (lv_at hl 1 rfl) ?_
  obtain ⟨g1, h⟩ := xgd_of h
  rcases Decidable.em (x1 < 0 ∨ 5 < x1) with c2 | c2
  · replace h := xif_t h c2
    refine x_tblO (tgt := 94) X g1 dX9_size_1 c2 (by decide) ?_
    cases h
  · replace h := xif_f h c2
    rcases Decidable.em (x1 = 0) with c3 | c3
    · replace h := xif_t h c3
      refine x_tblI (v := 0) (tgt := 40) X c3 (by decide) ⟨by decide, by decide⟩ dX9_size_1 rfl (by decide) ?_
      refine lv_aload_n X.1.1 X.1.2.1 dX9_size_40 rfl (lv_at hl 0 rfl) ?_
      obtain ⟨n4, en4, h⟩ := xlet_of h
      refine x_getd X hG 13 4 0 4 (inC := iX9) rfl q0.1 q0.2 ⟨by decide, by decide, by decide, rfl, rfl⟩ en4 w3 dX9_size_41 ?_
      obtain ⟨g5, h⟩ := xgd_of h
      refine x_geti X hG 9 10 n4 10 (inC := iX5) rfl g5.1 g5.2 ⟨by decide, by decide, by decide, rfl, rfl⟩ w4 dX9_size_44 ?_
      cases h
      exact hret _ _ _ _ _ _ (by decide) (by decide) rfl dX9_size_47 rfl hG hS
    replace h := xif_f h c3
    rcases Decidable.em (x1 = 1) with c6 | c6
    · replace h := xif_t h c6
      refine x_tblI (v := 1) (tgt := 48) X c6 (by decide) ⟨by decide, by decide⟩ dX9_size_1 rfl (by decide) ?_
      refine lv_aload_n X.1.1 X.1.2.1 dX9_size_48 rfl (lv_at hl 0 rfl) ?_
      obtain ⟨n7, en7, h⟩ := xlet_of h
      refine x_getd X hG 13 4 0 4 (inC := iX9) rfl q0.1 q0.2 ⟨by decide, by decide, by decide, rfl, rfl⟩ en7 w3 dX9_size_49 ?_
      obtain ⟨g8, h⟩ := xgd_of h
      refine x_getr X hG 9 0 n7 1 (inC := iX5) rfl g8.1 g8.2 ⟨by decide, by decide, by decide, rfl, by decide, by decide⟩ w5 dX9_size_52 ?_
      obtain ⟨v9, u10, hf, h⟩ := xbd_of h
      refine x_callVi0 X hG hS (c_X2_nodeCount l t _ _ _ _ hf) (cwV 0 X.1.2.2.2.2 gX9_size_X2_nodeCount rfl rfl rfl hd_X2_nodeCount ⟨Nat.le_of_ble_eq_true rfl, Nat.le_of_ble_eq_true rfl⟩) (fx_9_0 g8).1 (fx_9_0 g8).2 rfl (by decide) (by rfl) hl.1 (Nat.le_of_ble_eq_true rfl) dX9_size_55 ⟨by decide, by decide⟩ rfl (fun H locs hG hS => ?_)
      cases h
      exact hret _ _ _ _ _ _ (by decide) (by decide) rfl dX9_size_58 rfl hG hS
    replace h := xif_f h c6
    rcases Decidable.em (x1 = 2) with c11 | c11
    · replace h := xif_t h c11
      refine x_tblI (v := 2) (tgt := 59) X c11 (by decide) ⟨by decide, by decide⟩ dX9_size_1 rfl (by decide) ?_
      refine lv_aload_n X.1.1 X.1.2.1 dX9_size_59 rfl (lv_at hl 0 rfl) ?_
      obtain ⟨n12, en12, h⟩ := xlet_of h
      refine x_getd X hG 13 4 0 4 (inC := iX9) rfl q0.1 q0.2 ⟨by decide, by decide, by decide, rfl, rfl⟩ en12 w3 dX9_size_60 ?_
      obtain ⟨g13, h⟩ := xgd_of h
      refine x_getr X hG 9 1 n12 2 (inC := iX5) rfl g13.1 g13.2 ⟨by decide, by decide, by decide, rfl, by decide, by decide⟩ w6 dX9_size_63 ?_
      refine x_geti X hG 10 0 (n12 + 2) 0 (inC := iX6) rfl (fx_9_1 g13).1 (fx_9_1 g13).2 ⟨by decide, by decide, by decide, rfl, rfl⟩ w7 dX9_size_66 ?_
      cases h
      exact hret _ _ _ _ _ _ (by decide) (by decide) rfl dX9_size_69 rfl hG hS
    replace h := xif_f h c11
    rcases Decidable.em (x1 = 3) with c14 | c14
    · replace h := xif_t h c14
      refine x_tblI (v := 3) (tgt := 70) X c14 (by decide) ⟨by decide, by decide⟩ dX9_size_1 rfl (by decide) ?_
      refine lv_aload_n X.1.1 X.1.2.1 dX9_size_70 rfl (lv_at hl 0 rfl) ?_
      refine x_getr X hG 13 6 0 54 (inC := iX9) rfl q0.1 q0.2 ⟨by decide, by decide, by decide, rfl, by decide, by decide⟩ w8 dX9_size_71 ?_
      refine x_geti X hG 11 1 54 1 (inC := iX7) rfl q54.1 q54.2 ⟨by decide, by decide, by decide, rfl, rfl⟩ w9 dX9_size_74 ?_
      cases h
      exact hret _ _ _ _ _ _ (by decide) (by decide) rfl dX9_size_77 rfl hG hS
    replace h := xif_f h c14
    rcases Decidable.em (x1 = 4) with c15 | c15
    · replace h := xif_t h c15
      refine x_tblI (v := 4) (tgt := 78) X c15 (by decide) ⟨by decide, by decide⟩ dX9_size_1 rfl (by decide) ?_
      refine lv_aload_n X.1.1 X.1.2.1 dX9_size_78 rfl (lv_at hl 0 rfl) ?_
      refine x_getr X hG 13 6 0 54 (inC := iX9) rfl q0.1 q0.2 ⟨by decide, by decide, by decide, rfl, by decide, by decide⟩ w8 dX9_size_79 ?_
      refine x_geti X hG 11 2 54 2 (inC := iX7) rfl q54.1 q54.2 ⟨by decide, by decide, by decide, rfl, rfl⟩ w10 dX9_size_82 ?_
      cases h
      exact hret _ _ _ _ _ _ (by decide) (by decide) rfl dX9_size_85 rfl hG hS
    replace h := xif_f h c15
    rcases Decidable.em (x1 = 5) with c16 | c16
    · replace h := xif_t h c16
      refine x_tblI (v := 5) (tgt := 86) X c16 (by decide) ⟨by decide, by decide⟩ dX9_size_1 rfl (by decide) ?_
      refine lv_aload_n X.1.1 X.1.2.1 dX9_size_86 rfl (lv_at hl 0 rfl) ?_
      refine x_getr X hG 13 6 0 54 (inC := iX9) rfl q0.1 q0.2 ⟨by decide, by decide, by decide, rfl, by decide, by decide⟩ w8 dX9_size_87 ?_
      obtain ⟨v17, u18, hf, h⟩ := xbd_of h
      refine x_callVi0 X hG hS (c_X7_standingEvents l t _ _ _ _ hf) (cwV 0 X.1.2.2.2.2 gX9_size_X7_standingEvents rfl rfl rfl hd_X7_standingEvents ⟨Nat.le_of_ble_eq_true rfl, Nat.le_of_ble_eq_true rfl⟩) q54.1 q54.2 rfl (by decide) (by rfl) hl.1 (Nat.le_of_ble_eq_true rfl) dX9_size_90 ⟨by decide, by decide⟩ rfl (fun H locs hG hS => ?_)
      cases h
      exact hret _ _ _ _ _ _ (by decide) (by decide) rfl dX9_size_93 rfl hG hS
    replace h := xif_f h c16
    cases h
abbrev r0X9_needStation : Room := { frames := 6, cells := 0, slots := 0, locals := 120 }
set_option maxRecDepth 100000 in
set_option maxHeartbeats 8000000 in
theorem c0_X9_needStation (l : Launch) (hfl : l.stackTraces = false) (t : gP) (x1 : Int) (u : uS) (r : Int) (u' : uS) (h : f_X9_needStation x1 u = some (0, r, u')) : xTv l yX9_needStation wsX9_needStation r0X9_needStation t [.ref (t.2.2.1 0), .int (iI x1)] u 0 u' 0 0 := by
  refine x_ofTv (cc := cX9_needStation) (maxL := 2) (own := RX9) (by decide) rfl rfl (Nat.le_of_ble_eq_true rfl) ?_
  intro p e s m args below meth c Q hQ X hlk htab hret hxo H locs ls hG hS hl
  replace hl : lv_has ls 2 [(0, .ref (t.2.2.1 0)), (1, .int (iI x1))] := hl
  have q0 : 0 < NN ∧ sT 0 = 13 := by decide
  have w1 : Cond.classLink RX9 362 "java/lang/IndexOutOfBoundsException" ∈ wsX9_needStation := x_w 1 rfl
  have w2 : Cond.initialized "java/lang/IndexOutOfBoundsException" ∈ wsX9_needStation := x_w 2 rfl
  have iX9 : ∀ w ∈ wsX90, w ∈ wsX9_needStation := by decide +kernel
  have w3 : Cond.fieldLink RX9 30 "TriggerNetwork" "network" "LTriggerNetwork$Network;" ∈ wsX9_needStation := x_w 3 rfl
  have iX5 : ∀ w ∈ wsX50, w ∈ wsX9_needStation := by decide +kernel
  have w4 : Cond.fieldLink RX9 94 "TriggerNetwork$Network" "stationCount" "I" ∈ wsX9_needStation := x_w 4 rfl
  unfold f_X9_needStation at h
  refine lv_iload_n X.1.1 X.1.2.1 dX9_needStation_0 rfl (lv_at hl 1 rfl) ?_
  obtain ⟨g1, h⟩ := xgd_of h
  obtain ⟨j2, ej2, h⟩ := xlet_of h
  have Jj2 : ∀ (u3 : uS), j2 u3 = some (0, r, u') → xG p l e r0X9_needStation s m args below meth c t Q 2 0 0 15 u3 [] [] := by
      intro u3 h H locs ls hG hS hl
      replace h := (congrFun ej2 u3).symm.trans h
      cases h
  refine x_if_lt (tgt := 15) X g1 dX9_needStation_1 (by decide) (fun c4 => ?_) (fun c4 => ?_)
  · replace h := xif_t h c4
    exact Jj2 _ h _ _ _ hG hS (lv_sub hl [] rfl)
  · replace h := xif_f h c4
    refine lv_iload_n X.1.1 X.1.2.1 dX9_needStation_4 rfl (lv_at hl 1 rfl) ?_
    refine lv_aload_n X.1.1 X.1.2.1 dX9_needStation_5 rfl (lv_at hl 0 rfl) ?_
    obtain ⟨n5, en5, h⟩ := xlet_of h
    refine x_getd X hG 13 4 0 4 (inC := iX9) rfl q0.1 q0.2 ⟨by decide, by decide, by decide, rfl, rfl⟩ en5 w3 dX9_needStation_6 ?_
    obtain ⟨g6, h⟩ := xgd_of h
    refine x_geti X hG 9 10 n5 10 (inC := iX5) rfl g6.1 g6.2 ⟨by decide, by decide, by decide, rfl, rfl⟩ w4 dX9_needStation_9 ?_
    obtain ⟨g7, h⟩ := xgd_of h
    refine x_icmp_lt (tgt := 26) X g7.1 g7.2 dX9_needStation_12 (by decide) (fun c8 => ?_) (fun c8 => ?_)
    · replace h := xif_t h c8
      cases h
      exact hret _ _ _ _ _ _ (by decide) (by decide) rfl dX9_needStation_26 hG hS
    · replace h := xif_f h c8
      exact Jj2 _ h _ _ _ hG hS (lv_sub hl [] rfl)
abbrev r0X9_needNode : Room := { frames := 6, cells := 0, slots := 0, locals := 120 }
set_option maxRecDepth 100000 in
set_option maxHeartbeats 8000000 in
theorem c0_X9_needNode (l : Launch) (hfl : l.stackTraces = false) (t : gP) (x1 : Int) (u : uS) (r : Int) (u' : uS) (h : f_X9_needNode x1 u = some (0, r, u')) : xTv l yX9_needNode wsX9_needNode r0X9_needNode t [.ref (t.2.2.1 0), .int (iI x1)] u 0 u' 0 0 := by
  refine x_ofTv (cc := cX9_needNode) (maxL := 2) (own := RX9) (by decide) rfl rfl (Nat.le_of_ble_eq_true rfl) ?_
  intro p e s m args below meth c Q hQ X hlk htab hret hxo H locs ls hG hS hl
  replace hl : lv_has ls 2 [(0, .ref (t.2.2.1 0)), (1, .int (iI x1))] := hl
  have q0 : 0 < NN ∧ sT 0 = 13 := by decide
  have w1 : Cond.classLink RX9 362 "java/lang/IndexOutOfBoundsException" ∈ wsX9_needNode := x_w 1 rfl
  have w2 : Cond.initialized "java/lang/IndexOutOfBoundsException" ∈ wsX9_needNode := x_w 2 rfl
  have iX9 : ∀ w ∈ wsX90, w ∈ wsX9_needNode := by decide +kernel
  have w3 : Cond.fieldLink RX9 30 "TriggerNetwork" "network" "LTriggerNetwork$Network;" ∈ wsX9_needNode := x_w 3 rfl
  have iX5 : ∀ w ∈ wsX50, w ∈ wsX9_needNode := by decide +kernel
  have w4 : Cond.fieldLink RX9 97 "TriggerNetwork$Network" "grid" "LTriggerNetwork$Grid;" ∈ wsX9_needNode := x_w 4 rfl
  unfold f_X9_needNode at h
  refine lv_iload_n X.1.1 X.1.2.1 dX9_needNode_0 rfl (lv_at hl 1 rfl) ?_
  obtain ⟨g1, h⟩ := xgd_of h
  obtain ⟨j2, ej2, h⟩ := xlet_of h
  have Jj2 : ∀ (u3 : uS), j2 u3 = some (0, r, u') → xG p l e r0X9_needNode s m args below meth c t Q 2 0 0 18 u3 [] [] := by
      intro u3 h H locs ls hG hS hl
      replace h := (congrFun ej2 u3).symm.trans h
      cases h
  refine x_if_lt (tgt := 18) X g1 dX9_needNode_1 (by decide) (fun c4 => ?_) (fun c4 => ?_)
  · replace h := xif_t h c4
    exact Jj2 _ h _ _ _ hG hS (lv_sub hl [] rfl)
  · replace h := xif_f h c4
    refine lv_iload_n X.1.1 X.1.2.1 dX9_needNode_4 rfl (lv_at hl 1 rfl) ?_
    refine lv_aload_n X.1.1 X.1.2.1 dX9_needNode_5 rfl (lv_at hl 0 rfl) ?_
    obtain ⟨n5, en5, h⟩ := xlet_of h
    refine x_getd X hG 13 4 0 4 (inC := iX9) rfl q0.1 q0.2 ⟨by decide, by decide, by decide, rfl, rfl⟩ en5 w3 dX9_needNode_6 ?_
    obtain ⟨g6, h⟩ := xgd_of h
    refine x_getr X hG 9 0 n5 1 (inC := iX5) rfl g6.1 g6.2 ⟨by decide, by decide, by decide, rfl, by decide, by decide⟩ w4 dX9_needNode_9 ?_
    obtain ⟨v7, u8, hf, h⟩ := xbd_of h
    refine x_callVi0 X hG hS (c_X2_nodeCount l t _ _ _ _ hf) (cwV 0 X.1.2.2.2.2 gX9_needNode_X2_nodeCount rfl rfl rfl hd_X2_nodeCount ⟨Nat.le_of_ble_eq_true rfl, Nat.le_of_ble_eq_true rfl⟩) (fx_9_0 g6).1 (fx_9_0 g6).2 rfl (by decide) (by rfl) hl.1 (Nat.le_of_ble_eq_true rfl) dX9_needNode_12 ⟨by decide, by decide⟩ rfl (fun H locs hG hS => ?_)
    obtain ⟨g9, h⟩ := xgd_of h
    refine x_icmp_lt (tgt := 29) X g9.1 g9.2 dX9_needNode_15 (by decide) (fun c10 => ?_) (fun c10 => ?_)
    · replace h := xif_t h c10
      cases h
      exact hret _ _ _ _ _ _ (by decide) (by decide) rfl dX9_needNode_29 hG hS
    · replace h := xif_f h c10
      exact Jj2 _ h _ _ _ hG hS (lv_sub hl [] rfl)
abbrev r0X9_needPick : Room := { frames := 6, cells := 0, slots := 0, locals := 120 }
set_option maxRecDepth 100000 in
set_option maxHeartbeats 8000000 in
theorem c0_X9_needPick (l : Launch) (hfl : l.stackTraces = false) (t : gP) (x1 : Int) (u : uS) (r : Int) (u' : uS) (h : f_X9_needPick x1 u = some (0, r, u')) : xTv l yX9_needPick wsX9_needPick r0X9_needPick t [.ref (t.2.2.1 0), .int (iI x1)] u 0 u' 0 0 := by
  refine x_ofTv (cc := cX9_needPick) (maxL := 2) (own := RX9) (by decide) rfl rfl (Nat.le_of_ble_eq_true rfl) ?_
  intro p e s m args below meth c Q hQ X hlk htab hret hxo H locs ls hG hS hl
  replace hl : lv_has ls 2 [(0, .ref (t.2.2.1 0)), (1, .int (iI x1))] := hl
  have q0 : 0 < NN ∧ sT 0 = 13 := by decide
  have w1 : Cond.classLink RX9 362 "java/lang/IndexOutOfBoundsException" ∈ wsX9_needPick := x_w 1 rfl
  have w2 : Cond.initialized "java/lang/IndexOutOfBoundsException" ∈ wsX9_needPick := x_w 2 rfl
  have iX9 : ∀ w ∈ wsX90, w ∈ wsX9_needPick := by decide +kernel
  have w3 : Cond.fieldLink RX9 40 "TriggerNetwork" "now" "LTriggerNetwork$Situation;" ∈ wsX9_needPick := x_w 3 rfl
  have q54 : 54 < NN ∧ sT 54 = 11 := by decide
  have iX7 : ∀ w ∈ wsX70, w ∈ wsX9_needPick := by decide +kernel
  have w4 : Cond.fieldLink RX9 116 "TriggerNetwork$Situation" "pickCount" "I" ∈ wsX9_needPick := x_w 4 rfl
  unfold f_X9_needPick at h
  refine lv_iload_n X.1.1 X.1.2.1 dX9_needPick_0 rfl (lv_at hl 1 rfl) ?_
  obtain ⟨g1, h⟩ := xgd_of h
  obtain ⟨j2, ej2, h⟩ := xlet_of h
  have Jj2 : ∀ (u3 : uS), j2 u3 = some (0, r, u') → xG p l e r0X9_needPick s m args below meth c t Q 2 0 0 15 u3 [] [] := by
      intro u3 h H locs ls hG hS hl
      replace h := (congrFun ej2 u3).symm.trans h
      cases h
  refine x_if_lt (tgt := 15) X g1 dX9_needPick_1 (by decide) (fun c4 => ?_) (fun c4 => ?_)
  · replace h := xif_t h c4
    exact Jj2 _ h _ _ _ hG hS (lv_sub hl [] rfl)
  · replace h := xif_f h c4
    refine lv_iload_n X.1.1 X.1.2.1 dX9_needPick_4 rfl (lv_at hl 1 rfl) ?_
    refine lv_aload_n X.1.1 X.1.2.1 dX9_needPick_5 rfl (lv_at hl 0 rfl) ?_
    refine x_getr X hG 13 6 0 54 (inC := iX9) rfl q0.1 q0.2 ⟨by decide, by decide, by decide, rfl, by decide, by decide⟩ w3 dX9_needPick_6 ?_
    refine x_geti X hG 11 1 54 1 (inC := iX7) rfl q54.1 q54.2 ⟨by decide, by decide, by decide, rfl, rfl⟩ w4 dX9_needPick_9 ?_
    obtain ⟨g5, h⟩ := xgd_of h
    refine x_icmp_lt (tgt := 26) X g5.1 g5.2 dX9_needPick_12 (by decide) (fun c6 => ?_) (fun c6 => ?_)
    · replace h := xif_t h c6
      cases h
      exact hret _ _ _ _ _ _ (by decide) (by decide) rfl dX9_needPick_26 hG hS
    · replace h := xif_f h c6
      exact Jj2 _ h _ _ _ hG hS (lv_sub hl [] rfl)
abbrev r0X9_needEvent : Room := { frames := 6, cells := 0, slots := 0, locals := 120 }
set_option maxRecDepth 100000 in
set_option maxHeartbeats 8000000 in
theorem c0_X9_needEvent (l : Launch) (hfl : l.stackTraces = false) (t : gP) (x1 : Int) (u : uS) (r : Int) (u' : uS) (h : f_X9_needEvent x1 u = some (0, r, u')) : xTv l yX9_needEvent wsX9_needEvent r0X9_needEvent t [.ref (t.2.2.1 0), .int (iI x1)] u 0 u' 0 0 := by
  refine x_ofTv (cc := cX9_needEvent) (maxL := 2) (own := RX9) (by decide) rfl rfl (Nat.le_of_ble_eq_true rfl) ?_
  intro p e s m args below meth c Q hQ X hlk htab hret hxo H locs ls hG hS hl
  replace hl : lv_has ls 2 [(0, .ref (t.2.2.1 0)), (1, .int (iI x1))] := hl
  have q0 : 0 < NN ∧ sT 0 = 13 := by decide
  have w1 : Cond.classLink RX9 362 "java/lang/IndexOutOfBoundsException" ∈ wsX9_needEvent := x_w 1 rfl
  have w2 : Cond.initialized "java/lang/IndexOutOfBoundsException" ∈ wsX9_needEvent := x_w 2 rfl
  have iX9 : ∀ w ∈ wsX90, w ∈ wsX9_needEvent := by decide +kernel
  have w3 : Cond.fieldLink RX9 40 "TriggerNetwork" "now" "LTriggerNetwork$Situation;" ∈ wsX9_needEvent := x_w 3 rfl
  have q54 : 54 < NN ∧ sT 54 = 11 := by decide
  have iX7 : ∀ w ∈ wsX70, w ∈ wsX9_needEvent := by decide +kernel
  have w4 : Cond.fieldLink RX9 119 "TriggerNetwork$Situation" "eventCount" "I" ∈ wsX9_needEvent := x_w 4 rfl
  unfold f_X9_needEvent at h
  refine lv_iload_n X.1.1 X.1.2.1 dX9_needEvent_0 rfl (lv_at hl 1 rfl) ?_
  obtain ⟨g1, h⟩ := xgd_of h
  obtain ⟨j2, ej2, h⟩ := xlet_of h
  have Jj2 : ∀ (u3 : uS), j2 u3 = some (0, r, u') → xG p l e r0X9_needEvent s m args below meth c t Q 2 0 0 15 u3 [] [] := by
      intro u3 h H locs ls hG hS hl
      replace h := (congrFun ej2 u3).symm.trans h
      cases h
  refine x_if_lt (tgt := 15) X g1 dX9_needEvent_1 (by decide) (fun c4 => ?_) (fun c4 => ?_)
  · replace h := xif_t h c4
    exact Jj2 _ h _ _ _ hG hS (lv_sub hl [] rfl)
  · replace h := xif_f h c4
    refine lv_iload_n X.1.1 X.1.2.1 dX9_needEvent_4 rfl (lv_at hl 1 rfl) ?_
    refine lv_aload_n X.1.1 X.1.2.1 dX9_needEvent_5 rfl (lv_at hl 0 rfl) ?_
    refine x_getr X hG 13 6 0 54 (inC := iX9) rfl q0.1 q0.2 ⟨by decide, by decide, by decide, rfl, by decide, by decide⟩ w3 dX9_needEvent_6 ?_
    refine x_geti X hG 11 2 54 2 (inC := iX7) rfl q54.1 q54.2 ⟨by decide, by decide, by decide, rfl, rfl⟩ w4 dX9_needEvent_9 ?_
    obtain ⟨g5, h⟩ := xgd_of h
    refine x_icmp_lt (tgt := 26) X g5.1 g5.2 dX9_needEvent_12 (by decide) (fun c6 => ?_) (fun c6 => ?_)
    · replace h := xif_t h c6
      cases h
      exact hret _ _ _ _ _ _ (by decide) (by decide) rfl dX9_needEvent_26 hG hS
    · replace h := xif_f h c6
      exact Jj2 _ h _ _ _ hG hS (lv_sub hl [] rfl)
abbrev r0X9_needStanding : Room := { frames := 6, cells := 0, slots := 0, locals := 120 }
set_option maxRecDepth 100000 in
set_option maxHeartbeats 8000000 in
theorem c0_X9_needStanding (l : Launch) (hfl : l.stackTraces = false) (t : gP) (x1 : Int) (u : uS) (r : Int) (u' : uS) (h : f_X9_needStanding x1 u = some (0, r, u')) : xTv l yX9_needStanding wsX9_needStanding r0X9_needStanding t [.ref (t.2.2.1 0), .int (iI x1)] u 0 u' 0 0 := by
  refine x_ofTv (cc := cX9_needStanding) (maxL := 2) (own := RX9) (by decide) rfl rfl (Nat.le_of_ble_eq_true rfl) ?_
  intro p e s m args below meth c Q hQ X hlk htab hret hxo H locs ls hG hS hl
  replace hl : lv_has ls 2 [(0, .ref (t.2.2.1 0)), (1, .int (iI x1))] := hl
  have q0 : 0 < NN ∧ sT 0 = 13 := by decide
  have iX9 : ∀ w ∈ wsX90, w ∈ wsX9_needStanding := by decide +kernel
  have w3 : Cond.fieldLink RX9 40 "TriggerNetwork" "now" "LTriggerNetwork$Situation;" ∈ wsX9_needStanding := x_w 3 rfl
  have q54 : 54 < NN ∧ sT 54 = 11 := by decide
  have iX7 : ∀ w ∈ wsX70, w ∈ wsX9_needStanding := by decide +kernel
  have w4 : Cond.fieldLink RX9 206 "TriggerNetwork$Situation" "retracted" "[I" ∈ wsX9_needStanding := x_w 4 rfl
  have q68 : 68 < NN ∧ sT 68 = 100 ∧ sN 68 = 20 := by decide
  have w1 : Cond.classLink RX9 296 "java/lang/IllegalStateException" ∈ wsX9_needStanding := x_w 1 rfl
  have w2 : Cond.initialized "java/lang/IllegalStateException" ∈ wsX9_needStanding := x_w 2 rfl
  unfold f_X9_needStanding at h
  refine lv_aload_n X.1.1 X.1.2.1 dX9_needStanding_0 rfl (lv_at hl 0 rfl) ?_
  refine x_getr X hG 13 6 0 54 (inC := iX9) rfl q0.1 q0.2 ⟨by decide, by decide, by decide, rfl, by decide, by decide⟩ w3 dX9_needStanding_1 ?_
  refine x_getr X hG 11 16 54 14 (inC := iX7) rfl q54.1 q54.2 ⟨by decide, by decide, by decide, rfl, by decide, by decide⟩ w4 dX9_needStanding_4 ?_
  refine lv_iload_n X.1.1 X.1.2.1 dX9_needStanding_7 rfl (lv_at hl 1 rfl) ?_
  obtain ⟨g1, h⟩ := xgd_of h
  refine x_iald X hG q68.1 q68.2.1 (n := 20) q68.2.2 g1 (by decide) dX9_needStanding_8 ?_
  refine x_iconst X dX9_needStanding_9 ?_
  obtain ⟨g2, h⟩ := xgd_of h
  refine x_icmp_ne (tgt := 24) X g2 ⟨by decide, by decide⟩ dX9_needStanding_10 (by decide) (fun c3 => ?_) (fun c3 => ?_)
  · replace h := xif_f h c3
    cases h
    exact hret _ _ _ _ _ _ (by decide) (by decide) rfl dX9_needStanding_24 hG hS
  · replace h := xif_t h c3
    cases h
abbrev r0X9_station : Room := { frames := 7, cells := 0, slots := 0, locals := 141 }
set_option maxRecDepth 100000 in
set_option maxHeartbeats 8000000 in
theorem c0_X9_station (l : Launch) (hfl : l.stackTraces = false) (t : gP) (x1 : Int) (x2 : Int) (u : uS) (r : Int) (u' : uS) (h : f_X9_station x1 x2 u = some (0, r, u')) : xTi l yX9_station wsX9_station r0X9_station t [.ref (t.2.2.1 0), .int (iI x1), .int (iI x2)] u 0 r u' 0 0 := by
  refine x_ofTi (cc := cX9_station) (maxL := 3) (ret := .int) (own := RX9) (by decide) rfl rfl (Nat.le_of_ble_eq_true rfl) ?_
  intro p e s m args below meth c Q hQ X hlk htab hret hxo H locs ls hG hS hl
  replace hl : lv_has ls 3 [(0, .ref (t.2.2.1 0)), (1, .int (iI x1)), (2, .int (iI x2))] := hl
  have q0 : 0 < NN ∧ sT 0 = 13 := by decide
  have w1 : Cond.classLink RX9 79 "java/lang/IllegalArgumentException" ∈ wsX9_station := x_w 1 rfl
  have w2 : Cond.initialized "java/lang/IllegalArgumentException" ∈ wsX9_station := x_w 2 rfl
  have iX9 : ∀ w ∈ wsX90, w ∈ wsX9_station := by decide +kernel
  have w3 : Cond.fieldLink RX9 30 "TriggerNetwork" "network" "LTriggerNetwork$Network;" ∈ wsX9_station := x_w 3 rfl
  have iX5 : ∀ w ∈ wsX50, w ∈ wsX9_station := by decide +kernel
  have w4 : Cond.fieldLink RX9 150 "TriggerNetwork$Network" "xs" "[I" ∈ wsX9_station := x_w 4 rfl
  have w5 : Cond.fieldLink RX9 153 "TriggerNetwork$Network" "ys" "[I" ∈ wsX9_station := x_w 5 rfl
  have w6 : Cond.fieldLink RX9 40 "TriggerNetwork" "now" "LTriggerNetwork$Situation;" ∈ wsX9_station := x_w 6 rfl
  have q54 : 54 < NN ∧ sT 54 = 11 := by decide
  have iX7 : ∀ w ∈ wsX70, w ∈ wsX9_station := by decide +kernel
  have w7 : Cond.fieldLink RX9 156 "TriggerNetwork$Situation" "levels" "[I" ∈ wsX9_station := x_w 7 rfl
  have q55 : 55 < NN ∧ sT 55 = 100 ∧ sN 55 = 8 := by decide
  have w8 : Cond.fieldLink RX9 159 "TriggerNetwork$Situation" "shortSums" "[I" ∈ wsX9_station := x_w 8 rfl
  have q57 : 57 < NN ∧ sT 57 = 100 ∧ sN 57 = 8 := by decide
  have w9 : Cond.fieldLink RX9 162 "TriggerNetwork$Situation" "longSums" "[I" ∈ wsX9_station := x_w 9 rfl
  have q58 : 58 < NN ∧ sT 58 = 100 ∧ sN 58 = 8 := by decide
  have w10 : Cond.fieldLink RX9 168 "TriggerNetwork$Situation" "triggered" "[I" ∈ wsX9_station := x_w 10 rfl
  have q59 : 59 < NN ∧ sT 59 = 100 ∧ sN 59 = 8 := by decide
  have w11 : Cond.fieldLink RX9 171 "TriggerNetwork$Situation" "muted" "[I" ∈ wsX9_station := x_w 11 rfl
  have q60 : 60 < NN ∧ sT 60 = 100 ∧ sN 60 = 8 := by decide
  unfold f_X9_station at h
  refine lv_aload_n X.1.1 X.1.2.1 dX9_station_0 rfl (lv_at hl 0 rfl) ?_
  refine lv_iload_n X.1.1 X.1.2.1 dX9_station_1 rfl (lv_at hl 1 rfl) ?_
  obtain ⟨g3, v1, u2, hf, h⟩ := xbt_of h
  obtain rfl : g3 = 0 := by rcases h with ⟨h0, _⟩ | ⟨_, h⟩; (exact h0); (cases h; rfl)
  refine x_callVTv X hG hS (c0_X9_needStation l hfl t _ _ _ _ hf) (cwV 1 X.1.2.2.2.2 gX9_station_X9_needStation rfl rfl rfl hd_X9_needStation ⟨Nat.le_of_ble_eq_true rfl, Nat.le_of_ble_eq_true rfl⟩) q0.1 q0.2 rfl (by decide) (by rfl) hl.1 (Nat.le_of_ble_eq_true rfl) dX9_station_2 ⟨by decide, by decide⟩ rfl (fun hg _ _ _ _ _ _ _ _ _ => absurd rfl hg) (fun hg H locs hG hS => ?_)
  replace h := (h.resolve_right (fun q => q.1 hg)).2
  refine lv_iload_n X.1.1 X.1.2.1 dX9_station_5 rfl (lv_at hl 2 rfl) ?_
  obtain ⟨g4, h⟩ := xgd_of h
  rcases Decidable.em (x2 < 0 ∨ 7 < x2) with c5 | c5
  · replace h := xif_t h c5
    refine x_tblO (tgt := 148) X g4 dX9_station_6 c5 (by decide) ?_
    cases h
  · replace h := xif_f h c5
    rcases Decidable.em (x2 = 0) with c6 | c6
    · replace h := xif_t h c6
      refine x_tblI (v := 0) (tgt := 52) X c6 (by decide) ⟨by decide, by decide⟩ dX9_station_6 rfl (by decide) ?_
      refine lv_aload_n X.1.1 X.1.2.1 dX9_station_52 rfl (lv_at hl 0 rfl) ?_
      obtain ⟨n7, en7, h⟩ := xlet_of h
      refine x_getd X hG 13 4 0 4 (inC := iX9) rfl q0.1 q0.2 ⟨by decide, by decide, by decide, rfl, rfl⟩ en7 w3 dX9_station_53 ?_
      obtain ⟨g8, h⟩ := xgd_of h
      refine x_getr X hG 9 11 n7 5 (inC := iX5) rfl g8.1 g8.2 ⟨by decide, by decide, by decide, rfl, by decide, by decide⟩ w4 dX9_station_56 ?_
      refine lv_iload_n X.1.1 X.1.2.1 dX9_station_59 rfl (lv_at hl 1 rfl) ?_
      obtain ⟨g9, h⟩ := xgd_of h
      refine x_iald X hG (fx_9_11 g8).1 (fx_9_11 g8).2.1 (n := 8) (fx_9_11 g8).2.2 g9 (by decide) dX9_station_60 ?_
      cases h
      exact hret _ _ _ _ _ _ (by decide) (by decide) rfl dX9_station_61 rfl hG hS
    replace h := xif_f h c6
    rcases Decidable.em (x2 = 1) with c10 | c10
    · replace h := xif_t h c10
      refine x_tblI (v := 1) (tgt := 62) X c10 (by decide) ⟨by decide, by decide⟩ dX9_station_6 rfl (by decide) ?_
      refine lv_aload_n X.1.1 X.1.2.1 dX9_station_62 rfl (lv_at hl 0 rfl) ?_
      obtain ⟨n11, en11, h⟩ := xlet_of h
      refine x_getd X hG 13 4 0 4 (inC := iX9) rfl q0.1 q0.2 ⟨by decide, by decide, by decide, rfl, rfl⟩ en11 w3 dX9_station_63 ?_
      obtain ⟨g12, h⟩ := xgd_of h
      refine x_getr X hG 9 12 n11 6 (inC := iX5) rfl g12.1 g12.2 ⟨by decide, by decide, by decide, rfl, by decide, by decide⟩ w5 dX9_station_66 ?_
      refine lv_iload_n X.1.1 X.1.2.1 dX9_station_69 rfl (lv_at hl 1 rfl) ?_
      obtain ⟨g13, h⟩ := xgd_of h
      refine x_iald X hG (fx_9_12 g12).1 (fx_9_12 g12).2.1 (n := 8) (fx_9_12 g12).2.2 g13 (by decide) dX9_station_70 ?_
      cases h
      exact hret _ _ _ _ _ _ (by decide) (by decide) rfl dX9_station_71 rfl hG hS
    replace h := xif_f h c10
    rcases Decidable.em (x2 = 2) with c14 | c14
    · replace h := xif_t h c14
      refine x_tblI (v := 2) (tgt := 72) X c14 (by decide) ⟨by decide, by decide⟩ dX9_station_6 rfl (by decide) ?_
      refine lv_aload_n X.1.1 X.1.2.1 dX9_station_72 rfl (lv_at hl 0 rfl) ?_
      refine x_getr X hG 13 6 0 54 (inC := iX9) rfl q0.1 q0.2 ⟨by decide, by decide, by decide, rfl, by decide, by decide⟩ w6 dX9_station_73 ?_
      refine x_getr X hG 11 3 54 1 (inC := iX7) rfl q54.1 q54.2 ⟨by decide, by decide, by decide, rfl, by decide, by decide⟩ w7 dX9_station_76 ?_
      refine lv_iload_n X.1.1 X.1.2.1 dX9_station_79 rfl (lv_at hl 1 rfl) ?_
      obtain ⟨g15, h⟩ := xgd_of h
      refine x_iald X hG q55.1 q55.2.1 (n := 8) q55.2.2 g15 (by decide) dX9_station_80 ?_
      cases h
      exact hret _ _ _ _ _ _ (by decide) (by decide) rfl dX9_station_81 rfl hG hS
    replace h := xif_f h c14
    rcases Decidable.em (x2 = 3) with c16 | c16
    · replace h := xif_t h c16
      refine x_tblI (v := 3) (tgt := 82) X c16 (by decide) ⟨by decide, by decide⟩ dX9_station_6 rfl (by decide) ?_
      refine lv_aload_n X.1.1 X.1.2.1 dX9_station_82 rfl (lv_at hl 0 rfl) ?_
      refine x_getr X hG 13 6 0 54 (inC := iX9) rfl q0.1 q0.2 ⟨by decide, by decide, by decide, rfl, by decide, by decide⟩ w6 dX9_station_83 ?_
      refine x_getr X hG 11 5 54 3 (inC := iX7) rfl q54.1 q54.2 ⟨by decide, by decide, by decide, rfl, by decide, by decide⟩ w8 dX9_station_86 ?_
      refine lv_iload_n X.1.1 X.1.2.1 dX9_station_89 rfl (lv_at hl 1 rfl) ?_
      obtain ⟨g17, h⟩ := xgd_of h
      refine x_iald X hG q57.1 q57.2.1 (n := 8) q57.2.2 g17 (by decide) dX9_station_90 ?_
      cases h
      exact hret _ _ _ _ _ _ (by decide) (by decide) rfl dX9_station_91 rfl hG hS
    replace h := xif_f h c16
    rcases Decidable.em (x2 = 4) with c18 | c18
    · replace h := xif_t h c18
      refine x_tblI (v := 4) (tgt := 92) X c18 (by decide) ⟨by decide, by decide⟩ dX9_station_6 rfl (by decide) ?_
      refine lv_aload_n X.1.1 X.1.2.1 dX9_station_92 rfl (lv_at hl 0 rfl) ?_
      refine x_getr X hG 13 6 0 54 (inC := iX9) rfl q0.1 q0.2 ⟨by decide, by decide, by decide, rfl, by decide, by decide⟩ w6 dX9_station_93 ?_
      refine x_getr X hG 11 6 54 4 (inC := iX7) rfl q54.1 q54.2 ⟨by decide, by decide, by decide, rfl, by decide, by decide⟩ w9 dX9_station_96 ?_
      refine lv_iload_n X.1.1 X.1.2.1 dX9_station_99 rfl (lv_at hl 1 rfl) ?_
      obtain ⟨g19, h⟩ := xgd_of h
      refine x_iald X hG q58.1 q58.2.1 (n := 8) q58.2.2 g19 (by decide) dX9_station_100 ?_
      cases h
      exact hret _ _ _ _ _ _ (by decide) (by decide) rfl dX9_station_101 rfl hG hS
    replace h := xif_f h c18
    rcases Decidable.em (x2 = 5) with c20 | c20
    · replace h := xif_t h c20
      refine x_tblI (v := 5) (tgt := 102) X c20 (by decide) ⟨by decide, by decide⟩ dX9_station_6 rfl (by decide) ?_
      refine lv_aload_n X.1.1 X.1.2.1 dX9_station_102 rfl (lv_at hl 0 rfl) ?_
      obtain ⟨n21, en21, h⟩ := xlet_of h
      refine x_getd X hG 13 4 0 4 (inC := iX9) rfl q0.1 q0.2 ⟨by decide, by decide, by decide, rfl, rfl⟩ en21 w3 dX9_station_103 ?_
      obtain ⟨g22, h⟩ := xgd_of h
      refine lv_aload_n X.1.1 X.1.2.1 dX9_station_106 rfl (lv_at hl 0 rfl) ?_
      refine x_getr X hG 13 6 0 54 (inC := iX9) rfl q0.1 q0.2 ⟨by decide, by decide, by decide, rfl, by decide, by decide⟩ w6 dX9_station_107 ?_
      refine x_getr X hG 11 5 54 3 (inC := iX7) rfl q54.1 q54.2 ⟨by decide, by decide, by decide, rfl, by decide, by decide⟩ w8 dX9_station_110 ?_
      refine lv_iload_n X.1.1 X.1.2.1 dX9_station_113 rfl (lv_at hl 1 rfl) ?_
      obtain ⟨g23, h⟩ := xgd_of h
      refine x_iald X hG q57.1 q57.2.1 (n := 8) q57.2.2 g23 (by decide) dX9_station_114 ?_
      refine lv_aload_n X.1.1 X.1.2.1 dX9_station_115 rfl (lv_at hl 0 rfl) ?_
      refine x_getr X hG 13 6 0 54 (inC := iX9) rfl q0.1 q0.2 ⟨by decide, by decide, by decide, rfl, by decide, by decide⟩ w6 dX9_station_116 ?_
      refine x_getr X hG 11 6 54 4 (inC := iX7) rfl q54.1 q54.2 ⟨by decide, by decide, by decide, rfl, by decide, by decide⟩ w9 dX9_station_119 ?_
      refine lv_iload_n X.1.1 X.1.2.1 dX9_station_122 rfl (lv_at hl 1 rfl) ?_
      obtain ⟨g24, h⟩ := xgd_of h
      refine x_iald X hG q58.1 q58.2.1 (n := 8) q58.2.2 g24 (by decide) dX9_station_123 ?_
      obtain ⟨v25, u26, hf, h⟩ := xbd_of h
      refine x_callVi0 X hG hS (c_X5_ratioOf l t _ _ _ _ _ _ hf) (cwV 2 X.1.2.2.2.2 gX9_station_X5_ratioOf rfl rfl rfl hd_X5_ratioOf ⟨Nat.le_of_ble_eq_true rfl, Nat.le_of_ble_eq_true rfl⟩) g22.1 g22.2 rfl (by decide) (by rfl) hl.1 (Nat.le_of_ble_eq_true rfl) dX9_station_124 ⟨by decide, by decide⟩ rfl (fun H locs hG hS => ?_)
      cases h
      exact hret _ _ _ _ _ _ (by decide) (by decide) rfl dX9_station_127 rfl hG hS
    replace h := xif_f h c20
    rcases Decidable.em (x2 = 6) with c27 | c27
    · replace h := xif_t h c27
      refine x_tblI (v := 6) (tgt := 128) X c27 (by decide) ⟨by decide, by decide⟩ dX9_station_6 rfl (by decide) ?_
      refine lv_aload_n X.1.1 X.1.2.1 dX9_station_128 rfl (lv_at hl 0 rfl) ?_
      refine x_getr X hG 13 6 0 54 (inC := iX9) rfl q0.1 q0.2 ⟨by decide, by decide, by decide, rfl, by decide, by decide⟩ w6 dX9_station_129 ?_
      refine x_getr X hG 11 7 54 5 (inC := iX7) rfl q54.1 q54.2 ⟨by decide, by decide, by decide, rfl, by decide, by decide⟩ w10 dX9_station_132 ?_
      refine lv_iload_n X.1.1 X.1.2.1 dX9_station_135 rfl (lv_at hl 1 rfl) ?_
      obtain ⟨g28, h⟩ := xgd_of h
      refine x_iald X hG q59.1 q59.2.1 (n := 8) q59.2.2 g28 (by decide) dX9_station_136 ?_
      cases h
      exact hret _ _ _ _ _ _ (by decide) (by decide) rfl dX9_station_137 rfl hG hS
    replace h := xif_f h c27
    rcases Decidable.em (x2 = 7) with c29 | c29
    · replace h := xif_t h c29
      refine x_tblI (v := 7) (tgt := 138) X c29 (by decide) ⟨by decide, by decide⟩ dX9_station_6 rfl (by decide) ?_
      refine lv_aload_n X.1.1 X.1.2.1 dX9_station_138 rfl (lv_at hl 0 rfl) ?_
      refine x_getr X hG 13 6 0 54 (inC := iX9) rfl q0.1 q0.2 ⟨by decide, by decide, by decide, rfl, by decide, by decide⟩ w6 dX9_station_139 ?_
      refine x_getr X hG 11 8 54 6 (inC := iX7) rfl q54.1 q54.2 ⟨by decide, by decide, by decide, rfl, by decide, by decide⟩ w11 dX9_station_142 ?_
      refine lv_iload_n X.1.1 X.1.2.1 dX9_station_145 rfl (lv_at hl 1 rfl) ?_
      obtain ⟨g30, h⟩ := xgd_of h
      refine x_iald X hG q60.1 q60.2.1 (n := 8) q60.2.2 g30 (by decide) dX9_station_146 ?_
      cases h
      exact hret _ _ _ _ _ _ (by decide) (by decide) rfl dX9_station_147 rfl hG hS
    replace h := xif_f h c29
    cases h
abbrev r0X9_pick : Room := { frames := 7, cells := 0, slots := 0, locals := 141 }
set_option maxRecDepth 100000 in
set_option maxHeartbeats 8000000 in
theorem c0_X9_pick (l : Launch) (hfl : l.stackTraces = false) (t : gP) (x1 : Int) (x2 : Int) (u : uS) (r : Int) (u' : uS) (h : f_X9_pick x1 x2 u = some (0, r, u')) : xTi l yX9_pick wsX9_pick r0X9_pick t [.ref (t.2.2.1 0), .int (iI x1), .int (iI x2)] u 0 r u' 0 0 := by
  refine x_ofTi (cc := cX9_pick) (maxL := 3) (ret := .int) (own := RX9) (by decide) rfl rfl (Nat.le_of_ble_eq_true rfl) ?_
  intro p e s m args below meth c Q hQ X hlk htab hret hxo H locs ls hG hS hl
  replace hl : lv_has ls 3 [(0, .ref (t.2.2.1 0)), (1, .int (iI x1)), (2, .int (iI x2))] := hl
  have q0 : 0 < NN ∧ sT 0 = 13 := by decide
  have w1 : Cond.classLink RX9 79 "java/lang/IllegalArgumentException" ∈ wsX9_pick := x_w 1 rfl
  have w2 : Cond.initialized "java/lang/IllegalArgumentException" ∈ wsX9_pick := x_w 2 rfl
  have iX9 : ∀ w ∈ wsX90, w ∈ wsX9_pick := by decide +kernel
  have w3 : Cond.fieldLink RX9 40 "TriggerNetwork" "now" "LTriggerNetwork$Situation;" ∈ wsX9_pick := x_w 3 rfl
  have q54 : 54 < NN ∧ sT 54 = 11 := by decide
  have iX7 : ∀ w ∈ wsX70, w ∈ wsX9_pick := by decide +kernel
  have w4 : Cond.fieldLink RX9 182 "TriggerNetwork$Situation" "pickStations" "[I" ∈ wsX9_pick := x_w 4 rfl
  have q62 : 62 < NN ∧ sT 62 = 100 ∧ sN 62 = 60 := by decide
  have w5 : Cond.fieldLink RX9 185 "TriggerNetwork$Situation" "pickTimes" "[I" ∈ wsX9_pick := x_w 5 rfl
  have q63 : 63 < NN ∧ sT 63 = 100 ∧ sN 63 = 60 := by decide
  have w6 : Cond.fieldLink RX9 188 "TriggerNetwork$Situation" "pickPeaks" "[I" ∈ wsX9_pick := x_w 6 rfl
  have q64 : 64 < NN ∧ sT 64 = 100 ∧ sN 64 = 60 := by decide
  have w7 : Cond.fieldLink RX9 191 "TriggerNetwork$Situation" "pickEvents" "[I" ∈ wsX9_pick := x_w 7 rfl
  have q65 : 65 < NN ∧ sT 65 = 100 ∧ sN 65 = 60 := by decide
  have w8 : Cond.fieldLink RX9 194 "TriggerNetwork$Situation" "removed" "[I" ∈ wsX9_pick := x_w 8 rfl
  have q66 : 66 < NN ∧ sT 66 = 100 ∧ sN 66 = 60 := by decide
  unfold f_X9_pick at h
  refine lv_aload_n X.1.1 X.1.2.1 dX9_pick_0 rfl (lv_at hl 0 rfl) ?_
  refine lv_iload_n X.1.1 X.1.2.1 dX9_pick_1 rfl (lv_at hl 1 rfl) ?_
  obtain ⟨g3, v1, u2, hf, h⟩ := xbt_of h
  obtain rfl : g3 = 0 := by rcases h with ⟨h0, _⟩ | ⟨_, h⟩; (exact h0); (cases h; rfl)
  refine x_callVTv X hG hS (c0_X9_needPick l hfl t _ _ _ _ hf) (cwV 1 X.1.2.2.2.2 gX9_pick_X9_needPick rfl rfl rfl hd_X9_needPick ⟨Nat.le_of_ble_eq_true rfl, Nat.le_of_ble_eq_true rfl⟩) q0.1 q0.2 rfl (by decide) (by rfl) hl.1 (Nat.le_of_ble_eq_true rfl) dX9_pick_2 ⟨by decide, by decide⟩ rfl (fun hg _ _ _ _ _ _ _ _ _ => absurd rfl hg) (fun hg H locs hG hS => ?_)
  replace h := (h.resolve_right (fun q => q.1 hg)).2
  refine lv_iload_n X.1.1 X.1.2.1 dX9_pick_5 rfl (lv_at hl 2 rfl) ?_
  obtain ⟨g4, h⟩ := xgd_of h
  rcases Decidable.em (x2 < 0 ∨ 4 < x2) with c5 | c5
  · replace h := xif_t h c5
    refine x_tblO (tgt := 90) X g4 dX9_pick_6 c5 (by decide) ?_
    cases h
  · replace h := xif_f h c5
    rcases Decidable.em (x2 = 0) with c6 | c6
    · replace h := xif_t h c6
      refine x_tblI (v := 0) (tgt := 40) X c6 (by decide) ⟨by decide, by decide⟩ dX9_pick_6 rfl (by decide) ?_
      refine lv_aload_n X.1.1 X.1.2.1 dX9_pick_40 rfl (lv_at hl 0 rfl) ?_
      refine x_getr X hG 13 6 0 54 (inC := iX9) rfl q0.1 q0.2 ⟨by decide, by decide, by decide, rfl, by decide, by decide⟩ w3 dX9_pick_41 ?_
      refine x_getr X hG 11 10 54 8 (inC := iX7) rfl q54.1 q54.2 ⟨by decide, by decide, by decide, rfl, by decide, by decide⟩ w4 dX9_pick_44 ?_
      refine lv_iload_n X.1.1 X.1.2.1 dX9_pick_47 rfl (lv_at hl 1 rfl) ?_
      obtain ⟨g7, h⟩ := xgd_of h
      refine x_iald X hG q62.1 q62.2.1 (n := 60) q62.2.2 g7 (by decide) dX9_pick_48 ?_
      cases h
      exact hret _ _ _ _ _ _ (by decide) (by decide) rfl dX9_pick_49 rfl hG hS
    replace h := xif_f h c6
    rcases Decidable.em (x2 = 1) with c8 | c8
    · replace h := xif_t h c8
      refine x_tblI (v := 1) (tgt := 50) X c8 (by decide) ⟨by decide, by decide⟩ dX9_pick_6 rfl (by decide) ?_
      refine lv_aload_n X.1.1 X.1.2.1 dX9_pick_50 rfl (lv_at hl 0 rfl) ?_
      refine x_getr X hG 13 6 0 54 (inC := iX9) rfl q0.1 q0.2 ⟨by decide, by decide, by decide, rfl, by decide, by decide⟩ w3 dX9_pick_51 ?_
      refine x_getr X hG 11 11 54 9 (inC := iX7) rfl q54.1 q54.2 ⟨by decide, by decide, by decide, rfl, by decide, by decide⟩ w5 dX9_pick_54 ?_
      refine lv_iload_n X.1.1 X.1.2.1 dX9_pick_57 rfl (lv_at hl 1 rfl) ?_
      obtain ⟨g9, h⟩ := xgd_of h
      refine x_iald X hG q63.1 q63.2.1 (n := 60) q63.2.2 g9 (by decide) dX9_pick_58 ?_
      cases h
      exact hret _ _ _ _ _ _ (by decide) (by decide) rfl dX9_pick_59 rfl hG hS
    replace h := xif_f h c8
    rcases Decidable.em (x2 = 2) with c10 | c10
    · replace h := xif_t h c10
      refine x_tblI (v := 2) (tgt := 60) X c10 (by decide) ⟨by decide, by decide⟩ dX9_pick_6 rfl (by decide) ?_
      refine lv_aload_n X.1.1 X.1.2.1 dX9_pick_60 rfl (lv_at hl 0 rfl) ?_
      refine x_getr X hG 13 6 0 54 (inC := iX9) rfl q0.1 q0.2 ⟨by decide, by decide, by decide, rfl, by decide, by decide⟩ w3 dX9_pick_61 ?_
      refine x_getr X hG 11 12 54 10 (inC := iX7) rfl q54.1 q54.2 ⟨by decide, by decide, by decide, rfl, by decide, by decide⟩ w6 dX9_pick_64 ?_
      refine lv_iload_n X.1.1 X.1.2.1 dX9_pick_67 rfl (lv_at hl 1 rfl) ?_
      obtain ⟨g11, h⟩ := xgd_of h
      refine x_iald X hG q64.1 q64.2.1 (n := 60) q64.2.2 g11 (by decide) dX9_pick_68 ?_
      cases h
      exact hret _ _ _ _ _ _ (by decide) (by decide) rfl dX9_pick_69 rfl hG hS
    replace h := xif_f h c10
    rcases Decidable.em (x2 = 3) with c12 | c12
    · replace h := xif_t h c12
      refine x_tblI (v := 3) (tgt := 70) X c12 (by decide) ⟨by decide, by decide⟩ dX9_pick_6 rfl (by decide) ?_
      refine lv_aload_n X.1.1 X.1.2.1 dX9_pick_70 rfl (lv_at hl 0 rfl) ?_
      refine x_getr X hG 13 6 0 54 (inC := iX9) rfl q0.1 q0.2 ⟨by decide, by decide, by decide, rfl, by decide, by decide⟩ w3 dX9_pick_71 ?_
      refine x_getr X hG 11 13 54 11 (inC := iX7) rfl q54.1 q54.2 ⟨by decide, by decide, by decide, rfl, by decide, by decide⟩ w7 dX9_pick_74 ?_
      refine lv_iload_n X.1.1 X.1.2.1 dX9_pick_77 rfl (lv_at hl 1 rfl) ?_
      obtain ⟨g13, h⟩ := xgd_of h
      refine x_iald X hG q65.1 q65.2.1 (n := 60) q65.2.2 g13 (by decide) dX9_pick_78 ?_
      cases h
      exact hret _ _ _ _ _ _ (by decide) (by decide) rfl dX9_pick_79 rfl hG hS
    replace h := xif_f h c12
    rcases Decidable.em (x2 = 4) with c14 | c14
    · replace h := xif_t h c14
      refine x_tblI (v := 4) (tgt := 80) X c14 (by decide) ⟨by decide, by decide⟩ dX9_pick_6 rfl (by decide) ?_
      refine lv_aload_n X.1.1 X.1.2.1 dX9_pick_80 rfl (lv_at hl 0 rfl) ?_
      refine x_getr X hG 13 6 0 54 (inC := iX9) rfl q0.1 q0.2 ⟨by decide, by decide, by decide, rfl, by decide, by decide⟩ w3 dX9_pick_81 ?_
      refine x_getr X hG 11 14 54 12 (inC := iX7) rfl q54.1 q54.2 ⟨by decide, by decide, by decide, rfl, by decide, by decide⟩ w8 dX9_pick_84 ?_
      refine lv_iload_n X.1.1 X.1.2.1 dX9_pick_87 rfl (lv_at hl 1 rfl) ?_
      obtain ⟨g15, h⟩ := xgd_of h
      refine x_iald X hG q66.1 q66.2.1 (n := 60) q66.2.2 g15 (by decide) dX9_pick_88 ?_
      cases h
      exact hret _ _ _ _ _ _ (by decide) (by decide) rfl dX9_pick_89 rfl hG hS
    replace h := xif_f h c14
    cases h
abbrev r0X9_fits : Room := { frames := 7, cells := 0, slots := 0, locals := 141 }
set_option maxRecDepth 100000 in
set_option maxHeartbeats 8000000 in
theorem c0_X9_fits (l : Launch) (hfl : l.stackTraces = false) (t : gP) (x1 : Int) (x2 : Int) (u : uS) (r : Int) (u' : uS) (h : f_X9_fits x1 x2 u = some (0, r, u')) : xTi l yX9_fits wsX9_fits r0X9_fits t [.ref (t.2.2.1 0), .int (iI x1), .int (iI x2)] u 0 r u' 0 0 := by
  refine x_ofTi (cc := cX9_fits) (maxL := 3) (ret := .boolean) (own := RX9) (by decide) rfl rfl (Nat.le_of_ble_eq_true rfl) ?_
  intro p e s m args below meth c Q hQ X hlk htab hret hxo H locs ls hG hS hl
  replace hl : lv_has ls 3 [(0, .ref (t.2.2.1 0)), (1, .int (iI x1)), (2, .int (iI x2))] := hl
  have q0 : 0 < NN ∧ sT 0 = 13 := by decide
  have iX9 : ∀ w ∈ wsX90, w ∈ wsX9_fits := by decide +kernel
  have w1 : Cond.fieldLink RX9 40 "TriggerNetwork" "now" "LTriggerNetwork$Situation;" ∈ wsX9_fits := x_w 1 rfl
  have q54 : 54 < NN ∧ sT 54 = 11 := by decide
  have w2 : Cond.fieldLink RX9 30 "TriggerNetwork" "network" "LTriggerNetwork$Network;" ∈ wsX9_fits := x_w 2 rfl
  unfold f_X9_fits at h
  refine lv_aload_n X.1.1 X.1.2.1 dX9_fits_0 rfl (lv_at hl 0 rfl) ?_
  refine lv_iload_n X.1.1 X.1.2.1 dX9_fits_1 rfl (lv_at hl 1 rfl) ?_
  obtain ⟨g3, v1, u2, hf, h⟩ := xbt_of h
  obtain rfl : g3 = 0 := by rcases h with ⟨h0, _⟩ | ⟨_, h⟩; (exact h0); (cases h; rfl)
  refine x_callVTv X hG hS (c0_X9_needPick l hfl t _ _ _ _ hf) (cwV 1 X.1.2.2.2.2 gX9_fits_X9_needPick rfl rfl rfl hd_X9_needPick ⟨Nat.le_of_ble_eq_true rfl, Nat.le_of_ble_eq_true rfl⟩) q0.1 q0.2 rfl (by decide) (by rfl) hl.1 (Nat.le_of_ble_eq_true rfl) dX9_fits_2 ⟨by decide, by decide⟩ rfl (fun hg _ _ _ _ _ _ _ _ _ => absurd rfl hg) (fun hg H locs hG hS => ?_)
  replace h := (h.resolve_right (fun q => q.1 hg)).2
  refine lv_aload_n X.1.1 X.1.2.1 dX9_fits_5 rfl (lv_at hl 0 rfl) ?_
  refine lv_iload_n X.1.1 X.1.2.1 dX9_fits_6 rfl (lv_at hl 2 rfl) ?_
  obtain ⟨g6, v4, u5, hf, h⟩ := xbt_of h
  obtain rfl : g6 = 0 := by rcases h with ⟨h0, _⟩ | ⟨_, h⟩; (exact h0); (cases h; rfl)
  refine x_callVTv X hG hS (c0_X9_needPick l hfl t _ _ _ _ hf) (cwV 1 X.1.2.2.2.2 gX9_fits_X9_needPick rfl rfl rfl hd_X9_needPick ⟨Nat.le_of_ble_eq_true rfl, Nat.le_of_ble_eq_true rfl⟩) q0.1 q0.2 rfl (by decide) (by rfl) hl.1 (Nat.le_of_ble_eq_true rfl) dX9_fits_7 ⟨by decide, by decide⟩ rfl (fun hg _ _ _ _ _ _ _ _ _ => absurd rfl hg) (fun hg H locs hG hS => ?_)
  replace h := (h.resolve_right (fun q => q.1 hg)).2
  refine lv_aload_n X.1.1 X.1.2.1 dX9_fits_10 rfl (lv_at hl 0 rfl) ?_
  refine x_getr X hG 13 6 0 54 (inC := iX9) rfl q0.1 q0.2 ⟨by decide, by decide, by decide, rfl, by decide, by decide⟩ w1 dX9_fits_11 ?_
  refine lv_aload_n X.1.1 X.1.2.1 dX9_fits_14 rfl (lv_at hl 0 rfl) ?_
  obtain ⟨n7, en7, h⟩ := xlet_of h
  refine x_getd X hG 13 4 0 4 (inC := iX9) rfl q0.1 q0.2 ⟨by decide, by decide, by decide, rfl, rfl⟩ en7 w2 dX9_fits_15 ?_
  obtain ⟨g8, h⟩ := xgd_of h
  refine lv_iload_n X.1.1 X.1.2.1 dX9_fits_18 rfl (lv_at hl 1 rfl) ?_
  refine lv_iload_n X.1.1 X.1.2.1 dX9_fits_19 rfl (lv_at hl 2 rfl) ?_
  obtain ⟨v9, u10, hf, h⟩ := xbd_of h
  refine x_callVi0 X hG hS (c_X7_picksFit l t _ _ _ _ _ _ _ hf) (cwV 3 X.1.2.2.2.2 gX9_fits_X7_picksFit rfl rfl rfl hd_X7_picksFit ⟨Nat.le_of_ble_eq_true rfl, Nat.le_of_ble_eq_true rfl⟩) q54.1 q54.2 rfl (by decide) (by rfl) hl.1 (Nat.le_of_ble_eq_true rfl) dX9_fits_20 ⟨by decide, by decide⟩ rfl (fun H locs hG hS => ?_)
  obtain ⟨g11, h⟩ := xgd_of h
  cases h
  exact hret _ _ _ _ _ _ (by decide) (by decide) rfl dX9_fits_23 (nz_of g11) hG hS
abbrev r0X9_event : Room := { frames := 7, cells := 0, slots := 0, locals := 141 }
set_option maxRecDepth 100000 in
set_option maxHeartbeats 8000000 in
theorem c0_X9_event (l : Launch) (hfl : l.stackTraces = false) (t : gP) (x1 : Int) (x2 : Int) (u : uS) (r : Int) (u' : uS) (h : f_X9_event x1 x2 u = some (0, r, u')) : xTi l yX9_event wsX9_event r0X9_event t [.ref (t.2.2.1 0), .int (iI x1), .int (iI x2)] u 0 r u' 0 0 := by
  refine x_ofTi (cc := cX9_event) (maxL := 3) (ret := .int) (own := RX9) (by decide) rfl rfl (Nat.le_of_ble_eq_true rfl) ?_
  intro p e s m args below meth c Q hQ X hlk htab hret hxo H locs ls hG hS hl
  replace hl : lv_has ls 3 [(0, .ref (t.2.2.1 0)), (1, .int (iI x1)), (2, .int (iI x2))] := hl
  have q0 : 0 < NN ∧ sT 0 = 13 := by decide
  have w1 : Cond.classLink RX9 79 "java/lang/IllegalArgumentException" ∈ wsX9_event := x_w 1 rfl
  have w2 : Cond.initialized "java/lang/IllegalArgumentException" ∈ wsX9_event := x_w 2 rfl
  have iX9 : ∀ w ∈ wsX90, w ∈ wsX9_event := by decide +kernel
  have w3 : Cond.fieldLink RX9 40 "TriggerNetwork" "now" "LTriggerNetwork$Situation;" ∈ wsX9_event := x_w 3 rfl
  have q54 : 54 < NN ∧ sT 54 = 11 := by decide
  have iX7 : ∀ w ∈ wsX70, w ∈ wsX9_event := by decide +kernel
  have w4 : Cond.fieldLink RX9 206 "TriggerNetwork$Situation" "retracted" "[I" ∈ wsX9_event := x_w 4 rfl
  have q68 : 68 < NN ∧ sT 68 = 100 ∧ sN 68 = 20 := by decide
  have w5 : Cond.fieldLink RX9 212 "TriggerNetwork$Situation" "declared" "[I" ∈ wsX9_event := x_w 5 rfl
  have q67 : 67 < NN ∧ sT 67 = 100 ∧ sN 67 = 20 := by decide
  unfold f_X9_event at h
  refine lv_aload_n X.1.1 X.1.2.1 dX9_event_0 rfl (lv_at hl 0 rfl) ?_
  refine lv_iload_n X.1.1 X.1.2.1 dX9_event_1 rfl (lv_at hl 1 rfl) ?_
  obtain ⟨g3, v1, u2, hf, h⟩ := xbt_of h
  obtain rfl : g3 = 0 := by rcases h with ⟨h0, _⟩ | ⟨_, h⟩; (exact h0); (cases h; rfl)
  refine x_callVTv X hG hS (c0_X9_needEvent l hfl t _ _ _ _ hf) (cwV 1 X.1.2.2.2.2 gX9_event_X9_needEvent rfl rfl rfl hd_X9_needEvent ⟨Nat.le_of_ble_eq_true rfl, Nat.le_of_ble_eq_true rfl⟩) q0.1 q0.2 rfl (by decide) (by rfl) hl.1 (Nat.le_of_ble_eq_true rfl) dX9_event_2 ⟨by decide, by decide⟩ rfl (fun hg _ _ _ _ _ _ _ _ _ => absurd rfl hg) (fun hg H locs hG hS => ?_)
  replace h := (h.resolve_right (fun q => q.1 hg)).2
  refine lv_iload_n X.1.1 X.1.2.1 dX9_event_5 rfl (lv_at hl 2 rfl) ?_
  obtain ⟨g4, h⟩ := xgd_of h
  rcases Decidable.em (x2 < 0 ∨ 6 < x2) with c5 | c5
  · replace h := xif_t h c5
    refine x_tblO (tgt := 101) X g4 dX9_event_6 c5 (by decide) ?_
    cases h
  · replace h := xif_f h c5
    rcases Decidable.em (x2 = 0) with c6 | c6
    · replace h := xif_t h c6
      refine x_tblI (v := 0) (tgt := 48) X c6 (by decide) ⟨by decide, by decide⟩ dX9_event_6 rfl (by decide) ?_
      refine lv_aload_n X.1.1 X.1.2.1 dX9_event_48 rfl (lv_at hl 0 rfl) ?_
      refine x_getr X hG 13 6 0 54 (inC := iX9) rfl q0.1 q0.2 ⟨by decide, by decide, by decide, rfl, by decide, by decide⟩ w3 dX9_event_49 ?_
      refine x_getr X hG 11 16 54 14 (inC := iX7) rfl q54.1 q54.2 ⟨by decide, by decide, by decide, rfl, by decide, by decide⟩ w4 dX9_event_52 ?_
      refine lv_iload_n X.1.1 X.1.2.1 dX9_event_55 rfl (lv_at hl 1 rfl) ?_
      obtain ⟨g7, h⟩ := xgd_of h
      refine x_iald X hG q68.1 q68.2.1 (n := 20) q68.2.2 g7 (by decide) dX9_event_56 ?_
      cases h
      exact hret _ _ _ _ _ _ (by decide) (by decide) rfl dX9_event_57 rfl hG hS
    replace h := xif_f h c6
    rcases Decidable.em (x2 = 1) with c8 | c8
    · replace h := xif_t h c8
      refine x_tblI (v := 1) (tgt := 58) X c8 (by decide) ⟨by decide, by decide⟩ dX9_event_6 rfl (by decide) ?_
      refine lv_aload_n X.1.1 X.1.2.1 dX9_event_58 rfl (lv_at hl 0 rfl) ?_
      refine x_getr X hG 13 6 0 54 (inC := iX9) rfl q0.1 q0.2 ⟨by decide, by decide, by decide, rfl, by decide, by decide⟩ w3 dX9_event_59 ?_
      refine lv_iload_n X.1.1 X.1.2.1 dX9_event_62 rfl (lv_at hl 1 rfl) ?_
      obtain ⟨v9, u10, hf, h⟩ := xbd_of h
      refine x_callVi0 X hG hS (c_X7_picksOf l t _ _ _ _ _ hf) (cwV 1 X.1.2.2.2.2 gX9_event_X7_picksOf rfl rfl rfl hd_X7_picksOf ⟨Nat.le_of_ble_eq_true rfl, Nat.le_of_ble_eq_true rfl⟩) q54.1 q54.2 rfl (by decide) (by rfl) hl.1 (Nat.le_of_ble_eq_true rfl) dX9_event_63 ⟨by decide, by decide⟩ rfl (fun H locs hG hS => ?_)
      cases h
      exact hret _ _ _ _ _ _ (by decide) (by decide) rfl dX9_event_66 rfl hG hS
    replace h := xif_f h c8
    rcases Decidable.em (x2 = 2) with c11 | c11
    · replace h := xif_t h c11
      refine x_tblI (v := 2) (tgt := 67) X c11 (by decide) ⟨by decide, by decide⟩ dX9_event_6 rfl (by decide) ?_
      refine lv_aload_n X.1.1 X.1.2.1 dX9_event_67 rfl (lv_at hl 0 rfl) ?_
      refine x_getr X hG 13 6 0 54 (inC := iX9) rfl q0.1 q0.2 ⟨by decide, by decide, by decide, rfl, by decide, by decide⟩ w3 dX9_event_68 ?_
      refine x_getr X hG 11 15 54 13 (inC := iX7) rfl q54.1 q54.2 ⟨by decide, by decide, by decide, rfl, by decide, by decide⟩ w5 dX9_event_71 ?_
      refine lv_iload_n X.1.1 X.1.2.1 dX9_event_74 rfl (lv_at hl 1 rfl) ?_
      obtain ⟨g12, h⟩ := xgd_of h
      refine x_iald X hG q67.1 q67.2.1 (n := 20) q67.2.2 g12 (by decide) dX9_event_75 ?_
      cases h
      exact hret _ _ _ _ _ _ (by decide) (by decide) rfl dX9_event_76 rfl hG hS
    replace h := xif_f h c11
    rcases Decidable.em (x2 = 3) with c13 | c13
    · replace h := xif_t h c13
      refine x_tblI (v := 3) (tgt := 77) X c13 (by decide) ⟨by decide, by decide⟩ dX9_event_6 rfl (by decide) ?_
      refine lv_aload_n X.1.1 X.1.2.1 dX9_event_77 rfl (lv_at hl 0 rfl) ?_
      refine x_getr X hG 13 6 0 54 (inC := iX9) rfl q0.1 q0.2 ⟨by decide, by decide, by decide, rfl, by decide, by decide⟩ w3 dX9_event_78 ?_
      refine x_getr X hG 11 16 54 14 (inC := iX7) rfl q54.1 q54.2 ⟨by decide, by decide, by decide, rfl, by decide, by decide⟩ w4 dX9_event_81 ?_
      refine lv_iload_n X.1.1 X.1.2.1 dX9_event_84 rfl (lv_at hl 1 rfl) ?_
      obtain ⟨g14, h⟩ := xgd_of h
      refine x_iald X hG q68.1 q68.2.1 (n := 20) q68.2.2 g14 (by decide) dX9_event_85 ?_
      refine x_iconst X dX9_event_86 ?_
      obtain ⟨g15, h⟩ := xgd_of h
      refine x_icmp_ne (tgt := 94) X g15 ⟨by decide, by decide⟩ dX9_event_87 (by decide) (fun c16 => ?_) (fun c16 => ?_)
      · replace h := xif_f h c16
        refine lv_aload_n X.1.1 X.1.2.1 dX9_event_94 rfl (lv_at hl 0 rfl) ?_
        refine lv_iload_n X.1.1 X.1.2.1 dX9_event_95 rfl (lv_at hl 1 rfl) ?_
        refine lv_iload_n X.1.1 X.1.2.1 dX9_event_96 rfl (lv_at hl 2 rfl) ?_
        obtain ⟨v17, u18, hf, h⟩ := xbd_of h
        refine x_callVi0 X hG hS (c_X9_located l t _ _ _ _ _ hf) (cwV 2 X.1.2.2.2.2 gX9_event_X9_located rfl rfl rfl hd_X9_located ⟨Nat.le_of_ble_eq_true rfl, Nat.le_of_ble_eq_true rfl⟩) q0.1 q0.2 rfl (by decide) (by rfl) hl.1 (Nat.le_of_ble_eq_true rfl) dX9_event_97 ⟨by decide, by decide⟩ rfl (fun H locs hG hS => ?_)
        cases h
        exact hret _ _ _ _ _ _ (by decide) (by decide) rfl dX9_event_100 rfl hG hS
      · replace h := xif_t h c16
        refine x_iconst X dX9_event_90 ?_
        refine lv_goto (tgt := 100) X.1.1 X.1.2.1 dX9_event_91 (by decide) ?_
        cases h
        exact hret _ _ _ _ _ _ (by decide) (by decide) rfl dX9_event_100 rfl hG hS
    replace h := xif_f h c13
    rcases Decidable.em (x2 = 4) with c19 | c19
    · replace h := xif_t h c19
      refine x_tblI (v := 4) (tgt := 77) X c19 (by decide) ⟨by decide, by decide⟩ dX9_event_6 rfl (by decide) ?_
      refine lv_aload_n X.1.1 X.1.2.1 dX9_event_77 rfl (lv_at hl 0 rfl) ?_
      refine x_getr X hG 13 6 0 54 (inC := iX9) rfl q0.1 q0.2 ⟨by decide, by decide, by decide, rfl, by decide, by decide⟩ w3 dX9_event_78 ?_
      refine x_getr X hG 11 16 54 14 (inC := iX7) rfl q54.1 q54.2 ⟨by decide, by decide, by decide, rfl, by decide, by decide⟩ w4 dX9_event_81 ?_
      refine lv_iload_n X.1.1 X.1.2.1 dX9_event_84 rfl (lv_at hl 1 rfl) ?_
      obtain ⟨g20, h⟩ := xgd_of h
      refine x_iald X hG q68.1 q68.2.1 (n := 20) q68.2.2 g20 (by decide) dX9_event_85 ?_
      refine x_iconst X dX9_event_86 ?_
      obtain ⟨g21, h⟩ := xgd_of h
      refine x_icmp_ne (tgt := 94) X g21 ⟨by decide, by decide⟩ dX9_event_87 (by decide) (fun c22 => ?_) (fun c22 => ?_)
      · replace h := xif_f h c22
        refine lv_aload_n X.1.1 X.1.2.1 dX9_event_94 rfl (lv_at hl 0 rfl) ?_
        refine lv_iload_n X.1.1 X.1.2.1 dX9_event_95 rfl (lv_at hl 1 rfl) ?_
        refine lv_iload_n X.1.1 X.1.2.1 dX9_event_96 rfl (lv_at hl 2 rfl) ?_
        obtain ⟨v23, u24, hf, h⟩ := xbd_of h
        refine x_callVi0 X hG hS (c_X9_located l t _ _ _ _ _ hf) (cwV 2 X.1.2.2.2.2 gX9_event_X9_located rfl rfl rfl hd_X9_located ⟨Nat.le_of_ble_eq_true rfl, Nat.le_of_ble_eq_true rfl⟩) q0.1 q0.2 rfl (by decide) (by rfl) hl.1 (Nat.le_of_ble_eq_true rfl) dX9_event_97 ⟨by decide, by decide⟩ rfl (fun H locs hG hS => ?_)
        cases h
        exact hret _ _ _ _ _ _ (by decide) (by decide) rfl dX9_event_100 rfl hG hS
      · replace h := xif_t h c22
        refine x_iconst X dX9_event_90 ?_
        refine lv_goto (tgt := 100) X.1.1 X.1.2.1 dX9_event_91 (by decide) ?_
        cases h
        exact hret _ _ _ _ _ _ (by decide) (by decide) rfl dX9_event_100 rfl hG hS
    replace h := xif_f h c19
    rcases Decidable.em (x2 = 5) with c25 | c25
    · replace h := xif_t h c25
      refine x_tblI (v := 5) (tgt := 77) X c25 (by decide) ⟨by decide, by decide⟩ dX9_event_6 rfl (by decide) ?_
      refine lv_aload_n X.1.1 X.1.2.1 dX9_event_77 rfl (lv_at hl 0 rfl) ?_
      refine x_getr X hG 13 6 0 54 (inC := iX9) rfl q0.1 q0.2 ⟨by decide, by decide, by decide, rfl, by decide, by decide⟩ w3 dX9_event_78 ?_
      refine x_getr X hG 11 16 54 14 (inC := iX7) rfl q54.1 q54.2 ⟨by decide, by decide, by decide, rfl, by decide, by decide⟩ w4 dX9_event_81 ?_
      refine lv_iload_n X.1.1 X.1.2.1 dX9_event_84 rfl (lv_at hl 1 rfl) ?_
      obtain ⟨g26, h⟩ := xgd_of h
      refine x_iald X hG q68.1 q68.2.1 (n := 20) q68.2.2 g26 (by decide) dX9_event_85 ?_
      refine x_iconst X dX9_event_86 ?_
      obtain ⟨g27, h⟩ := xgd_of h
      refine x_icmp_ne (tgt := 94) X g27 ⟨by decide, by decide⟩ dX9_event_87 (by decide) (fun c28 => ?_) (fun c28 => ?_)
      · replace h := xif_f h c28
        refine lv_aload_n X.1.1 X.1.2.1 dX9_event_94 rfl (lv_at hl 0 rfl) ?_
        refine lv_iload_n X.1.1 X.1.2.1 dX9_event_95 rfl (lv_at hl 1 rfl) ?_
        refine lv_iload_n X.1.1 X.1.2.1 dX9_event_96 rfl (lv_at hl 2 rfl) ?_
        obtain ⟨v29, u30, hf, h⟩ := xbd_of h
        refine x_callVi0 X hG hS (c_X9_located l t _ _ _ _ _ hf) (cwV 2 X.1.2.2.2.2 gX9_event_X9_located rfl rfl rfl hd_X9_located ⟨Nat.le_of_ble_eq_true rfl, Nat.le_of_ble_eq_true rfl⟩) q0.1 q0.2 rfl (by decide) (by rfl) hl.1 (Nat.le_of_ble_eq_true rfl) dX9_event_97 ⟨by decide, by decide⟩ rfl (fun H locs hG hS => ?_)
        cases h
        exact hret _ _ _ _ _ _ (by decide) (by decide) rfl dX9_event_100 rfl hG hS
      · replace h := xif_t h c28
        refine x_iconst X dX9_event_90 ?_
        refine lv_goto (tgt := 100) X.1.1 X.1.2.1 dX9_event_91 (by decide) ?_
        cases h
        exact hret _ _ _ _ _ _ (by decide) (by decide) rfl dX9_event_100 rfl hG hS
    replace h := xif_f h c25
    rcases Decidable.em (x2 = 6) with c31 | c31
    · replace h := xif_t h c31
      refine x_tblI (v := 6) (tgt := 77) X c31 (by decide) ⟨by decide, by decide⟩ dX9_event_6 rfl (by decide) ?_
      refine lv_aload_n X.1.1 X.1.2.1 dX9_event_77 rfl (lv_at hl 0 rfl) ?_
      refine x_getr X hG 13 6 0 54 (inC := iX9) rfl q0.1 q0.2 ⟨by decide, by decide, by decide, rfl, by decide, by decide⟩ w3 dX9_event_78 ?_
      refine x_getr X hG 11 16 54 14 (inC := iX7) rfl q54.1 q54.2 ⟨by decide, by decide, by decide, rfl, by decide, by decide⟩ w4 dX9_event_81 ?_
      refine lv_iload_n X.1.1 X.1.2.1 dX9_event_84 rfl (lv_at hl 1 rfl) ?_
      obtain ⟨g32, h⟩ := xgd_of h
      refine x_iald X hG q68.1 q68.2.1 (n := 20) q68.2.2 g32 (by decide) dX9_event_85 ?_
      refine x_iconst X dX9_event_86 ?_
      obtain ⟨g33, h⟩ := xgd_of h
      refine x_icmp_ne (tgt := 94) X g33 ⟨by decide, by decide⟩ dX9_event_87 (by decide) (fun c34 => ?_) (fun c34 => ?_)
      · replace h := xif_f h c34
        refine lv_aload_n X.1.1 X.1.2.1 dX9_event_94 rfl (lv_at hl 0 rfl) ?_
        refine lv_iload_n X.1.1 X.1.2.1 dX9_event_95 rfl (lv_at hl 1 rfl) ?_
        refine lv_iload_n X.1.1 X.1.2.1 dX9_event_96 rfl (lv_at hl 2 rfl) ?_
        obtain ⟨v35, u36, hf, h⟩ := xbd_of h
        refine x_callVi0 X hG hS (c_X9_located l t _ _ _ _ _ hf) (cwV 2 X.1.2.2.2.2 gX9_event_X9_located rfl rfl rfl hd_X9_located ⟨Nat.le_of_ble_eq_true rfl, Nat.le_of_ble_eq_true rfl⟩) q0.1 q0.2 rfl (by decide) (by rfl) hl.1 (Nat.le_of_ble_eq_true rfl) dX9_event_97 ⟨by decide, by decide⟩ rfl (fun H locs hG hS => ?_)
        cases h
        exact hret _ _ _ _ _ _ (by decide) (by decide) rfl dX9_event_100 rfl hG hS
      · replace h := xif_t h c34
        refine x_iconst X dX9_event_90 ?_
        refine lv_goto (tgt := 100) X.1.1 X.1.2.1 dX9_event_91 (by decide) ?_
        cases h
        exact hret _ _ _ _ _ _ (by decide) (by decide) rfl dX9_event_100 rfl hG hS
    replace h := xif_f h c31
    cases h
abbrev r0X9_misfit : Room := { frames := 7, cells := 0, slots := 0, locals := 141 }
set_option maxRecDepth 100000 in
set_option maxHeartbeats 8000000 in
theorem c0_X9_misfit (l : Launch) (hfl : l.stackTraces = false) (t : gP) (x1 : Int) (x2 : Int) (u : uS) (r : Int) (u' : uS) (h : f_X9_misfit x1 x2 u = some (0, r, u')) : xTi l yX9_misfit wsX9_misfit r0X9_misfit t [.ref (t.2.2.1 0), .int (iI x1), .int (iI x2)] u 0 r u' 0 0 := by
  refine x_ofTi (cc := cX9_misfit) (maxL := 3) (ret := .int) (own := RX9) (by decide) rfl rfl (Nat.le_of_ble_eq_true rfl) ?_
  intro p e s m args below meth c Q hQ X hlk htab hret hxo H locs ls hG hS hl
  replace hl : lv_has ls 3 [(0, .ref (t.2.2.1 0)), (1, .int (iI x1)), (2, .int (iI x2))] := hl
  have q0 : 0 < NN ∧ sT 0 = 13 := by decide
  have iX9 : ∀ w ∈ wsX90, w ∈ wsX9_misfit := by decide +kernel
  have w1 : Cond.fieldLink RX9 64 "TriggerNetwork" "locator" "LTriggerNetwork$Locator;" ∈ wsX9_misfit := x_w 1 rfl
  have q30 : 30 < NN ∧ sT 30 = 7 := by decide
  have w2 : Cond.fieldLink RX9 40 "TriggerNetwork" "now" "LTriggerNetwork$Situation;" ∈ wsX9_misfit := x_w 2 rfl
  have q54 : 54 < NN ∧ sT 54 = 11 := by decide
  have w3 : Cond.fieldLink RX9 30 "TriggerNetwork" "network" "LTriggerNetwork$Network;" ∈ wsX9_misfit := x_w 3 rfl
  have iX3 : ∀ w ∈ wsX30, w ∈ wsX9_misfit := by decide +kernel
  have w4 : Cond.fieldLink RX9 234 "TriggerNetwork$Locator" "misfit" "I" ∈ wsX9_misfit := x_w 4 rfl
  unfold f_X9_misfit at h
  refine lv_aload_n X.1.1 X.1.2.1 dX9_misfit_0 rfl (lv_at hl 0 rfl) ?_
  refine lv_iload_n X.1.1 X.1.2.1 dX9_misfit_1 rfl (lv_at hl 1 rfl) ?_
  obtain ⟨g3, v1, u2, hf, h⟩ := xbt_of h
  obtain rfl : g3 = 0 := by rcases h with ⟨h0, _⟩ | ⟨_, h⟩; (exact h0); (cases h; rfl)
  refine x_callVTv X hG hS (c0_X9_needNode l hfl t _ _ _ _ hf) (cwV 1 X.1.2.2.2.2 gX9_misfit_X9_needNode rfl rfl rfl hd_X9_needNode ⟨Nat.le_of_ble_eq_true rfl, Nat.le_of_ble_eq_true rfl⟩) q0.1 q0.2 rfl (by decide) (by rfl) hl.1 (Nat.le_of_ble_eq_true rfl) dX9_misfit_2 ⟨by decide, by decide⟩ rfl (fun hg _ _ _ _ _ _ _ _ _ => absurd rfl hg) (fun hg H locs hG hS => ?_)
  replace h := (h.resolve_right (fun q => q.1 hg)).2
  refine lv_aload_n X.1.1 X.1.2.1 dX9_misfit_5 rfl (lv_at hl 0 rfl) ?_
  refine lv_iload_n X.1.1 X.1.2.1 dX9_misfit_6 rfl (lv_at hl 2 rfl) ?_
  obtain ⟨g6, v4, u5, hf, h⟩ := xbt_of h
  obtain rfl : g6 = 0 := by rcases h with ⟨h0, _⟩ | ⟨_, h⟩; (exact h0); (cases h; rfl)
  refine x_callVTv X hG hS (c0_X9_needEvent l hfl t _ _ _ _ hf) (cwV 1 X.1.2.2.2.2 gX9_misfit_X9_needEvent rfl rfl rfl hd_X9_needEvent ⟨Nat.le_of_ble_eq_true rfl, Nat.le_of_ble_eq_true rfl⟩) q0.1 q0.2 rfl (by decide) (by rfl) hl.1 (Nat.le_of_ble_eq_true rfl) dX9_misfit_7 ⟨by decide, by decide⟩ rfl (fun hg _ _ _ _ _ _ _ _ _ => absurd rfl hg) (fun hg H locs hG hS => ?_)
  replace h := (h.resolve_right (fun q => q.1 hg)).2
  refine lv_aload_n X.1.1 X.1.2.1 dX9_misfit_10 rfl (lv_at hl 0 rfl) ?_
  refine lv_iload_n X.1.1 X.1.2.1 dX9_misfit_11 rfl (lv_at hl 2 rfl) ?_
  obtain ⟨g9, v7, u8, hf, h⟩ := xbt_of h
  obtain rfl : g9 = 0 := by rcases h with ⟨h0, _⟩ | ⟨_, h⟩; (exact h0); (cases h; rfl)
  refine x_callVTv X hG hS (c0_X9_needStanding l hfl t _ _ _ _ hf) (cwV 1 X.1.2.2.2.2 gX9_misfit_X9_needStanding rfl rfl rfl hd_X9_needStanding ⟨Nat.le_of_ble_eq_true rfl, Nat.le_of_ble_eq_true rfl⟩) q0.1 q0.2 rfl (by decide) (by rfl) hl.1 (Nat.le_of_ble_eq_true rfl) dX9_misfit_12 ⟨by decide, by decide⟩ rfl (fun hg _ _ _ _ _ _ _ _ _ => absurd rfl hg) (fun hg H locs hG hS => ?_)
  replace h := (h.resolve_right (fun q => q.1 hg)).2
  refine lv_aload_n X.1.1 X.1.2.1 dX9_misfit_15 rfl (lv_at hl 0 rfl) ?_
  refine x_getr X hG 13 10 0 30 (inC := iX9) rfl q0.1 q0.2 ⟨by decide, by decide, by decide, rfl, by decide, by decide⟩ w1 dX9_misfit_16 ?_
  refine lv_aload_n X.1.1 X.1.2.1 dX9_misfit_19 rfl (lv_at hl 0 rfl) ?_
  refine x_getr X hG 13 6 0 54 (inC := iX9) rfl q0.1 q0.2 ⟨by decide, by decide, by decide, rfl, by decide, by decide⟩ w2 dX9_misfit_20 ?_
  refine lv_iload_n X.1.1 X.1.2.1 dX9_misfit_23 rfl (lv_at hl 2 rfl) ?_
  obtain ⟨v10, u11, hf, h⟩ := xbd_of h
  refine x_callVv0 X hG hS (c_X3_gather l t _ _ _ _ _ hf) (cwV 2 X.1.2.2.2.2 gX9_misfit_X3_gather rfl rfl rfl hd_X3_gather ⟨Nat.le_of_ble_eq_true rfl, Nat.le_of_ble_eq_true rfl⟩) q30.1 q30.2 rfl (by decide) (by rfl) hl.1 (Nat.le_of_ble_eq_true rfl) dX9_misfit_24 ⟨by decide, by decide⟩ rfl (fun H locs hG hS => ?_)
  refine lv_aload_n X.1.1 X.1.2.1 dX9_misfit_27 rfl (lv_at hl 0 rfl) ?_
  refine x_getr X hG 13 10 0 30 (inC := iX9) rfl q0.1 q0.2 ⟨by decide, by decide, by decide, rfl, by decide, by decide⟩ w1 dX9_misfit_28 ?_
  refine lv_aload_n X.1.1 X.1.2.1 dX9_misfit_31 rfl (lv_at hl 0 rfl) ?_
  obtain ⟨n12, en12, h⟩ := xlet_of h
  refine x_getd X hG 13 4 0 4 (inC := iX9) rfl q0.1 q0.2 ⟨by decide, by decide, by decide, rfl, rfl⟩ en12 w3 dX9_misfit_32 ?_
  obtain ⟨g13, h⟩ := xgd_of h
  refine lv_aload_n X.1.1 X.1.2.1 dX9_misfit_35 rfl (lv_at hl 0 rfl) ?_
  refine x_getr X hG 13 6 0 54 (inC := iX9) rfl q0.1 q0.2 ⟨by decide, by decide, by decide, rfl, by decide, by decide⟩ w2 dX9_misfit_36 ?_
  refine lv_iload_n X.1.1 X.1.2.1 dX9_misfit_39 rfl (lv_at hl 1 rfl) ?_
  obtain ⟨v14, u15, hf, h⟩ := xbd_of h
  refine x_callVv0 X hG hS (c_X3_weigh l t _ _ _ _ _ _ hf) (cwV 3 X.1.2.2.2.2 gX9_misfit_X3_weigh rfl rfl rfl hd_X3_weigh ⟨Nat.le_of_ble_eq_true rfl, Nat.le_of_ble_eq_true rfl⟩) q30.1 q30.2 rfl (by decide) (by rfl) hl.1 (Nat.le_of_ble_eq_true rfl) dX9_misfit_40 ⟨by decide, by decide⟩ rfl (fun H locs hG hS => ?_)
  refine lv_aload_n X.1.1 X.1.2.1 dX9_misfit_43 rfl (lv_at hl 0 rfl) ?_
  refine x_getr X hG 13 10 0 30 (inC := iX9) rfl q0.1 q0.2 ⟨by decide, by decide, by decide, rfl, by decide, by decide⟩ w1 dX9_misfit_44 ?_
  refine x_geti X hG 7 3 30 3 (inC := iX3) rfl q30.1 q30.2 ⟨by decide, by decide, by decide, rfl, rfl⟩ w4 dX9_misfit_47 ?_
  cases h
  exact hret _ _ _ _ _ _ (by decide) (by decide) rfl dX9_misfit_50 rfl hG hS
