abbrev rL_draw : Room := { frames := 0, cells := 0, slots := 0, locals := 0 }
set_option maxRecDepth 100000 in
set_option maxHeartbeats 8000000 in
theorem c_L_draw (l : Launch) (t : gP) (x1 : Int) (u : uS) (r : Int) (u' : uS) (h : f_L_draw x1 u = some (r, u')) (aq357 : al t 357) : xMi l yL_draw wsL_draw rL_draw t [.ref (t.2.2.1 357), .int (iI x1)] u r u' 0 0 := by
  refine x_ofWi (cc := cL_draw) (maxL := 2) (ret := .int) (own := RL) (by decide) rfl rfl (Nat.le_of_ble_eq_true rfl) ?_
  intro p e s m args below meth c Q X hret H locs ls hG hS hl
  replace hl : lv_has ls 2 [(0, .ref (t.2.2.1 357)), (1, .int (iI x1))] := hl
  have w1 : Cond.constant RL 23 (1664525) ∈ wsL_draw := x_w 1 rfl
  have w2 : Cond.constant RL 24 (1013904223) ∈ wsL_draw := x_w 2 rfl
  have q357 : al t 357 ∧ sT 357 = 100 ∧ sN 357 = 1 := ⟨aq357, by decide +kernel, by decide +kernel⟩
  unfold f_L_draw at h
  refine lv_aload_n X.1.1 X.1.2.1 dL_draw_0 rfl (lv_at hl 0 rfl) ?_
  refine x_iconst X dL_draw_1 ?_
  refine lv_aload_n X.1.1 X.1.2.1 dL_draw_2 rfl (lv_at hl 0 rfl) ?_
  refine x_iconst X dL_draw_3 ?_
  refine y_iald X hG q357.1 q357.2.1 (n := 1) q357.2.2 ⟨by decide, by decide⟩ (by decide) dL_draw_4 ?_
  refine x_ldc X 1664525 rfl w1 dL_draw_5 ?_
  refine x_imul X dL_draw_7 ?_
  refine x_ldc X 1013904223 rfl w2 dL_draw_8 ?_
  refine x_iadd X dL_draw_10 ?_
  refine y_iast X hG hS q357.1 q357.2.1 (n := 1) q357.2.2 ⟨by decide, by decide⟩ (by decide) dL_draw_11 (fun H locs hG hS => ?_)
  obtain ⟨u1, eu1, h⟩ := xlet_of h
  replace hG : G t u1 H := by rw [eu1]; exact hG
  refine lv_aload_n X.1.1 X.1.2.1 dL_draw_12 rfl (lv_at hl 0 rfl) ?_
  refine x_iconst X dL_draw_13 ?_
  refine y_iald X hG q357.1 q357.2.1 (n := 1) q357.2.2 ⟨by decide, by decide⟩ (by decide) dL_draw_14 ?_
  refine x_bipush X dL_draw_15 (by decide) ?_
  refine x_iushr X ⟨by decide, by decide⟩ dL_draw_17 ?_
  refine lv_iload_n X.1.1 X.1.2.1 dL_draw_18 rfl (lv_at hl 1 rfl) ?_
  obtain ⟨g2, h⟩ := xgd_of h
  refine x_irem X g2.1 g2.2.1 g2.2.2 dL_draw_19 ?_
  cases h
  exact hret _ _ _ _ dL_draw_20 rfl hG hS
theorem hds_L_draw : yL_draw.cls ≠ "java/lang/invoke/MethodHandle" ∧ yL_draw.cls ≠ "java/lang/invoke/VarHandle" ∧ (parseMethodDescriptor yL_draw.desc).map (fun d => d.parameters.length) = some 2 := by decide +kernel
abbrev rX10_root : Room := { frames := 0, cells := 0, slots := 0, locals := 0 }
set_option maxRecDepth 100000 in
set_option maxHeartbeats 8000000 in
theorem c_X10_root (l : Launch) (t : gP) (x0 : Int) (u : uS) (r : Int) (u' : uS) (h : f_X10_root x0 u = some (r, u')) : xMi l yX10_root wsX10_root rX10_root t [.int (iI x0)] u r u' 0 0 := by
  refine x_ofWi (cc := cX10_root) (maxL := 4) (ret := .int) (own := RX10) (by decide) rfl rfl (Nat.le_of_ble_eq_true rfl) ?_
  intro p e s m args below meth c Q X hret H locs ls hG hS hl
  replace hl : lv_has ls 4 [(0, .int (iI x0))] := hl
  unfold f_X10_root at h
  refine x_iconst X dX10_root_0 ?_
  refine lv_istore_n (lv' := [(1, .int (iI 0)), (0, .int (iI x0))]) X.1.1 X.1.2.1 dX10_root_1 rfl hl (by decide) rfl (fun ls hl => ?_)
  refine x_sipush X dX10_root_2 (by decide) ?_
  refine lv_istore_n (lv' := [(2, .int (iI 4000)), (1, .int (iI 0)), (0, .int (iI x0))]) X.1.1 X.1.2.1 dX10_root_5 rfl hl (by decide) rfl (fun ls hl => ?_)
  have Lgo1 : ∀ (n : Nat) (x1_2 : Int) (x2_3 : Int) (u4 : uS), xl3 (s_X10_root_6 x0) n x1_2 x2_3 u4 = some (r, u') → xG p l e rX10_root s m args below meth c t Q 4 0 0 6 u4 [(1, .int (iI x1_2)), (2, .int (iI x2_3)), (0, .int (iI x0))] [] := by
    intro n x1_2 x2_3 u4 h
    refine xl3_W (F := s_X10_root_6 x0) (fun x1_2 x2_3 u4 q => q = (r, u') → xG p l e rX10_root s m args below meth c t Q 4 0 0 6 u4 [(1, .int (iI x1_2)), (2, .int (iI x2_3)), (0, .int (iI x0))] []) ?_ n x1_2 x2_3 u4 _ h rfl
    intro go1 igo1 x1_2 x2_3 u4 q h hq H locs ls hG hS hl
    subst hq
    unfold s_X10_root_6 at h
    refine lv_iload_n X.1.1 X.1.2.1 dX10_root_6 rfl (lv_at hl 0 rfl) ?_
    refine lv_iload_n X.1.1 X.1.2.1 dX10_root_7 rfl (lv_at hl 1 rfl) ?_
    obtain ⟨g5, h⟩ := xgd_of h
    refine x_icmp_ge (tgt := 38) X g5.1 g5.2 dX10_root_8 (by decide) (fun c6 => ?_) (fun c6 => ?_)
    · replace h := xif_t h c6
      refine lv_iload_n X.1.1 X.1.2.1 dX10_root_38 rfl (lv_at hl 0 rfl) ?_
      cases h
      exact hret _ _ _ _ dX10_root_39 rfl hG hS
    · replace h := xif_f h c6
      refine lv_iload_n X.1.1 X.1.2.1 dX10_root_11 rfl (lv_at hl 0 rfl) ?_
      refine lv_iload_n X.1.1 X.1.2.1 dX10_root_12 rfl (lv_at hl 1 rfl) ?_
      refine x_iadd X dX10_root_13 ?_
      refine x_iconst X dX10_root_14 ?_
      refine x_iadd X dX10_root_15 ?_
      refine x_iconst X dX10_root_16 ?_
      obtain ⟨g7, h⟩ := xgd_of h
      refine x_idiv X g7 ⟨by decide, by decide⟩ (by decide) dX10_root_17 ?_
      refine x_name (fun x3_8 ex3_8 => ?_)
      replace h := xlet_at ex3_8 h
      refine lv_istore_n (lv' := [(3, .int (iI x3_8)), (1, .int (iI x1_2)), (2, .int (iI x2_3)), (0, .int (iI x0))]) X.1.1 X.1.2.1 dX10_root_18 rfl hl (by decide) rfl (fun ls hl => ?_)
      refine lv_iload_n X.1.1 X.1.2.1 dX10_root_19 rfl (lv_at hl 0 rfl) ?_
      refine lv_iload_n X.1.1 X.1.2.1 dX10_root_20 rfl (lv_at hl 0 rfl) ?_
      refine x_imul X dX10_root_21 ?_
      refine lv_iload_n X.1.1 X.1.2.1 dX10_root_22 rfl (lv_at hl 3 rfl) ?_
      obtain ⟨g9, h⟩ := xgd_of h
      refine x_icmp_gt (tgt := 31) X g9.1 g9.2 dX10_root_23 (by decide) (fun c10 => ?_) (fun c10 => ?_)
      · replace h := xif_t h c10
        refine lv_iload_n X.1.1 X.1.2.1 dX10_root_31 rfl (lv_at hl 0 rfl) ?_
        refine x_iconst X dX10_root_32 ?_
        refine x_isub X dX10_root_33 ?_
        refine x_name (fun x2_11 ex2_11 => ?_)
        replace h := xlet_at ex2_11 h
        refine lv_istore_n (lv' := [(2, .int (iI x2_11)), (3, .int (iI x3_8)), (1, .int (iI x1_2)), (0, .int (iI x0))]) X.1.1 X.1.2.1 dX10_root_34 rfl hl (by decide) rfl (fun ls hl => ?_)
        refine lv_goto (tgt := 6) X.1.1 X.1.2.1 dX10_root_35 (by decide) ?_
        exact igo1 _ _ _ _ h rfl _ _ _ hG hS (lv_sub hl [2, 0, 3] rfl)
      · replace h := xif_f h c10
        refine lv_iload_n X.1.1 X.1.2.1 dX10_root_26 rfl (lv_at hl 0 rfl) ?_
        refine lv_istore_n (lv' := [(1, .int (iI x3_8)), (3, .int (iI x3_8)), (2, .int (iI x2_3)), (0, .int (iI x0))]) X.1.1 X.1.2.1 dX10_root_27 rfl hl (by decide) rfl (fun ls hl => ?_)
        refine lv_goto (tgt := 35) X.1.1 X.1.2.1 dX10_root_28 (by decide) ?_
        refine lv_goto (tgt := 6) X.1.1 X.1.2.1 dX10_root_35 (by decide) ?_
        exact igo1 _ _ _ _ h rfl _ _ _ hG hS (lv_sub hl [0, 2, 3] rfl)
  exact Lgo1 FU _ _ _ h _ _ _ hG hS (lv_sub hl [1, 0, 2] rfl)
theorem hds_X10_root : yX10_root.cls ≠ "java/lang/invoke/MethodHandle" ∧ yX10_root.cls ≠ "java/lang/invoke/VarHandle" ∧ (parseMethodDescriptor yX10_root.desc).map (fun d => d.parameters.length) = some 1 := by decide +kernel
abbrev rX10_far : Room := { frames := 1, cells := 0, slots := 0, locals := 23 }
set_option maxRecDepth 100000 in
set_option maxHeartbeats 8000000 in
theorem c_X10_far (l : Launch) (t : gP) (x0 : Int) (x1 : Int) (k2 : Nat) (u : uS) (r : Int) (u' : uS) (h : f_X10_far x0 x1 k2 u = some (r, u')) (qk2 : al t k2 ∧ sT k2 = 16) : xMi l yX10_far wsX10_far rX10_far t [.int (iI x0), .int (iI x1), .ref (t.2.2.1 k2)] u r u' 0 0 := by
  refine x_ofWi (cc := cX10_far) (maxL := 3) (ret := .int) (own := RX10) (by decide) rfl rfl (Nat.le_of_ble_eq_true rfl) ?_
  intro p e s m args below meth c Q X hret H locs ls hG hS hl
  replace hl : lv_has ls 3 [(0, .int (iI x0)), (1, .int (iI x1)), (2, .ref (t.2.2.1 k2))] := hl
  have iX12 : ∀ w ∈ wsX120, w ∈ wsX10_far := by decide +kernel
  unfold f_X10_far at h
  refine lv_iload_n X.1.1 X.1.2.1 dX10_far_0 rfl (lv_at hl 0 rfl) ?_
  refine lv_aload_n X.1.1 X.1.2.1 dX10_far_1 rfl (lv_at hl 2 rfl) ?_
  refine yN_geti X hG 16 0 k2 0 (inC := iX12) rfl qk2.1 qk2.2 ⟨by decide, by decide, by decide, rfl, rfl⟩ (x_m 34 rfl) dX10_far_2 ?_
  refine x_isub X dX10_far_5 ?_
  refine lv_iload_n X.1.1 X.1.2.1 dX10_far_6 rfl (lv_at hl 0 rfl) ?_
  refine lv_aload_n X.1.1 X.1.2.1 dX10_far_7 rfl (lv_at hl 2 rfl) ?_
  refine yN_geti X hG 16 0 k2 0 (inC := iX12) rfl qk2.1 qk2.2 ⟨by decide, by decide, by decide, rfl, rfl⟩ (x_m 34 rfl) dX10_far_8 ?_
  refine x_isub X dX10_far_11 ?_
  refine x_imul X dX10_far_12 ?_
  refine lv_iload_n X.1.1 X.1.2.1 dX10_far_13 rfl (lv_at hl 1 rfl) ?_
  refine lv_aload_n X.1.1 X.1.2.1 dX10_far_14 rfl (lv_at hl 2 rfl) ?_
  refine yN_geti X hG 16 1 k2 1 (inC := iX12) rfl qk2.1 qk2.2 ⟨by decide, by decide, by decide, rfl, rfl⟩ (x_m 35 rfl) dX10_far_15 ?_
  refine x_isub X dX10_far_18 ?_
  refine lv_iload_n X.1.1 X.1.2.1 dX10_far_19 rfl (lv_at hl 1 rfl) ?_
  refine lv_aload_n X.1.1 X.1.2.1 dX10_far_20 rfl (lv_at hl 2 rfl) ?_
  refine yN_geti X hG 16 1 k2 1 (inC := iX12) rfl qk2.1 qk2.2 ⟨by decide, by decide, by decide, rfl, rfl⟩ (x_m 35 rfl) dX10_far_21 ?_
  refine x_isub X dX10_far_24 ?_
  refine x_imul X dX10_far_25 ?_
  refine x_iadd X dX10_far_26 ?_
  obtain ⟨v1, u2, hf, h⟩ := xbd_of h
  refine x_callSi0 X hG hS (c_X10_root l t _ _ _ _ hf) (va_cwS 1 X.1.2.2.2.2 gX10_far_X10_root rfl rfl rfl hds_X10_root ⟨Nat.le_of_ble_eq_true rfl, Nat.le_of_ble_eq_true rfl⟩) (by rfl) hl.1 (Nat.le_of_ble_eq_true rfl) dX10_far_27 ⟨by decide, by decide⟩ rfl (fun H locs hG hS => ?_)
  cases h
  exact hret _ _ _ _ dX10_far_30 rfl hG hS
theorem hds_X10_far : yX10_far.cls ≠ "java/lang/invoke/MethodHandle" ∧ yX10_far.cls ≠ "java/lang/invoke/VarHandle" ∧ (parseMethodDescriptor yX10_far.desc).map (fun d => d.parameters.length) = some 3 := by decide +kernel
abbrev rX10_time : Room := { frames := 2, cells := 0, slots := 0, locals := 45 }
set_option maxRecDepth 100000 in
set_option maxHeartbeats 8000000 in
theorem c_X10_time (l : Launch) (t : gP) (x1 : Int) (x2 : Int) (k3 : Nat) (u : uS) (r : Int) (u' : uS) (h : f_X10_time x1 x2 k3 u = some (r, u')) (aq264 : al t 264) (qk3 : al t k3 ∧ sT k3 = 16) : xMi l yX10_time wsX10_time rX10_time t [.ref (t.2.2.1 264), .int (iI x1), .int (iI x2), .ref (t.2.2.1 k3)] u r u' 0 0 := by
  refine x_ofWi (cc := cX10_time) (maxL := 4) (ret := .int) (own := RX10) (by decide) rfl rfl (Nat.le_of_ble_eq_true rfl) ?_
  intro p e s m args below meth c Q X hret H locs ls hG hS hl
  replace hl : lv_has ls 4 [(0, .ref (t.2.2.1 264)), (1, .int (iI x1)), (2, .int (iI x2)), (3, .ref (t.2.2.1 k3))] := hl
  have w1 : Cond.fieldLink RX10 39 "TriggerNetworkLaw$Net" "tenths" "I" ∈ wsX10_time := x_w 1 rfl
  have iX10 : ∀ w ∈ wsX100, w ∈ wsX10_time := by decide +kernel
  have q264 : al t 264 ∧ sT 264 = 14 := ⟨aq264, by decide +kernel⟩
  unfold f_X10_time at h
  refine lv_iload_n X.1.1 X.1.2.1 dX10_time_0 rfl (lv_at hl 1 rfl) ?_
  refine lv_iload_n X.1.1 X.1.2.1 dX10_time_1 rfl (lv_at hl 2 rfl) ?_
  refine lv_aload_n X.1.1 X.1.2.1 dX10_time_2 rfl (lv_at hl 3 rfl) ?_
  obtain ⟨v1, u2, hf, h⟩ := xbd_of h
  refine x_callSi0 X hG hS (c_X10_far l t _ _ _ _ _ _ hf qk3) (va_cwS 3 X.1.2.2.2.2 gX10_time_X10_far rfl rfl rfl hds_X10_far ⟨Nat.le_of_ble_eq_true rfl, Nat.le_of_ble_eq_true rfl⟩) (by rfl) hl.1 (Nat.le_of_ble_eq_true rfl) dX10_time_3 ⟨by decide, by decide⟩ rfl (fun H locs hG hS => ?_)
  refine x_bipush X dX10_time_6 (by decide) ?_
  refine x_imul X dX10_time_8 ?_
  refine lv_aload_n X.1.1 X.1.2.1 dX10_time_9 rfl (lv_at hl 0 rfl) ?_
  refine y_geti X hG 14 16 264 16 (inC := iX10) rfl q264.1 q264.2 ⟨by decide, by decide, by decide, rfl, rfl⟩ w1 dX10_time_10 ?_
  obtain ⟨g3, h⟩ := xgd_of h
  refine x_idiv X g3.1 g3.2.1 g3.2.2 dX10_time_13 ?_
  cases h
  exact hret _ _ _ _ dX10_time_14 rfl hG hS
theorem hd_X10_time : yX10_time.cls = RX10 ∧ yX10_time.cls ≠ "java/lang/invoke/MethodHandle" ∧ yX10_time.cls ≠ "java/lang/invoke/VarHandle" ∧ (parseMethodDescriptor yX10_time.desc).map (fun d => d.parameters.length) = some 3 := by decide +kernel
abbrev rX10_sum : Room := { frames := 1, cells := 0, slots := 0, locals := 60 }
set_option maxRecDepth 100000 in
set_option maxHeartbeats 8000000 in
theorem c_X10_sum (l : Launch) (t : gP) (k1 : Nat) (x2 : Int) (u : uS) (r : Int) (u' : uS) (h : f_X10_sum k1 x2 u = some (r, u')) (aq264 : al t 264) (qk1 : al t k1 ∧ sT k1 = 16) : xMi l yX10_sum wsX10_sum rX10_sum t [.ref (t.2.2.1 264), .ref (t.2.2.1 k1), .int (iI x2)] u r u' 0 0 := by
  refine x_ofWi (cc := cX10_sum) (maxL := 5) (ret := .int) (own := RX10) (by decide) rfl rfl (Nat.le_of_ble_eq_true rfl) ?_
  intro p e s m args below meth c Q X hret H locs ls hG hS hl
  replace hl : lv_has ls 5 [(0, .ref (t.2.2.1 264)), (1, .ref (t.2.2.1 k1)), (2, .int (iI x2))] := hl
  have w1 : Cond.fieldLink RX10 53 "TriggerNetworkLaw$Net" "tick" "I" ∈ wsX10_sum := x_w 1 rfl
  have iX10 : ∀ w ∈ wsX100, w ∈ wsX10_sum := by decide +kernel
  have w2 : Cond.methodLink RX10 56 Lib.Math.max.name ∈ wsX10_sum := x_w 2 rfl
  have w3 : Cond.static Lib.Math.max.name ∈ wsX10_sum := x_w 3 rfl
  have w4 : Cond.initialized "java/lang/Math" ∈ wsX10_sum := x_w 4 rfl
  have w5 : Cond.code Lib.Math.max.name Lib.Math.max.code 2 (some .int) ∈ wsX10_sum := x_w 5 rfl
  have iX12 : ∀ w ∈ wsX120, w ∈ wsX10_sum := by decide +kernel
  have q264 : al t 264 ∧ sT 264 = 14 := ⟨aq264, by decide +kernel⟩
  unfold f_X10_sum at h
  refine x_iconst X dX10_sum_0 ?_
  refine lv_istore_n (lv' := [(3, .int (iI 0)), (0, .ref (t.2.2.1 264)), (1, .ref (t.2.2.1 k1)), (2, .int (iI x2))]) X.1.1 X.1.2.1 dX10_sum_1 rfl hl (by decide) rfl (fun ls hl => ?_)
  refine x_iconst X dX10_sum_2 ?_
  refine lv_aload_n X.1.1 X.1.2.1 dX10_sum_3 rfl (lv_at hl 1 rfl) ?_
  refine y_geti X hG 14 9 264 9 (inC := iX10) rfl q264.1 q264.2 ⟨by decide, by decide, by decide, rfl, rfl⟩ w1 dX10_sum_4 ?_
  refine lv_iload_n X.1.1 X.1.2.1 dX10_sum_7 rfl (lv_at hl 3 rfl) ?_
  refine x_isub X dX10_sum_8 ?_
  refine x_iconst X dX10_sum_9 ?_
  refine x_iadd X dX10_sum_10 ?_
  obtain ⟨g1, h⟩ := xgd_of h
  refine x_mmax (R := rX10_sum) X ⟨by decide, by decide⟩ g1 hl.1 w2 w3 w4 w5 (by decide) (by decide) dX10_sum_11 (Nat.le_of_ble_eq_true rfl) ⟨by decide, by decide⟩ ?_
  refine x_name (fun x4_2 ex4_2 => ?_)
  replace h := xlet_at ex4_2 h
  refine lv_istore (lv' := [(4, .int (iI x4_2)), (3, .int (iI 0)), (0, .ref (t.2.2.1 264)), (1, .ref (t.2.2.1 k1)), (2, .int (iI x2))]) X.1.1 X.1.2.1 dX10_sum_14 hl (by decide) rfl (fun ls hl => ?_)
  have Lgo3 : ∀ (n : Nat) (x3_4 : Int) (x4_5 : Int) (u6 : uS), xl3 (s_X10_sum_16 k1) n x3_4 x4_5 u6 = some (r, u') → xG p l e rX10_sum s m args below meth c t Q 5 0 0 16 u6 [(3, .int (iI x3_4)), (4, .int (iI x4_5)), (0, .ref (t.2.2.1 264)), (1, .ref (t.2.2.1 k1))] [] := by
    intro n x3_4 x4_5 u6 h
    refine xl3_W (F := s_X10_sum_16 k1) (fun x3_4 x4_5 u6 q => q = (r, u') → xG p l e rX10_sum s m args below meth c t Q 5 0 0 16 u6 [(3, .int (iI x3_4)), (4, .int (iI x4_5)), (0, .ref (t.2.2.1 264)), (1, .ref (t.2.2.1 k1))] []) ?_ n x3_4 x4_5 u6 _ h rfl
    intro go3 igo3 x3_4 x4_5 u6 q h hq H locs ls hG hS hl
    subst hq
    unfold s_X10_sum_16 at h
    refine lv_iload X.1.1 X.1.2.1 dX10_sum_16 (lv_at hl 1 rfl) ?_
    refine lv_aload_n X.1.1 X.1.2.1 dX10_sum_18 rfl (lv_at hl 2 rfl) ?_
    refine y_geti X hG 14 9 264 9 (inC := iX10) rfl q264.1 q264.2 ⟨by decide, by decide, by decide, rfl, rfl⟩ w1 dX10_sum_19 ?_
    obtain ⟨g7, h⟩ := xgd_of h
    refine x_icmp_gt (tgt := 41) X g7.1 g7.2 dX10_sum_22 (by decide) (fun c8 => ?_) (fun c8 => ?_)
    · replace h := xif_t h c8
      refine lv_iload_n X.1.1 X.1.2.1 dX10_sum_41 rfl (lv_at hl 0 rfl) ?_
      cases h
      exact hret _ _ _ _ dX10_sum_42 rfl hG hS
    · replace h := xif_f h c8
      refine lv_iload_n X.1.1 X.1.2.1 dX10_sum_25 rfl (lv_at hl 0 rfl) ?_
      refine lv_aload_n X.1.1 X.1.2.1 dX10_sum_26 rfl (lv_at hl 3 rfl) ?_
      refine yN_getr X hG 16 6 k1 1 (inC := iX12) rfl qk1.1 qk1.2 ⟨by decide, by decide, by decide, rfl, by decide, by decide⟩ (x_m 36 rfl) dX10_sum_27 ?_
      refine lv_iload X.1.1 X.1.2.1 dX10_sum_30 (lv_at hl 1 rfl) ?_
      obtain ⟨g9, h⟩ := xgd_of h
      refine y_iald X hG (fy_16_6 hG qk1).1 (fy_16_6 hG qk1).2.1 (n := 400) (fy_16_6 hG qk1).2.2 g9 (by decide) dX10_sum_32 ?_
      refine x_iadd X dX10_sum_33 ?_
      refine x_name (fun x3_10 ex3_10 => ?_)
      replace h := xlet_at ex3_10 h
      refine lv_istore_n (lv' := [(3, .int (iI x3_10)), (4, .int (iI x4_5)), (0, .ref (t.2.2.1 264)), (1, .ref (t.2.2.1 k1))]) X.1.1 X.1.2.1 dX10_sum_34 rfl hl (by decide) rfl (fun ls hl => ?_)
      refine lv_iinc (v := (iI (x4_5 + 1))) (lv' := [(4, .int (iI (x4_5 + 1))), (3, .int (iI x3_10)), (0, .ref (t.2.2.1 264)), (1, .ref (t.2.2.1 k1))]) X.1.1 X.1.2.1 dX10_sum_35 hl (k := 1) rfl (iI_add _ _) (by decide) rfl (fun ls hl => ?_)
      refine lv_goto (tgt := 16) X.1.1 X.1.2.1 dX10_sum_38 (by decide) ?_
      exact igo3 _ _ _ _ h rfl _ _ _ hG hS (lv_sub hl [1, 0, 2, 3] rfl)
  exact Lgo3 FU _ _ _ h _ _ _ hG hS (lv_sub hl [1, 0, 2, 3] rfl)
theorem hd_X10_sum : yX10_sum.cls = RX10 ∧ yX10_sum.cls ≠ "java/lang/invoke/MethodHandle" ∧ yX10_sum.cls ≠ "java/lang/invoke/VarHandle" ∧ (parseMethodDescriptor yX10_sum.desc).map (fun d => d.parameters.length) = some 2 := by decide +kernel
abbrev rX10_ratio : Room := { frames := 2, cells := 0, slots := 0, locals := 84 }
set_option maxRecDepth 100000 in
set_option maxHeartbeats 8000000 in
theorem c_X10_ratio (l : Launch) (t : gP) (k1 : Nat) (u : uS) (r : Int) (u' : uS) (h : f_X10_ratio k1 u = some (r, u')) (aq264 : al t 264) (qk1 : al t k1 ∧ sT k1 = 16) : xMi l yX10_ratio wsX10_ratio rX10_ratio t [.ref (t.2.2.1 264), .ref (t.2.2.1 k1)] u r u' 0 0 := by
  refine x_ofWi (cc := cX10_ratio) (maxL := 4) (ret := .int) (own := RX10) (by decide) rfl rfl (Nat.le_of_ble_eq_true rfl) ?_
  intro p e s m args below meth c Q X hret H locs ls hG hS hl
  replace hl : lv_has ls 4 [(0, .ref (t.2.2.1 264)), (1, .ref (t.2.2.1 k1))] := hl
  have w1 : Cond.fieldLink RX10 65 "TriggerNetworkLaw$Net" "longs" "I" ∈ wsX10_ratio := x_w 1 rfl
  have iX10 : ∀ w ∈ wsX100, w ∈ wsX10_ratio := by decide +kernel
  have w2 : Cond.fieldLink RX10 72 "TriggerNetworkLaw$Net" "shorts" "I" ∈ wsX10_ratio := x_w 2 rfl
  have w3 : Cond.constantLong RX10 75 (100) ∈ wsX10_ratio := x_w 3 rfl
  have q264 : al t 264 ∧ sT 264 = 14 := ⟨aq264, by decide +kernel⟩
  unfold f_X10_ratio at h
  refine lv_aload_n X.1.1 X.1.2.1 dX10_ratio_0 rfl (lv_at hl 0 rfl) ?_
  refine lv_aload_n X.1.1 X.1.2.1 dX10_ratio_1 rfl (lv_at hl 1 rfl) ?_
  refine lv_aload_n X.1.1 X.1.2.1 dX10_ratio_2 rfl (lv_at hl 0 rfl) ?_
  refine y_geti X hG 14 18 264 18 (inC := iX10) rfl q264.1 q264.2 ⟨by decide, by decide, by decide, rfl, rfl⟩ w1 dX10_ratio_3 ?_
  obtain ⟨v1, u2, hf, h⟩ := xbd_of h
  refine y_callVi0 X hG hS (c_X10_sum l t _ _ _ _ _ hf q264.1 qk1) (cwV 2 X.1.2.2.2.2 gX10_ratio_X10_sum rfl rfl rfl hd_X10_sum ⟨Nat.le_of_ble_eq_true rfl, Nat.le_of_ble_eq_true rfl⟩) q264.1 q264.2 rfl (by decide) (by rfl) hl.1 (Nat.le_of_ble_eq_true rfl) dX10_ratio_6 ⟨by decide, by decide⟩ rfl (fun H locs hG hS => ?_)
  obtain ⟨g3, h⟩ := xgd_of h
  refine x_i2l X g3 dX10_ratio_9 ?_
  refine lv_lstore_n (lv' := [(2, .long (lI v1)), (0, .ref (t.2.2.1 264)), (1, .ref (t.2.2.1 k1))]) X.1.1 X.1.2.1 dX10_ratio_10 rfl hl (by decide) rfl (fun ls hl => ?_)
  refine lv_lload_n X.1.1 X.1.2.1 dX10_ratio_11 rfl (lv_at hl 0 rfl) ?_
  refine x_lconst X dX10_ratio_12 0 rfl ?_
  obtain ⟨g4, h⟩ := xgd_of h
  refine x_lcmp X g4 ⟨by decide, by decide⟩ dX10_ratio_13 ?_
  refine x_if_ne (tgt := 21) X (inR_cmp _ _) dX10_ratio_14 (by decide) (fun c5 => ?_) (fun c5 => ?_)
  · replace h := xif_f h c5
    refine lv_aload_n X.1.1 X.1.2.1 dX10_ratio_21 rfl (lv_at hl 1 rfl) ?_
    refine lv_aload_n X.1.1 X.1.2.1 dX10_ratio_22 rfl (lv_at hl 2 rfl) ?_
    refine lv_aload_n X.1.1 X.1.2.1 dX10_ratio_23 rfl (lv_at hl 1 rfl) ?_
    refine y_geti X hG 14 17 264 17 (inC := iX10) rfl q264.1 q264.2 ⟨by decide, by decide, by decide, rfl, rfl⟩ w2 dX10_ratio_24 ?_
    obtain ⟨v6, u7, hf, h⟩ := xbd_of h
    refine y_callVi0 X hG hS (c_X10_sum l t _ _ _ _ _ hf q264.1 qk1) (cwV 2 X.1.2.2.2.2 gX10_ratio_X10_sum rfl rfl rfl hd_X10_sum ⟨Nat.le_of_ble_eq_true rfl, Nat.le_of_ble_eq_true rfl⟩) q264.1 q264.2 rfl (by decide) (by rfl) hl.1 (Nat.le_of_ble_eq_true rfl) dX10_ratio_27 ⟨by decide, by decide⟩ rfl (fun H locs hG hS => ?_)
    obtain ⟨g8, h⟩ := xgd_of h
    refine x_i2l X g8 dX10_ratio_30 ?_
    refine lv_aload_n X.1.1 X.1.2.1 dX10_ratio_31 rfl (lv_at hl 1 rfl) ?_
    refine y_geti X hG 14 18 264 18 (inC := iX10) rfl q264.1 q264.2 ⟨by decide, by decide, by decide, rfl, rfl⟩ w1 dX10_ratio_32 ?_
    obtain ⟨g9, h⟩ := xgd_of h
    refine x_i2l X g9 dX10_ratio_35 ?_
    refine x_lmul X dX10_ratio_36 ?_
    refine x_ldc2 X 100 rfl w3 dX10_ratio_37 ?_
    refine x_lmul X dX10_ratio_40 ?_
    refine lv_lload_n X.1.1 X.1.2.1 dX10_ratio_41 rfl (lv_at hl 0 rfl) ?_
    refine lv_aload_n X.1.1 X.1.2.1 dX10_ratio_42 rfl (lv_at hl 1 rfl) ?_
    refine y_geti X hG 14 17 264 17 (inC := iX10) rfl q264.1 q264.2 ⟨by decide, by decide, by decide, rfl, rfl⟩ w2 dX10_ratio_43 ?_
    obtain ⟨g10, h⟩ := xgd_of h
    refine x_i2l X g10 dX10_ratio_46 ?_
    refine x_lmul X dX10_ratio_47 ?_
    obtain ⟨g11, h⟩ := xgd_of h
    refine x_ldiv X g11.1 g11.2.1 g11.2.2 dX10_ratio_48 ?_
    refine x_l2i X dX10_ratio_49 ?_
    cases h
    exact hret _ _ _ _ dX10_ratio_50 rfl hG hS
  · replace h := xif_t h c5
    refine x_iconst X dX10_ratio_17 ?_
    refine lv_goto (tgt := 50) X.1.1 X.1.2.1 dX10_ratio_18 (by decide) ?_
    cases h
    exact hret _ _ _ _ dX10_ratio_50 rfl hG hS
theorem hd_X10_ratio : yX10_ratio.cls = RX10 ∧ yX10_ratio.cls ≠ "java/lang/invoke/MethodHandle" ∧ yX10_ratio.cls ≠ "java/lang/invoke/VarHandle" ∧ (parseMethodDescriptor yX10_ratio.desc).map (fun d => d.parameters.length) = some 1 := by decide +kernel
abbrev rX10_fit : Room := { frames := 3, cells := 0, slots := 0, locals := 68 }
set_option maxRecDepth 100000 in
set_option maxHeartbeats 8000000 in
theorem c_X10_fit (l : Launch) (t : gP) (k1 : Nat) (k2 : Nat) (u : uS) (r : Int) (u' : uS) (h : f_X10_fit k1 k2 u = some (r, u')) (aq264 : al t 264) (qk1 : al t k1 ∧ sT k1 = 15) (qk2 : al t k2 ∧ sT k2 = 15) : xMi l yX10_fit wsX10_fit rX10_fit t [.ref (t.2.2.1 264), .ref (t.2.2.1 k1), .ref (t.2.2.1 k2)] u r u' 0 0 := by
  refine x_ofWi (cc := cX10_fit) (maxL := 3) (ret := .boolean) (own := RX10) (by decide) rfl rfl (Nat.le_of_ble_eq_true rfl) ?_
  intro p e s m args below meth c Q X hret H locs ls hG hS hl
  replace hl : lv_has ls 3 [(0, .ref (t.2.2.1 264)), (1, .ref (t.2.2.1 k1)), (2, .ref (t.2.2.1 k2))] := hl
  have iX11 : ∀ w ∈ wsX110, w ∈ wsX10_fit := by decide +kernel
  have w1 : Cond.methodLink RX10 87 Lib.Math.abs.name ∈ wsX10_fit := x_w 1 rfl
  have w2 : Cond.static Lib.Math.abs.name ∈ wsX10_fit := x_w 2 rfl
  have w3 : Cond.initialized "java/lang/Math" ∈ wsX10_fit := x_w 3 rfl
  have w4 : Cond.code Lib.Math.abs.name Lib.Math.abs.code 1 (some .int) ∈ wsX10_fit := x_w 4 rfl
  have w5 : Cond.fieldLink RX10 9 "TriggerNetworkLaw$Net" "places" "[LTriggerNetworkLaw$Place;" ∈ wsX10_fit := x_w 5 rfl
  have iX10 : ∀ w ∈ wsX100, w ∈ wsX10_fit := by decide +kernel
  have iX12 : ∀ w ∈ wsX120, w ∈ wsX10_fit := by decide +kernel
  have w6 : Cond.fieldLink RX10 92 "TriggerNetworkLaw$Net" "slack" "I" ∈ wsX10_fit := x_w 6 rfl
  have q264 : al t 264 ∧ sT 264 = 14 := ⟨aq264, by decide +kernel⟩
  unfold f_X10_fit at h
  refine lv_aload_n X.1.1 X.1.2.1 dX10_fit_0 rfl (lv_at hl 1 rfl) ?_
  refine yN_geti X hG 15 0 k1 0 (inC := iX11) rfl qk1.1 qk1.2 ⟨by decide, by decide, by decide, rfl, rfl⟩ (x_m 37 rfl) dX10_fit_1 ?_
  refine lv_aload_n X.1.1 X.1.2.1 dX10_fit_4 rfl (lv_at hl 2 rfl) ?_
  refine yN_geti X hG 15 0 k2 0 (inC := iX11) rfl qk2.1 qk2.2 ⟨by decide, by decide, by decide, rfl, rfl⟩ (x_m 37 rfl) dX10_fit_5 ?_
  obtain ⟨g1, h⟩ := xgd_of h
  refine x_icmp_eq (tgt := 25) X g1.1 g1.2 dX10_fit_8 (by decide) (fun c2 => ?_) (fun c2 => ?_)
  · replace h := xif_t h c2
    refine x_iconst X dX10_fit_25 ?_
    cases h
    exact hret _ _ _ _ dX10_fit_26 (by decide) hG hS
  · replace h := xif_f h c2
    refine lv_aload_n X.1.1 X.1.2.1 dX10_fit_11 rfl (lv_at hl 1 rfl) ?_
    refine yN_geti X hG 15 4 k1 4 (inC := iX11) rfl qk1.1 qk1.2 ⟨by decide, by decide, by decide, rfl, rfl⟩ (x_m 38 rfl) dX10_fit_12 ?_
    obtain ⟨g3, h⟩ := xgd_of h
    refine x_if_ne (tgt := 25) X g3 dX10_fit_15 (by decide) (fun c4 => ?_) (fun c4 => ?_)
    · replace h := xif_f h c4
      refine x_iconst X dX10_fit_25 ?_
      cases h
      exact hret _ _ _ _ dX10_fit_26 (by decide) hG hS
    · replace h := xif_t h c4
      refine lv_aload_n X.1.1 X.1.2.1 dX10_fit_18 rfl (lv_at hl 2 rfl) ?_
      refine yN_geti X hG 15 4 k2 4 (inC := iX11) rfl qk2.1 qk2.2 ⟨by decide, by decide, by decide, rfl, rfl⟩ (x_m 38 rfl) dX10_fit_19 ?_
      obtain ⟨g5, h⟩ := xgd_of h
      refine x_if_eq (tgt := 27) X g5 dX10_fit_22 (by decide) (fun c6 => ?_) (fun c6 => ?_)
      · replace h := xif_t h c6
        refine lv_aload_n X.1.1 X.1.2.1 dX10_fit_27 rfl (lv_at hl 1 rfl) ?_
        refine yN_geti X hG 15 1 k1 1 (inC := iX11) rfl qk1.1 qk1.2 ⟨by decide, by decide, by decide, rfl, rfl⟩ (x_m 39 rfl) dX10_fit_28 ?_
        refine lv_aload_n X.1.1 X.1.2.1 dX10_fit_31 rfl (lv_at hl 2 rfl) ?_
        refine yN_geti X hG 15 1 k2 1 (inC := iX11) rfl qk2.1 qk2.2 ⟨by decide, by decide, by decide, rfl, rfl⟩ (x_m 39 rfl) dX10_fit_32 ?_
        refine x_isub X dX10_fit_35 ?_
        obtain ⟨g7, h⟩ := xgd_of h
        refine x_mabs (R := rX10_fit) X g7 hl.1 w1 w2 w3 w4 (by decide) (by decide) dX10_fit_36 (Nat.le_of_ble_eq_true rfl) ⟨by decide, by decide⟩ ?_
        refine lv_aload_n X.1.1 X.1.2.1 dX10_fit_39 rfl (lv_at hl 0 rfl) ?_
        refine lv_aload_n X.1.1 X.1.2.1 dX10_fit_40 rfl (lv_at hl 0 rfl) ?_
        refine y_getr X hG 14 0 264 1 (inC := iX10) rfl q264.1 q264.2 ⟨by decide, by decide, by decide, rfl, by decide, by decide⟩ w5 dX10_fit_41 ?_
        refine lv_aload_n X.1.1 X.1.2.1 dX10_fit_44 rfl (lv_at hl 1 rfl) ?_
        refine yN_geti X hG 15 0 k1 0 (inC := iX11) rfl qk1.1 qk1.2 ⟨by decide, by decide, by decide, rfl, rfl⟩ (x_m 37 rfl) dX10_fit_45 ?_
        obtain ⟨g8, h⟩ := xgd_of h
        obtain ⟨g9, h⟩ := xgd_of h
        have f11 := y_qP hG (fy_14_0 hG q264).1 (fy_14_0 hG q264).2.1 (fy_14_0 hG q264).2.2 g8 g9
        obtain ⟨n10, en10, h⟩ := xlet_of h
        refine y_aaldq X hG (fy_14_0 hG q264).1 (fy_14_0 hG q264).2.1 (Or.inl rfl) (fy_14_0 hG q264).2.2 g8 (by decide) g9 dX10_fit_48 ?_
        rw [← en10]
        rw [← en10] at f11
        refine yN_geti X hG 16 0 n10 0 (inC := iX12) rfl f11.1 f11.2 ⟨by decide, by decide, by decide, rfl, rfl⟩ (x_m 34 rfl) dX10_fit_49 ?_
        refine lv_aload_n X.1.1 X.1.2.1 dX10_fit_52 rfl (lv_at hl 0 rfl) ?_
        refine y_getr X hG 14 0 264 1 (inC := iX10) rfl q264.1 q264.2 ⟨by decide, by decide, by decide, rfl, by decide, by decide⟩ w5 dX10_fit_53 ?_
        refine lv_aload_n X.1.1 X.1.2.1 dX10_fit_56 rfl (lv_at hl 1 rfl) ?_
        refine yN_geti X hG 15 0 k1 0 (inC := iX11) rfl qk1.1 qk1.2 ⟨by decide, by decide, by decide, rfl, rfl⟩ (x_m 37 rfl) dX10_fit_57 ?_
        obtain ⟨g12, h⟩ := xgd_of h
        obtain ⟨g13, h⟩ := xgd_of h
        have f15 := y_qP hG (fy_14_0 hG q264).1 (fy_14_0 hG q264).2.1 (fy_14_0 hG q264).2.2 g12 g13
        obtain ⟨n14, en14, h⟩ := xlet_of h
        refine y_aaldq X hG (fy_14_0 hG q264).1 (fy_14_0 hG q264).2.1 (Or.inl rfl) (fy_14_0 hG q264).2.2 g12 (by decide) g13 dX10_fit_60 ?_
        rw [← en14]
        rw [← en14] at f15
        refine yN_geti X hG 16 1 n14 1 (inC := iX12) rfl f15.1 f15.2 ⟨by decide, by decide, by decide, rfl, rfl⟩ (x_m 35 rfl) dX10_fit_61 ?_
        refine lv_aload_n X.1.1 X.1.2.1 dX10_fit_64 rfl (lv_at hl 0 rfl) ?_
        refine y_getr X hG 14 0 264 1 (inC := iX10) rfl q264.1 q264.2 ⟨by decide, by decide, by decide, rfl, by decide, by decide⟩ w5 dX10_fit_65 ?_
        refine lv_aload_n X.1.1 X.1.2.1 dX10_fit_68 rfl (lv_at hl 2 rfl) ?_
        refine yN_geti X hG 15 0 k2 0 (inC := iX11) rfl qk2.1 qk2.2 ⟨by decide, by decide, by decide, rfl, rfl⟩ (x_m 37 rfl) dX10_fit_69 ?_
        obtain ⟨g16, h⟩ := xgd_of h
        obtain ⟨g17, h⟩ := xgd_of h
        have f19 := y_qP hG (fy_14_0 hG q264).1 (fy_14_0 hG q264).2.1 (fy_14_0 hG q264).2.2 g16 g17
        obtain ⟨n18, en18, h⟩ := xlet_of h
        refine y_aaldq X hG (fy_14_0 hG q264).1 (fy_14_0 hG q264).2.1 (Or.inl rfl) (fy_14_0 hG q264).2.2 g16 (by decide) g17 dX10_fit_72 ?_
        rw [← en18]
        rw [← en18] at f19
        obtain ⟨v20, u21, hf, h⟩ := xbd_of h
        refine y_callVi0 X hG hS (c_X10_time l t _ _ _ _ _ _ hf q264.1 f19) (cwV 3 X.1.2.2.2.2 gX10_fit_X10_time rfl rfl rfl hd_X10_time ⟨Nat.le_of_ble_eq_true rfl, Nat.le_of_ble_eq_true rfl⟩) q264.1 q264.2 rfl (by decide) (by rfl) hl.1 (Nat.le_of_ble_eq_true rfl) dX10_fit_73 ⟨by decide, by decide⟩ rfl (fun H locs hG hS => ?_)
        refine lv_aload_n X.1.1 X.1.2.1 dX10_fit_76 rfl (lv_at hl 0 rfl) ?_
        refine y_geti X hG 14 22 264 22 (inC := iX10) rfl q264.1 q264.2 ⟨by decide, by decide, by decide, rfl, rfl⟩ w6 dX10_fit_77 ?_
        refine x_iadd X dX10_fit_80 ?_
        obtain ⟨g22, h⟩ := xgd_of h
        refine x_icmp_gt (tgt := 88) X g22.1 g22.2 dX10_fit_81 (by decide) (fun c23 => ?_) (fun c23 => ?_)
        · replace h := xif_t h c23
          refine x_iconst X dX10_fit_88 ?_
          cases h
          exact hret _ _ _ _ dX10_fit_89 (by decide) hG hS
        · replace h := xif_f h c23
          refine x_iconst X dX10_fit_84 ?_
          refine lv_goto (tgt := 89) X.1.1 X.1.2.1 dX10_fit_85 (by decide) ?_
          cases h
          exact hret _ _ _ _ dX10_fit_89 (by decide) hG hS
      · replace h := xif_f h c6
        refine x_iconst X dX10_fit_25 ?_
        cases h
        exact hret _ _ _ _ dX10_fit_26 (by decide) hG hS
theorem hd_X10_fit : yX10_fit.cls = RX10 ∧ yX10_fit.cls ≠ "java/lang/invoke/MethodHandle" ∧ yX10_fit.cls ≠ "java/lang/invoke/VarHandle" ∧ (parseMethodDescriptor yX10_fit.desc).map (fun d => d.parameters.length) = some 2 := by decide +kernel
abbrev rX10_size : Room := { frames := 0, cells := 0, slots := 0, locals := 0 }
set_option maxRecDepth 100000 in
set_option maxHeartbeats 8000000 in
theorem c_X10_size (l : Launch) (t : gP) (x1 : Int) (u : uS) (r : Int) (u' : uS) (h : f_X10_size x1 u = some (r, u')) (aq264 : al t 264) : xMi l yX10_size wsX10_size rX10_size t [.ref (t.2.2.1 264), .int (iI x1)] u r u' 0 0 := by
  refine x_ofWi (cc := cX10_size) (maxL := 4) (ret := .int) (own := RX10) (by decide) rfl rfl (Nat.le_of_ble_eq_true rfl) ?_
  intro p e s m args below meth c Q X hret H locs ls hG hS hl
  replace hl : lv_has ls 4 [(0, .ref (t.2.2.1 264)), (1, .int (iI x1))] := hl
  have w1 : Cond.fieldLink RX10 122 "TriggerNetworkLaw$Net" "made" "I" ∈ wsX10_size := x_w 1 rfl
  have iX10 : ∀ w ∈ wsX100, w ∈ wsX10_size := by decide +kernel
  have w2 : Cond.fieldLink RX10 17 "TriggerNetworkLaw$Net" "picks" "[LTriggerNetworkLaw$Pick;" ∈ wsX10_size := x_w 2 rfl
  have iX11 : ∀ w ∈ wsX110, w ∈ wsX10_size := by decide +kernel
  have q264 : al t 264 ∧ sT 264 = 14 := ⟨aq264, by decide +kernel⟩
  unfold f_X10_size at h
  refine x_iconst X dX10_size_0 ?_
  refine lv_istore_n (lv' := [(2, .int (iI 0)), (0, .ref (t.2.2.1 264)), (1, .int (iI x1))]) X.1.1 X.1.2.1 dX10_size_1 rfl hl (by decide) rfl (fun ls hl => ?_)
  refine x_iconst X dX10_size_2 ?_
  refine lv_istore_n (lv' := [(3, .int (iI 0)), (2, .int (iI 0)), (0, .ref (t.2.2.1 264)), (1, .int (iI x1))]) X.1.1 X.1.2.1 dX10_size_3 rfl hl (by decide) rfl (fun ls hl => ?_)
  have Lgo1 : ∀ (n : Nat) (x2_2 : Int) (x3_3 : Int) (u4 : uS), xl3 (s_X10_size_4 x1) n x2_2 x3_3 u4 = some (r, u') → xG p l e rX10_size s m args below meth c t Q 4 0 0 4 u4 [(2, .int (iI x2_2)), (3, .int (iI x3_3)), (0, .ref (t.2.2.1 264)), (1, .int (iI x1))] [] := by
    intro n x2_2 x3_3 u4 h
    refine xl3_W (F := s_X10_size_4 x1) (fun x2_2 x3_3 u4 q => q = (r, u') → xG p l e rX10_size s m args below meth c t Q 4 0 0 4 u4 [(2, .int (iI x2_2)), (3, .int (iI x3_3)), (0, .ref (t.2.2.1 264)), (1, .int (iI x1))] []) ?_ n x2_2 x3_3 u4 _ h rfl
    intro go1 igo1 x2_2 x3_3 u4 q h hq H locs ls hG hS hl
    subst hq
    unfold s_X10_size_4 at h
    refine lv_iload_n X.1.1 X.1.2.1 dX10_size_4 rfl (lv_at hl 1 rfl) ?_
    refine lv_aload_n X.1.1 X.1.2.1 dX10_size_5 rfl (lv_at hl 2 rfl) ?_
    refine y_geti X hG 14 7 264 7 (inC := iX10) rfl q264.1 q264.2 ⟨by decide, by decide, by decide, rfl, rfl⟩ w1 dX10_size_6 ?_
    obtain ⟨g5, h⟩ := xgd_of h
    refine x_icmp_ge (tgt := 34) X g5.1 g5.2 dX10_size_9 (by decide) (fun c6 => ?_) (fun c6 => ?_)
    · replace h := xif_t h c6
      refine lv_iload_n X.1.1 X.1.2.1 dX10_size_34 rfl (lv_at hl 0 rfl) ?_
      cases h
      exact hret _ _ _ _ dX10_size_35 rfl hG hS
    · replace h := xif_f h c6
      refine lv_aload_n X.1.1 X.1.2.1 dX10_size_12 rfl (lv_at hl 2 rfl) ?_
      refine y_getr X hG 14 1 264 2 (inC := iX10) rfl q264.1 q264.2 ⟨by decide, by decide, by decide, rfl, by decide, by decide⟩ w2 dX10_size_13 ?_
      refine lv_iload_n X.1.1 X.1.2.1 dX10_size_16 rfl (lv_at hl 1 rfl) ?_
      obtain ⟨g7, h⟩ := xgd_of h
      obtain ⟨g8, h⟩ := xgd_of h
      have f10 := y_qK hG (fy_14_1 hG q264).1 (fy_14_1 hG q264).2.1 (fy_14_1 hG q264).2.2 g7 g8
      obtain ⟨n9, en9, h⟩ := xlet_of h
      refine y_aaldq X hG (fy_14_1 hG q264).1 (fy_14_1 hG q264).2.1 (Or.inr rfl) (fy_14_1 hG q264).2.2 g7 (by decide) g8 dX10_size_17 ?_
      rw [← en9]
      rw [← en9] at f10
      refine yN_geti X hG 15 3 n9 3 (inC := iX11) rfl f10.1 f10.2 ⟨by decide, by decide, by decide, rfl, rfl⟩ (x_m 45 rfl) dX10_size_18 ?_
      refine lv_iload_n X.1.1 X.1.2.1 dX10_size_21 rfl (lv_at hl 3 rfl) ?_
      obtain ⟨g11, h⟩ := xgd_of h
      refine x_icmp_ne (tgt := 28) X g11.1 g11.2 dX10_size_22 (by decide) (fun c12 => ?_) (fun c12 => ?_)
      · replace h := xif_f h c12
        refine lv_iinc (v := (iI (x3_3 + 1))) (lv' := [(3, .int (iI (x3_3 + 1))), (2, .int (iI x2_2)), (0, .ref (t.2.2.1 264)), (1, .int (iI x1))]) X.1.1 X.1.2.1 dX10_size_28 hl (k := 1) rfl (iI_add _ _) (by decide) rfl (fun ls hl => ?_)
        refine lv_goto (tgt := 4) X.1.1 X.1.2.1 dX10_size_31 (by decide) ?_
        exact igo1 _ _ _ _ h rfl _ _ _ hG hS (lv_sub hl [1, 0, 2, 3] rfl)
      · replace h := xif_t h c12
        refine lv_iinc (v := (iI (x2_2 + 1))) (lv' := [(2, .int (iI (x2_2 + 1))), (3, .int (iI x3_3)), (0, .ref (t.2.2.1 264)), (1, .int (iI x1))]) X.1.1 X.1.2.1 dX10_size_25 hl (k := 0) rfl (iI_add _ _) (by decide) rfl (fun ls hl => ?_)
        refine lv_iinc (v := (iI (x3_3 + 1))) (lv' := [(3, .int (iI (x3_3 + 1))), (2, .int (iI (x2_2 + 1))), (0, .ref (t.2.2.1 264)), (1, .int (iI x1))]) X.1.1 X.1.2.1 dX10_size_28 hl (k := 1) rfl (iI_add _ _) (by decide) rfl (fun ls hl => ?_)
        refine lv_goto (tgt := 4) X.1.1 X.1.2.1 dX10_size_31 (by decide) ?_
        exact igo1 _ _ _ _ h rfl _ _ _ hG hS (lv_sub hl [1, 0, 2, 3] rfl)
  exact Lgo1 FU _ _ _ h _ _ _ hG hS (lv_sub hl [1, 0, 2, 3] rfl)
theorem hd_X10_size : yX10_size.cls = RX10 ∧ yX10_size.cls ≠ "java/lang/invoke/MethodHandle" ∧ yX10_size.cls ≠ "java/lang/invoke/VarHandle" ∧ (parseMethodDescriptor yX10_size.desc).map (fun d => d.parameters.length) = some 1 := by decide +kernel
abbrev rX10_retract : Room := { frames := 0, cells := 0, slots := 0, locals := 0 }
set_option maxRecDepth 100000 in
set_option maxHeartbeats 8000000 in
theorem c_X10_retract (l : Launch) (t : gP) (x1 : Int) (u : uS) (r : Int) (u' : uS) (h : f_X10_retract x1 u = some (r, u')) (aq264 : al t 264) : xMv l yX10_retract wsX10_retract rX10_retract t [.ref (t.2.2.1 264), .int (iI x1)] u u' 0 0 := by
  refine x_ofWv (cc := cX10_retract) (maxL := 3) (own := RX10) (by decide) rfl rfl (Nat.le_of_ble_eq_true rfl) ?_
  intro p e s m args below meth c Q X hret H locs ls hG hS hl
  replace hl : lv_has ls 3 [(0, .ref (t.2.2.1 264)), (1, .int (iI x1))] := hl
  have w1 : Cond.fieldLink RX10 21 "TriggerNetworkLaw$Net" "gone" "[Z" ∈ wsX10_retract := x_w 1 rfl
  have iX10 : ∀ w ∈ wsX100, w ∈ wsX10_retract := by decide +kernel
  have w2 : Cond.fieldLink RX10 122 "TriggerNetworkLaw$Net" "made" "I" ∈ wsX10_retract := x_w 2 rfl
  have w3 : Cond.fieldLink RX10 17 "TriggerNetworkLaw$Net" "picks" "[LTriggerNetworkLaw$Pick;" ∈ wsX10_retract := x_w 3 rfl
  have iX11 : ∀ w ∈ wsX110, w ∈ wsX10_retract := by decide +kernel
  have q264 : al t 264 ∧ sT 264 = 14 := ⟨aq264, by decide +kernel⟩
  unfold f_X10_retract at h
  refine lv_aload_n X.1.1 X.1.2.1 dX10_retract_0 rfl (lv_at hl 0 rfl) ?_
  refine y_getr X hG 14 2 264 3 (inC := iX10) rfl q264.1 q264.2 ⟨by decide, by decide, by decide, rfl, by decide, by decide⟩ w1 dX10_retract_1 ?_
  refine lv_iload_n X.1.1 X.1.2.1 dX10_retract_4 rfl (lv_at hl 1 rfl) ?_
  refine x_iconst X dX10_retract_5 ?_
  obtain ⟨g1, h⟩ := xgd_of h
  refine y_zast X hG hS (fy_14_2 hG q264).1 (fy_14_2 hG q264).2.1 (n := 20) (fy_14_2 hG q264).2.2 g1 (by decide) (by decide) dX10_retract_6 (fun H locs hG hS => ?_)
  obtain ⟨u2, eu2, h⟩ := xlet_of h
  replace hG : G t u2 H := by rw [eu2]; exact hG
  refine x_iconst X dX10_retract_7 ?_
  refine lv_istore_n (lv' := [(2, .int (iI 0)), (0, .ref (t.2.2.1 264)), (1, .int (iI x1))]) X.1.1 X.1.2.1 dX10_retract_8 rfl hl (by decide) rfl (fun ls hl => ?_)
  have Lgo3 : ∀ (n : Nat) (x2_4 : Int) (u5 : uS), xl2 (s_X10_retract_9 x1) n x2_4 u5 = some (r, u') → xG p l e rX10_retract s m args below meth c t Q 3 0 0 9 u5 [(2, .int (iI x2_4)), (0, .ref (t.2.2.1 264)), (1, .int (iI x1))] [] := by
    intro n x2_4 u5 h
    refine xl2_W (F := s_X10_retract_9 x1) (fun x2_4 u5 q => q = (r, u') → xG p l e rX10_retract s m args below meth c t Q 3 0 0 9 u5 [(2, .int (iI x2_4)), (0, .ref (t.2.2.1 264)), (1, .int (iI x1))] []) ?_ n x2_4 u5 _ h rfl
    intro go3 igo3 x2_4 u5 q h hq H locs ls hG hS hl
    subst hq
    unfold s_X10_retract_9 at h
    refine lv_iload_n X.1.1 X.1.2.1 dX10_retract_9 rfl (lv_at hl 0 rfl) ?_
    refine lv_aload_n X.1.1 X.1.2.1 dX10_retract_10 rfl (lv_at hl 1 rfl) ?_
    refine y_geti X hG 14 7 264 7 (inC := iX10) rfl q264.1 q264.2 ⟨by decide, by decide, by decide, rfl, rfl⟩ w2 dX10_retract_11 ?_
    obtain ⟨g6, h⟩ := xgd_of h
    refine x_icmp_ge (tgt := 46) X g6.1 g6.2 dX10_retract_14 (by decide) (fun c7 => ?_) (fun c7 => ?_)
    · replace h := xif_t h c7
      cases h
      exact hret _ _ _ _ dX10_retract_46 hG hS
    · replace h := xif_f h c7
      refine lv_aload_n X.1.1 X.1.2.1 dX10_retract_17 rfl (lv_at hl 1 rfl) ?_
      refine y_getr X hG 14 1 264 2 (inC := iX10) rfl q264.1 q264.2 ⟨by decide, by decide, by decide, rfl, by decide, by decide⟩ w3 dX10_retract_18 ?_
      refine lv_iload_n X.1.1 X.1.2.1 dX10_retract_21 rfl (lv_at hl 0 rfl) ?_
      obtain ⟨g8, h⟩ := xgd_of h
      obtain ⟨g9, h⟩ := xgd_of h
      have f11 := y_qK hG (fy_14_1 hG q264).1 (fy_14_1 hG q264).2.1 (fy_14_1 hG q264).2.2 g8 g9
      obtain ⟨n10, en10, h⟩ := xlet_of h
      refine y_aaldq X hG (fy_14_1 hG q264).1 (fy_14_1 hG q264).2.1 (Or.inr rfl) (fy_14_1 hG q264).2.2 g8 (by decide) g9 dX10_retract_22 ?_
      rw [← en10]
      rw [← en10] at f11
      refine yN_geti X hG 15 3 n10 3 (inC := iX11) rfl f11.1 f11.2 ⟨by decide, by decide, by decide, rfl, rfl⟩ (x_m 45 rfl) dX10_retract_23 ?_
      refine lv_iload_n X.1.1 X.1.2.1 dX10_retract_26 rfl (lv_at hl 2 rfl) ?_
      obtain ⟨g12, h⟩ := xgd_of h
      refine x_icmp_ne (tgt := 40) X g12.1 g12.2 dX10_retract_27 (by decide) (fun c13 => ?_) (fun c13 => ?_)
      · replace h := xif_f h c13
        refine lv_iinc (v := (iI (x2_4 + 1))) (lv' := [(2, .int (iI (x2_4 + 1))), (0, .ref (t.2.2.1 264)), (1, .int (iI x1))]) X.1.1 X.1.2.1 dX10_retract_40 hl (k := 0) rfl (iI_add _ _) (by decide) rfl (fun ls hl => ?_)
        refine lv_goto (tgt := 9) X.1.1 X.1.2.1 dX10_retract_43 (by decide) ?_
        exact igo3 _ _ _ h rfl _ _ _ hG hS (lv_sub hl [0, 1, 2] rfl)
      · replace h := xif_t h c13
        refine lv_aload_n X.1.1 X.1.2.1 dX10_retract_30 rfl (lv_at hl 1 rfl) ?_
        refine y_getr X hG 14 1 264 2 (inC := iX10) rfl q264.1 q264.2 ⟨by decide, by decide, by decide, rfl, by decide, by decide⟩ w3 dX10_retract_31 ?_
        refine lv_iload_n X.1.1 X.1.2.1 dX10_retract_34 rfl (lv_at hl 0 rfl) ?_
        obtain ⟨g14, h⟩ := xgd_of h
        obtain ⟨g15, h⟩ := xgd_of h
        have f17 := y_qK hG (fy_14_1 hG q264).1 (fy_14_1 hG q264).2.1 (fy_14_1 hG q264).2.2 g14 g15
        obtain ⟨n16, en16, h⟩ := xlet_of h
        refine y_aaldq X hG (fy_14_1 hG q264).1 (fy_14_1 hG q264).2.1 (Or.inr rfl) (fy_14_1 hG q264).2.2 g14 (by decide) g15 dX10_retract_35 ?_
        rw [← en16]
        rw [← en16] at f17
        refine x_iconst X dX10_retract_36 ?_
        refine yN_puti X hG hS 15 3 n16 3 _ tyX11 tyX11_ok nmX11 (inC := iX11) rfl f17.1 f17.2 ⟨by decide, by decide, by decide, rfl, rfl⟩ rfl (by decide +kernel) (x_m 45 rfl) dX10_retract_37 (fun H locs hG hS => ?_)
        obtain ⟨u18, eu18, h⟩ := xlet_of h
        replace hG : G t u18 H := by rw [eu18]; exact hG
        refine lv_iinc (v := (iI (x2_4 + 1))) (lv' := [(2, .int (iI (x2_4 + 1))), (0, .ref (t.2.2.1 264)), (1, .int (iI x1))]) X.1.1 X.1.2.1 dX10_retract_40 hl (k := 0) rfl (iI_add _ _) (by decide) rfl (fun ls hl => ?_)
        refine lv_goto (tgt := 9) X.1.1 X.1.2.1 dX10_retract_43 (by decide) ?_
        exact igo3 _ _ _ h rfl _ _ _ hG hS (lv_sub hl [0, 1, 2] rfl)
  exact Lgo3 FU _ _ h _ _ _ hG hS (lv_sub hl [0, 1, 2] rfl)
theorem hd_X10_retract : yX10_retract.cls = RX10 ∧ yX10_retract.cls ≠ "java/lang/invoke/MethodHandle" ∧ yX10_retract.cls ≠ "java/lang/invoke/VarHandle" ∧ (parseMethodDescriptor yX10_retract.desc).map (fun d => d.parameters.length) = some 1 := by decide +kernel
abbrev rX10_rung : Room := { frames := 0, cells := 0, slots := 0, locals := 0 }
set_option maxRecDepth 100000 in
set_option maxHeartbeats 8000000 in
theorem c_X10_rung (l : Launch) (t : gP) (x1 : Int) (u : uS) (r : Int) (u' : uS) (h : f_X10_rung x1 u = some (r, u')) (aq264 : al t 264) : xMi l yX10_rung wsX10_rung rX10_rung t [.ref (t.2.2.1 264), .int (iI x1)] u r u' 0 0 := by
  refine x_ofWi (cc := cX10_rung) (maxL := 4) (ret := .int) (own := RX10) (by decide) rfl rfl (Nat.le_of_ble_eq_true rfl) ?_
  intro p e s m args below meth c Q X hret H locs ls hG hS hl
  replace hl : lv_has ls 4 [(0, .ref (t.2.2.1 264)), (1, .int (iI x1))] := hl
  have w1 : Cond.fieldLink RX10 169 "TriggerNetworkLaw$Net" "rungs" "I" ∈ wsX10_rung := x_w 1 rfl
  have iX10 : ∀ w ∈ wsX100, w ∈ wsX10_rung := by decide +kernel
  have w2 : Cond.fieldLink RX10 29 "TriggerNetworkLaw$Net" "amplitude" "[I" ∈ wsX10_rung := x_w 2 rfl
  have w3 : Cond.fieldLink RX10 32 "TriggerNetworkLaw$Net" "magnitude" "[I" ∈ wsX10_rung := x_w 3 rfl
  have q264 : al t 264 ∧ sT 264 = 14 := ⟨aq264, by decide +kernel⟩
  unfold f_X10_rung at h
  refine x_iconst X dX10_rung_0 ?_
  refine lv_istore_n (lv' := [(2, .int (iI (-1))), (0, .ref (t.2.2.1 264)), (1, .int (iI x1))]) X.1.1 X.1.2.1 dX10_rung_1 rfl hl (by decide) rfl (fun ls hl => ?_)
  refine x_iconst X dX10_rung_2 ?_
  refine lv_istore_n (lv' := [(3, .int (iI 0)), (2, .int (iI (-1))), (0, .ref (t.2.2.1 264)), (1, .int (iI x1))]) X.1.1 X.1.2.1 dX10_rung_3 rfl hl (by decide) rfl (fun ls hl => ?_)
  have Lgo1 : ∀ (n : Nat) (x2_2 : Int) (x3_3 : Int) (u4 : uS), xl3 (s_X10_rung_4 x1) n x2_2 x3_3 u4 = some (r, u') → xG p l e rX10_rung s m args below meth c t Q 4 0 0 4 u4 [(2, .int (iI x2_2)), (3, .int (iI x3_3)), (0, .ref (t.2.2.1 264)), (1, .int (iI x1))] [] := by
    intro n x2_2 x3_3 u4 h
    refine xl3_W (F := s_X10_rung_4 x1) (fun x2_2 x3_3 u4 q => q = (r, u') → xG p l e rX10_rung s m args below meth c t Q 4 0 0 4 u4 [(2, .int (iI x2_2)), (3, .int (iI x3_3)), (0, .ref (t.2.2.1 264)), (1, .int (iI x1))] []) ?_ n x2_2 x3_3 u4 _ h rfl
    intro go1 igo1 x2_2 x3_3 u4 q h hq H locs ls hG hS hl
    subst hq
    unfold s_X10_rung_4 at h
    refine lv_iload_n X.1.1 X.1.2.1 dX10_rung_4 rfl (lv_at hl 1 rfl) ?_
    refine lv_aload_n X.1.1 X.1.2.1 dX10_rung_5 rfl (lv_at hl 2 rfl) ?_
    refine y_geti X hG 14 10 264 10 (inC := iX10) rfl q264.1 q264.2 ⟨by decide, by decide, by decide, rfl, rfl⟩ w1 dX10_rung_6 ?_
    obtain ⟨g5, h⟩ := xgd_of h
    refine x_icmp_ge (tgt := 35) X g5.1 g5.2 dX10_rung_9 (by decide) (fun c6 => ?_) (fun c6 => ?_)
    · replace h := xif_t h c6
      refine lv_iload_n X.1.1 X.1.2.1 dX10_rung_35 rfl (lv_at hl 0 rfl) ?_
      cases h
      exact hret _ _ _ _ dX10_rung_36 rfl hG hS
    · replace h := xif_f h c6
      refine lv_iload_n X.1.1 X.1.2.1 dX10_rung_12 rfl (lv_at hl 3 rfl) ?_
      refine lv_aload_n X.1.1 X.1.2.1 dX10_rung_13 rfl (lv_at hl 2 rfl) ?_
      refine y_getr X hG 14 4 264 5 (inC := iX10) rfl q264.1 q264.2 ⟨by decide, by decide, by decide, rfl, by decide, by decide⟩ w2 dX10_rung_14 ?_
      refine lv_iload_n X.1.1 X.1.2.1 dX10_rung_17 rfl (lv_at hl 1 rfl) ?_
      obtain ⟨g7, h⟩ := xgd_of h
      refine y_iald X hG (fy_14_4 hG q264).1 (fy_14_4 hG q264).2.1 (n := 8) (fy_14_4 hG q264).2.2 g7 (by decide) dX10_rung_18 ?_
      obtain ⟨g8, h⟩ := xgd_of h
      refine x_icmp_lt (tgt := 29) X g8.1 g8.2 dX10_rung_19 (by decide) (fun c9 => ?_) (fun c9 => ?_)
      · replace h := xif_t h c9
        refine lv_iinc (v := (iI (x3_3 + 1))) (lv' := [(3, .int (iI (x3_3 + 1))), (2, .int (iI x2_2)), (0, .ref (t.2.2.1 264)), (1, .int (iI x1))]) X.1.1 X.1.2.1 dX10_rung_29 hl (k := 1) rfl (iI_add _ _) (by decide) rfl (fun ls hl => ?_)
        refine lv_goto (tgt := 4) X.1.1 X.1.2.1 dX10_rung_32 (by decide) ?_
        exact igo1 _ _ _ _ h rfl _ _ _ hG hS (lv_sub hl [1, 0, 2, 3] rfl)
      · replace h := xif_f h c9
        refine lv_aload_n X.1.1 X.1.2.1 dX10_rung_22 rfl (lv_at hl 2 rfl) ?_
        refine y_getr X hG 14 5 264 6 (inC := iX10) rfl q264.1 q264.2 ⟨by decide, by decide, by decide, rfl, by decide, by decide⟩ w3 dX10_rung_23 ?_
        refine lv_iload_n X.1.1 X.1.2.1 dX10_rung_26 rfl (lv_at hl 1 rfl) ?_
        obtain ⟨g10, h⟩ := xgd_of h
        refine y_iald X hG (fy_14_5 hG q264).1 (fy_14_5 hG q264).2.1 (n := 8) (fy_14_5 hG q264).2.2 g10 (by decide) dX10_rung_27 ?_
        refine x_name (fun x2_11 ex2_11 => ?_)
        replace h := xlet_at ex2_11 h
        refine lv_istore_n (lv' := [(2, .int (iI x2_11)), (3, .int (iI x3_3)), (0, .ref (t.2.2.1 264)), (1, .int (iI x1))]) X.1.1 X.1.2.1 dX10_rung_28 rfl hl (by decide) rfl (fun ls hl => ?_)
        refine lv_iinc (v := (iI (x3_3 + 1))) (lv' := [(3, .int (iI (x3_3 + 1))), (2, .int (iI x2_11)), (0, .ref (t.2.2.1 264)), (1, .int (iI x1))]) X.1.1 X.1.2.1 dX10_rung_29 hl (k := 1) rfl (iI_add _ _) (by decide) rfl (fun ls hl => ?_)
        refine lv_goto (tgt := 4) X.1.1 X.1.2.1 dX10_rung_32 (by decide) ?_
        exact igo1 _ _ _ _ h rfl _ _ _ hG hS (lv_sub hl [1, 0, 2, 3] rfl)
  exact Lgo1 FU _ _ _ h _ _ _ hG hS (lv_sub hl [1, 0, 2, 3] rfl)
theorem hd_X10_rung : yX10_rung.cls = RX10 ∧ yX10_rung.cls ≠ "java/lang/invoke/MethodHandle" ∧ yX10_rung.cls ≠ "java/lang/invoke/VarHandle" ∧ (parseMethodDescriptor yX10_rung.desc).map (fun d => d.parameters.length) = some 1 := by decide +kernel
