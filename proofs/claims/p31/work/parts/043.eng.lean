abbrev rX0_raisePeak : Room := { frames := 1, cells := 0, slots := 0, locals := 60 }
set_option maxRecDepth 100000 in
set_option maxHeartbeats 8000000 in
theorem c_X0_raisePeak (l : Launch) (t : gP) (k0 : Nat) (x1 : Int) (x2 : Int) (u : uS) (r : Int) (u' : uS) (h : f_X0_raisePeak k0 x1 x2 u = some (r, u')) : xMv l yX0_raisePeak wsX0_raisePeak rX0_raisePeak t [.ref (t.2.2.1 k0), .int (iI x1), .int (iI x2)] u u' 0 0 := by
  refine x_ofWv (cc := cX0_raisePeak) (maxL := 3) (own := RX0) (by decide) rfl rfl (Nat.le_of_ble_eq_true rfl) ?_
  intro p e s m args below meth c Q X hret H locs ls hG hS hl
  replace hl : lv_has ls 3 [(0, .ref (t.2.2.1 k0)), (1, .int (iI x1)), (2, .int (iI x2))] := hl
  have iX7 : ∀ w ∈ wsX70, w ∈ wsX0_raisePeak := by decide +kernel
  have w1 : Cond.fieldLink RX0 80 "TriggerNetwork$Situation" "pickPeaks" "[I" ∈ wsX0_raisePeak := x_w 1 rfl
  have w2 : Cond.methodLink RX0 83 Lib.Math.max.name ∈ wsX0_raisePeak := x_w 2 rfl
  have w3 : Cond.static Lib.Math.max.name ∈ wsX0_raisePeak := x_w 3 rfl
  have w4 : Cond.initialized "java/lang/Math" ∈ wsX0_raisePeak := x_w 4 rfl
  have w5 : Cond.code Lib.Math.max.name Lib.Math.max.code 2 (some .int) ∈ wsX0_raisePeak := x_w 5 rfl
  unfold f_X0_raisePeak at h
  obtain ⟨g1, h⟩ := xgd_of h
  refine lv_iload_n X.1.1 X.1.2.1 dX0_raisePeak_0 rfl (lv_at hl 1 rfl) ?_
  obtain ⟨g2, h⟩ := xgd_of h
  refine x_if_lt (tgt := 26) X g2 dX0_raisePeak_1 (by decide) (fun c3 => ?_) (fun c3 => ?_)
  · replace h := xif_t h c3
    cases h
    exact hret _ _ _ _ dX0_raisePeak_26 hG hS
  · replace h := xif_f h c3
    refine lv_iload_n X.1.1 X.1.2.1 dX0_raisePeak_4 rfl (lv_at hl 1 rfl) ?_
    refine x_bipush X dX0_raisePeak_5 (by decide) ?_
    obtain ⟨g4, h⟩ := xgd_of h
    refine x_icmp_ge (tgt := 26) X g4 ⟨by decide, by decide⟩ dX0_raisePeak_7 (by decide) (fun c5 => ?_) (fun c5 => ?_)
    · replace h := xif_t h c5
      cases h
      exact hret _ _ _ _ dX0_raisePeak_26 hG hS
    · replace h := xif_f h c5
      refine lv_aload_n X.1.1 X.1.2.1 dX0_raisePeak_10 rfl (lv_at hl 0 rfl) ?_
      refine x_getr X hG 11 12 k0 10 (inC := iX7) rfl g1.1 g1.2 ⟨by decide, by decide, by decide, rfl, by decide, by decide⟩ w1 dX0_raisePeak_11 ?_
      refine lv_iload_n X.1.1 X.1.2.1 dX0_raisePeak_14 rfl (lv_at hl 1 rfl) ?_
      refine lv_aload_n X.1.1 X.1.2.1 dX0_raisePeak_15 rfl (lv_at hl 0 rfl) ?_
      refine x_getr X hG 11 12 k0 10 (inC := iX7) rfl g1.1 g1.2 ⟨by decide, by decide, by decide, rfl, by decide, by decide⟩ w1 dX0_raisePeak_16 ?_
      refine lv_iload_n X.1.1 X.1.2.1 dX0_raisePeak_19 rfl (lv_at hl 1 rfl) ?_
      obtain ⟨g6, h⟩ := xgd_of h
      refine x_iald X hG (fx_11_12 g1).1 (fx_11_12 g1).2.1 (n := 60) (fx_11_12 g1).2.2 g6 (by decide) dX0_raisePeak_20 ?_
      refine lv_iload_n X.1.1 X.1.2.1 dX0_raisePeak_21 rfl (lv_at hl 2 rfl) ?_
      obtain ⟨g7, h⟩ := xgd_of h
      refine x_mmax (R := rX0_raisePeak) X g7.1 g7.2 hl.1 w2 w3 w4 w5 (by decide) (by decide) dX0_raisePeak_22 (Nat.le_of_ble_eq_true rfl) ⟨by decide, by decide⟩ ?_
      obtain ⟨g8, h⟩ := xgd_of h
      refine x_iast X hG hS (fx_11_12 g1).1 (fx_11_12 g1).2.1 (n := 60) (fx_11_12 g1).2.2 g8 (by decide) dX0_raisePeak_25 (fun H locs hG hS => ?_)
      obtain ⟨u9, eu9, h⟩ := xlet_of h
      replace hG : G t u9 H := by rw [eu9]; exact hG
      cases h
      exact hret _ _ _ _ dX0_raisePeak_26 hG hS
theorem hds_X0_raisePeak : yX0_raisePeak.cls ≠ "java/lang/invoke/MethodHandle" ∧ yX0_raisePeak.cls ≠ "java/lang/invoke/VarHandle" ∧ (parseMethodDescriptor yX0_raisePeak.desc).map (fun d => d.parameters.length) = some 3 := by decide +kernel
abbrev rX0_judge : Room := { frames := 2, cells := 0, slots := 0, locals := 82 }
set_option maxRecDepth 100000 in
set_option maxHeartbeats 8000000 in
theorem c_X0_judge (l : Launch) (t : gP) (k0 : Nat) (k1 : Nat) (x2 : Int) (u : uS) (r : Int) (u' : uS) (h : f_X0_judge k0 k1 x2 u = some (r, u')) : xMi l yX0_judge wsX0_judge rX0_judge t [.ref (t.2.2.1 k0), .ref (t.2.2.1 k1), .int (iI x2)] u r u' 0 0 := by
  refine x_ofWi (cc := cX0_judge) (maxL := 6) (ret := .boolean) (own := RX0) (by decide) rfl rfl (Nat.le_of_ble_eq_true rfl) ?_
  intro p e s m args below meth c Q X hret H locs ls hG hS hl
  replace hl : lv_has ls 6 [(0, .ref (t.2.2.1 k0)), (1, .ref (t.2.2.1 k1)), (2, .int (iI x2))] := hl
  have iX7 : ∀ w ∈ wsX70, w ∈ wsX0_judge := by decide +kernel
  have w1 : Cond.fieldLink RX0 41 "TriggerNetwork$Situation" "levels" "[I" ∈ wsX0_judge := x_w 1 rfl
  have w2 : Cond.fieldLink RX0 44 "TriggerNetwork$Situation" "shortSums" "[I" ∈ wsX0_judge := x_w 2 rfl
  have w3 : Cond.fieldLink RX0 47 "TriggerNetwork$Situation" "longSums" "[I" ∈ wsX0_judge := x_w 3 rfl
  have w4 : Cond.fieldLink RX0 54 "TriggerNetwork$Situation" "triggered" "[I" ∈ wsX0_judge := x_w 4 rfl
  have w7 : Cond.fieldLink RX0 15 "TriggerNetwork$Situation" "tick" "I" ∈ wsX0_judge := x_w 7 rfl
  have iX5 : ∀ w ∈ wsX50, w ∈ wsX0_judge := by decide +kernel
  have w8 : Cond.fieldLink RX0 67 "TriggerNetwork$Network" "longSpan" "I" ∈ wsX0_judge := x_w 8 rfl
  have w10 : Cond.fieldLink RX0 73 "TriggerNetwork$Network" "on" "I" ∈ wsX0_judge := x_w 10 rfl
  have w11 : Cond.fieldLink RX0 34 "TriggerNetwork$Situation" "pickCount" "I" ∈ wsX0_judge := x_w 11 rfl
  have w9 : Cond.fieldLink RX0 70 "TriggerNetwork$Situation" "muted" "[I" ∈ wsX0_judge := x_w 9 rfl
  have w5 : Cond.fieldLink RX0 57 "TriggerNetwork$Situation" "latestPicks" "[I" ∈ wsX0_judge := x_w 5 rfl
  have w6 : Cond.fieldLink RX0 64 "TriggerNetwork$Network" "off" "I" ∈ wsX0_judge := x_w 6 rfl
  unfold f_X0_judge at h
  obtain ⟨g1, h⟩ := xgd_of h
  refine lv_aload_n X.1.1 X.1.2.1 dX0_judge_0 rfl (lv_at hl 1 rfl) ?_
  refine x_getr X hG 11 3 k1 1 (inC := iX7) rfl g1.2.1 g1.2.2 ⟨by decide, by decide, by decide, rfl, by decide, by decide⟩ w1 dX0_judge_1 ?_
  refine lv_iload_n X.1.1 X.1.2.1 dX0_judge_4 rfl (lv_at hl 2 rfl) ?_
  obtain ⟨g2, h⟩ := xgd_of h
  refine x_iald X hG (fx_11_3 g1.2).1 (fx_11_3 g1.2).2.1 (n := 8) (fx_11_3 g1.2).2.2 g2 (by decide) dX0_judge_5 ?_
  refine x_name (fun x3_3 ex3_3 => ?_)
  replace h := xlet_at ex3_3 h
  refine lv_istore_n (lv' := [(3, .int (iI x3_3)), (0, .ref (t.2.2.1 k0)), (1, .ref (t.2.2.1 k1)), (2, .int (iI x2))]) X.1.1 X.1.2.1 dX0_judge_6 rfl hl (by decide) rfl (fun ls hl => ?_)
  refine lv_aload_n X.1.1 X.1.2.1 dX0_judge_7 rfl (lv_at hl 1 rfl) ?_
  refine lv_aload_n X.1.1 X.1.2.1 dX0_judge_8 rfl (lv_at hl 2 rfl) ?_
  refine x_getr X hG 11 5 k1 3 (inC := iX7) rfl g1.2.1 g1.2.2 ⟨by decide, by decide, by decide, rfl, by decide, by decide⟩ w2 dX0_judge_9 ?_
  refine lv_iload_n X.1.1 X.1.2.1 dX0_judge_12 rfl (lv_at hl 3 rfl) ?_
  obtain ⟨g4, h⟩ := xgd_of h
  refine x_iald X hG (fx_11_5 g1.2).1 (fx_11_5 g1.2).2.1 (n := 8) (fx_11_5 g1.2).2.2 g4 (by decide) dX0_judge_13 ?_
  refine lv_aload_n X.1.1 X.1.2.1 dX0_judge_14 rfl (lv_at hl 2 rfl) ?_
  refine x_getr X hG 11 6 k1 4 (inC := iX7) rfl g1.2.1 g1.2.2 ⟨by decide, by decide, by decide, rfl, by decide, by decide⟩ w3 dX0_judge_15 ?_
  refine lv_iload_n X.1.1 X.1.2.1 dX0_judge_18 rfl (lv_at hl 3 rfl) ?_
  obtain ⟨g5, h⟩ := xgd_of h
  refine x_iald X hG (fx_11_6 g1.2).1 (fx_11_6 g1.2).2.1 (n := 8) (fx_11_6 g1.2).2.2 g5 (by decide) dX0_judge_19 ?_
  obtain ⟨v6, u7, hf, h⟩ := xbd_of h
  refine x_callVi0 X hG hS (c_X5_ratioOf l t _ _ _ _ _ _ hf) (cwV 2 X.1.2.2.2.2 gX0_judge_X5_ratioOf rfl rfl rfl hd_X5_ratioOf ⟨Nat.le_of_ble_eq_true rfl, Nat.le_of_ble_eq_true rfl⟩) g1.1.1 g1.1.2 rfl (by decide) (by rfl) hl.1 (Nat.le_of_ble_eq_true rfl) dX0_judge_20 ⟨by decide, by decide⟩ rfl (fun H locs hG hS => ?_)
  refine lv_istore (lv' := [(4, .int (iI v6)), (3, .int (iI x3_3)), (0, .ref (t.2.2.1 k0)), (1, .ref (t.2.2.1 k1)), (2, .int (iI x2))]) X.1.1 X.1.2.1 dX0_judge_23 hl (by decide) rfl (fun ls hl => ?_)
  refine lv_aload_n X.1.1 X.1.2.1 dX0_judge_25 rfl (lv_at hl 3 rfl) ?_
  refine x_getr X hG 11 7 k1 5 (inC := iX7) rfl g1.2.1 g1.2.2 ⟨by decide, by decide, by decide, rfl, by decide, by decide⟩ w4 dX0_judge_26 ?_
  refine lv_iload_n X.1.1 X.1.2.1 dX0_judge_29 rfl (lv_at hl 4 rfl) ?_
  obtain ⟨g8, h⟩ := xgd_of h
  refine x_iald X hG (fx_11_7 g1.2).1 (fx_11_7 g1.2).2.1 (n := 8) (fx_11_7 g1.2).2.2 g8 (by decide) dX0_judge_30 ?_
  refine x_iconst X dX0_judge_31 ?_
  obtain ⟨g9, h⟩ := xgd_of h
  refine x_icmp_ne (tgt := 64) X g9 ⟨by decide, by decide⟩ dX0_judge_32 (by decide) (fun c10 => ?_) (fun c10 => ?_)
  · replace h := xif_f h c10
    refine lv_aload_n X.1.1 X.1.2.1 dX0_judge_64 rfl (lv_at hl 3 rfl) ?_
    refine x_geti X hG 11 0 k1 0 (inC := iX7) rfl g1.2.1 g1.2.2 ⟨by decide, by decide, by decide, rfl, rfl⟩ w7 dX0_judge_65 ?_
    refine lv_aload_n X.1.1 X.1.2.1 dX0_judge_68 rfl (lv_at hl 2 rfl) ?_
    refine x_geti X hG 9 4 k0 4 (inC := iX5) rfl g1.1.1 g1.1.2 ⟨by decide, by decide, by decide, rfl, rfl⟩ w8 dX0_judge_69 ?_
    obtain ⟨g11, h⟩ := xgd_of h
    obtain ⟨j12, ej12, h⟩ := xlet_of h
    have Jj12 : ∀ (s13 : Int) (u14 : uS), j12 s13 u14 = some (r, u') → xG p l e rX0_judge s m args below meth c t Q 6 0 0 89 u14 [(0, .ref (t.2.2.1 k0)), (1, .ref (t.2.2.1 k1)), (2, .int (iI x2)), (3, .int (iI x3_3)), (4, .int (iI v6))] [.int (iI s13)] := by
        intro s13 u14 h H locs ls hG hS hl
        replace h := (congrFun (congrFun ej12 s13) u14).symm.trans h
        refine lv_istore (lv' := [(5, .int (iI s13)), (0, .ref (t.2.2.1 k0)), (1, .ref (t.2.2.1 k1)), (2, .int (iI x2)), (3, .int (iI x3_3)), (4, .int (iI v6))]) X.1.1 X.1.2.1 dX0_judge_89 hl (by decide) rfl (fun ls hl => ?_)
        refine lv_iload X.1.1 X.1.2.1 dX0_judge_91 (lv_at hl 0 rfl) ?_
        obtain ⟨g15, h⟩ := xgd_of h
        refine x_if_eq (tgt := 114) X g15 dX0_judge_93 (by decide) (fun c16 => ?_) (fun c16 => ?_)
        · replace h := xif_t h c16
          refine x_iconst X dX0_judge_114 ?_
          cases h
          exact hret _ _ _ _ dX0_judge_115 (by decide) hG hS
        · replace h := xif_f h c16
          refine lv_iload X.1.1 X.1.2.1 dX0_judge_96 (lv_at hl 5 rfl) ?_
          refine lv_aload_n X.1.1 X.1.2.1 dX0_judge_98 rfl (lv_at hl 1 rfl) ?_
          refine x_geti X hG 9 5 k0 5 (inC := iX5) rfl g1.1.1 g1.1.2 ⟨by decide, by decide, by decide, rfl, rfl⟩ w10 dX0_judge_99 ?_
          obtain ⟨g17, h⟩ := xgd_of h
          refine x_icmp_lt (tgt := 114) X g17.1 g17.2 dX0_judge_102 (by decide) (fun c18 => ?_) (fun c18 => ?_)
          · replace h := xif_t h c18
            refine x_iconst X dX0_judge_114 ?_
            cases h
            exact hret _ _ _ _ dX0_judge_115 (by decide) hG hS
          · replace h := xif_f h c18
            refine lv_aload_n X.1.1 X.1.2.1 dX0_judge_105 rfl (lv_at hl 2 rfl) ?_
            refine x_geti X hG 11 1 k1 1 (inC := iX7) rfl g1.2.1 g1.2.2 ⟨by decide, by decide, by decide, rfl, rfl⟩ w11 dX0_judge_106 ?_
            refine x_bipush X dX0_judge_109 (by decide) ?_
            obtain ⟨g19, h⟩ := xgd_of h
            refine x_icmp_lt (tgt := 116) X g19 ⟨by decide, by decide⟩ dX0_judge_111 (by decide) (fun c20 => ?_) (fun c20 => ?_)
            · replace h := xif_t h c20
              refine lv_aload_n X.1.1 X.1.2.1 dX0_judge_116 rfl (lv_at hl 2 rfl) ?_
              refine x_getr X hG 11 7 k1 5 (inC := iX7) rfl g1.2.1 g1.2.2 ⟨by decide, by decide, by decide, rfl, by decide, by decide⟩ w4 dX0_judge_117 ?_
              refine lv_iload_n X.1.1 X.1.2.1 dX0_judge_120 rfl (lv_at hl 3 rfl) ?_
              refine x_iconst X dX0_judge_121 ?_
              obtain ⟨g21, h⟩ := xgd_of h
              refine x_iast X hG hS (fx_11_7 g1.2).1 (fx_11_7 g1.2).2.1 (n := 8) (fx_11_7 g1.2).2.2 g21 (by decide) dX0_judge_122 (fun H locs hG hS => ?_)
              obtain ⟨u22, eu22, h⟩ := xlet_of h
              replace hG : G t u22 H := by rw [eu22]; exact hG
              refine lv_aload_n X.1.1 X.1.2.1 dX0_judge_123 rfl (lv_at hl 2 rfl) ?_
              refine lv_iload_n X.1.1 X.1.2.1 dX0_judge_124 rfl (lv_at hl 3 rfl) ?_
              refine lv_iload_n X.1.1 X.1.2.1 dX0_judge_125 rfl (lv_at hl 4 rfl) ?_
              obtain ⟨v23, u24, hf, h⟩ := xbd_of h
              refine x_callVv0 X hG hS (c_X7_addPick l t _ _ _ _ _ _ hf) (cwV 2 X.1.2.2.2.2 gX0_judge_X7_addPick rfl rfl rfl hd_X7_addPick ⟨Nat.le_of_ble_eq_true rfl, Nat.le_of_ble_eq_true rfl⟩) g1.2.1 g1.2.2 rfl (by decide) (by rfl) hl.1 (Nat.le_of_ble_eq_true rfl) dX0_judge_126 ⟨by decide, by decide⟩ rfl (fun H locs hG hS => ?_)
              refine x_iconst X dX0_judge_129 ?_
              cases h
              exact hret _ _ _ _ dX0_judge_130 (by decide) hG hS
            · replace h := xif_f h c20
              refine x_iconst X dX0_judge_114 ?_
              cases h
              exact hret _ _ _ _ dX0_judge_115 (by decide) hG hS
    obtain ⟨j25, ej25, h⟩ := xlet_of h
    have Jj25 : ∀ (u26 : uS), j25 u26 = some (r, u') → xG p l e rX0_judge s m args below meth c t Q 6 0 0 88 u26 [(0, .ref (t.2.2.1 k0)), (1, .ref (t.2.2.1 k1)), (2, .int (iI x2)), (3, .int (iI x3_3)), (4, .int (iI v6))] [] := by
        intro u26 h H locs ls hG hS hl
        replace h := (congrFun ej25 u26).symm.trans h
        refine x_iconst X dX0_judge_88 ?_
        exact Jj12 _ _ h _ _ _ hG hS (lv_sub hl [0, 1, 2, 3, 4] rfl)
    refine x_icmp_lt (tgt := 88) X g11.1 g11.2 dX0_judge_72 (by decide) (fun c27 => ?_) (fun c27 => ?_)
    · replace h := xif_t h c27
      exact Jj25 _ h _ _ _ hG hS (lv_sub hl [2, 3, 4, 1, 0] rfl)
    · replace h := xif_f h c27
      refine lv_aload_n X.1.1 X.1.2.1 dX0_judge_75 rfl (lv_at hl 3 rfl) ?_
      refine x_getr X hG 11 8 k1 6 (inC := iX7) rfl g1.2.1 g1.2.2 ⟨by decide, by decide, by decide, rfl, by decide, by decide⟩ w9 dX0_judge_76 ?_
      refine lv_iload_n X.1.1 X.1.2.1 dX0_judge_79 rfl (lv_at hl 4 rfl) ?_
      obtain ⟨g28, h⟩ := xgd_of h
      refine x_iald X hG (fx_11_8 g1.2).1 (fx_11_8 g1.2).2.1 (n := 8) (fx_11_8 g1.2).2.2 g28 (by decide) dX0_judge_80 ?_
      obtain ⟨g29, h⟩ := xgd_of h
      refine x_if_ne (tgt := 88) X g29 dX0_judge_81 (by decide) (fun c30 => ?_) (fun c30 => ?_)
      · replace h := xif_f h c30
        exact Jj25 _ h _ _ _ hG hS (lv_sub hl [2, 3, 4, 1, 0] rfl)
      · replace h := xif_t h c30
        refine x_iconst X dX0_judge_84 ?_
        refine lv_goto (tgt := 89) X.1.1 X.1.2.1 dX0_judge_85 (by decide) ?_
        exact Jj12 _ _ h _ _ _ hG hS (lv_sub hl [2, 3, 4, 1, 0] rfl)
  · replace h := xif_t h c10
    refine lv_aload_n X.1.1 X.1.2.1 dX0_judge_35 rfl (lv_at hl 3 rfl) ?_
    refine lv_aload_n X.1.1 X.1.2.1 dX0_judge_36 rfl (lv_at hl 3 rfl) ?_
    refine x_getr X hG 11 9 k1 7 (inC := iX7) rfl g1.2.1 g1.2.2 ⟨by decide, by decide, by decide, rfl, by decide, by decide⟩ w5 dX0_judge_37 ?_
    refine lv_iload_n X.1.1 X.1.2.1 dX0_judge_40 rfl (lv_at hl 4 rfl) ?_
    obtain ⟨g31, h⟩ := xgd_of h
    refine x_iald X hG (fx_11_9 g1.2).1 (fx_11_9 g1.2).2.1 (n := 8) (fx_11_9 g1.2).2.2 g31 (by decide) dX0_judge_41 ?_
    refine lv_iload_n X.1.1 X.1.2.1 dX0_judge_42 rfl (lv_at hl 1 rfl) ?_
    obtain ⟨v32, u33, hf, h⟩ := xbd_of h
    refine x_callSv0 X hG hS (c_X0_raisePeak l t _ _ _ _ _ _ hf) (va_cwS 3 X.1.2.2.2.2 gX0_judge_X0_raisePeak rfl rfl rfl hds_X0_raisePeak ⟨Nat.le_of_ble_eq_true rfl, Nat.le_of_ble_eq_true rfl⟩) (by rfl) hl.1 (Nat.le_of_ble_eq_true rfl) dX0_judge_43 ⟨by decide, by decide⟩ rfl (fun H locs hG hS => ?_)
    refine lv_iload X.1.1 X.1.2.1 dX0_judge_46 (lv_at hl 0 rfl) ?_
    refine lv_aload_n X.1.1 X.1.2.1 dX0_judge_48 rfl (lv_at hl 2 rfl) ?_
    refine x_geti X hG 9 6 k0 6 (inC := iX5) rfl g1.1.1 g1.1.2 ⟨by decide, by decide, by decide, rfl, rfl⟩ w6 dX0_judge_49 ?_
    obtain ⟨g34, h⟩ := xgd_of h
    refine x_icmp_ge (tgt := 62) X g34.1 g34.2 dX0_judge_52 (by decide) (fun c35 => ?_) (fun c35 => ?_)
    · replace h := xif_t h c35
      refine x_iconst X dX0_judge_62 ?_
      cases h
      exact hret _ _ _ _ dX0_judge_63 (by decide) hG hS
    · replace h := xif_f h c35
      refine lv_aload_n X.1.1 X.1.2.1 dX0_judge_55 rfl (lv_at hl 3 rfl) ?_
      refine x_getr X hG 11 7 k1 5 (inC := iX7) rfl g1.2.1 g1.2.2 ⟨by decide, by decide, by decide, rfl, by decide, by decide⟩ w4 dX0_judge_56 ?_
      refine lv_iload_n X.1.1 X.1.2.1 dX0_judge_59 rfl (lv_at hl 4 rfl) ?_
      refine x_iconst X dX0_judge_60 ?_
      obtain ⟨g36, h⟩ := xgd_of h
      refine x_iast X hG hS (fx_11_7 g1.2).1 (fx_11_7 g1.2).2.1 (n := 8) (fx_11_7 g1.2).2.2 g36 (by decide) dX0_judge_61 (fun H locs hG hS => ?_)
      obtain ⟨u37, eu37, h⟩ := xlet_of h
      replace hG : G t u37 H := by rw [eu37]; exact hG
      refine x_iconst X dX0_judge_62 ?_
      cases h
      exact hret _ _ _ _ dX0_judge_63 (by decide) hG hS
theorem hds_X0_judge : yX0_judge.cls ≠ "java/lang/invoke/MethodHandle" ∧ yX0_judge.cls ≠ "java/lang/invoke/VarHandle" ∧ (parseMethodDescriptor yX0_judge.desc).map (fun d => d.parameters.length) = some 3 := by decide +kernel
abbrev rX0_declareGroup : Room := { frames := 0, cells := 0, slots := 0, locals := 0 }
set_option maxRecDepth 100000 in
set_option maxHeartbeats 8000000 in
theorem c_X0_declareGroup (l : Launch) (t : gP) (k1 : Nat) (u : uS) (r : Int) (u' : uS) (h : f_X0_declareGroup k1 u = some (r, u')) : xMv l yX0_declareGroup wsX0_declareGroup rX0_declareGroup t [.ref (t.2.2.1 28), .ref (t.2.2.1 k1)] u u' 0 0 := by
  refine x_ofWv (cc := cX0_declareGroup) (maxL := 4) (own := RX0) (by decide) rfl rfl (Nat.le_of_ble_eq_true rfl) ?_
  intro p e s m args below meth c Q X hret H locs ls hG hS hl
  replace hl : lv_has ls 4 [(0, .ref (t.2.2.1 28)), (1, .ref (t.2.2.1 k1))] := hl
  have q28 : 28 < NN ∧ sT 28 = 4 := by decide
  have iX7 : ∀ w ∈ wsX70, w ∈ wsX0_declareGroup := by decide +kernel
  have w1 : Cond.fieldLink RX0 88 "TriggerNetwork$Situation" "eventCount" "I" ∈ wsX0_declareGroup := x_w 1 rfl
  have w2 : Cond.fieldLink RX0 124 "TriggerNetwork$Situation" "declared" "[I" ∈ wsX0_declareGroup := x_w 2 rfl
  have w3 : Cond.fieldLink RX0 15 "TriggerNetwork$Situation" "tick" "I" ∈ wsX0_declareGroup := x_w 3 rfl
  have w4 : Cond.fieldLink RX0 91 "TriggerNetwork$Situation" "retracted" "[I" ∈ wsX0_declareGroup := x_w 4 rfl
  have iX0 : ∀ w ∈ wsX00, w ∈ wsX0_declareGroup := by decide +kernel
  have w5 : Cond.fieldLink RX0 104 "TriggerNetwork$Engine" "groupSize" "I" ∈ wsX0_declareGroup := x_w 5 rfl
  have w6 : Cond.fieldLink RX0 9 "TriggerNetwork$Engine" "group" "[I" ∈ wsX0_declareGroup := x_w 6 rfl
  have q29 : 29 < NN ∧ sT 29 = 100 ∧ sN 29 = 60 := by decide
  have w7 : Cond.fieldLink RX0 98 "TriggerNetwork$Situation" "pickEvents" "[I" ∈ wsX0_declareGroup := x_w 7 rfl
  unfold f_X0_declareGroup at h
  obtain ⟨g1, h⟩ := xgd_of h
  refine lv_aload_n X.1.1 X.1.2.1 dX0_declareGroup_0 rfl (lv_at hl 1 rfl) ?_
  refine x_geti X hG 11 2 k1 2 (inC := iX7) rfl g1.1 g1.2 ⟨by decide, by decide, by decide, rfl, rfl⟩ w1 dX0_declareGroup_1 ?_
  obtain ⟨g2, h⟩ := xgd_of h
  refine x_if_lt (tgt := 16) X g2 dX0_declareGroup_4 (by decide) (fun c3 => ?_) (fun c3 => ?_)
  · replace h := xif_t h c3
    cases h
    exact hret _ _ _ _ dX0_declareGroup_16 hG hS
  · replace h := xif_f h c3
    refine lv_aload_n X.1.1 X.1.2.1 dX0_declareGroup_7 rfl (lv_at hl 1 rfl) ?_
    refine x_geti X hG 11 2 k1 2 (inC := iX7) rfl g1.1 g1.2 ⟨by decide, by decide, by decide, rfl, rfl⟩ w1 dX0_declareGroup_8 ?_
    refine x_bipush X dX0_declareGroup_11 (by decide) ?_
    obtain ⟨g4, h⟩ := xgd_of h
    refine x_icmp_lt (tgt := 17) X g4 ⟨by decide, by decide⟩ dX0_declareGroup_13 (by decide) (fun c5 => ?_) (fun c5 => ?_)
    · replace h := xif_t h c5
      refine lv_aload_n X.1.1 X.1.2.1 dX0_declareGroup_17 rfl (lv_at hl 1 rfl) ?_
      refine x_getr X hG 11 15 k1 13 (inC := iX7) rfl g1.1 g1.2 ⟨by decide, by decide, by decide, rfl, by decide, by decide⟩ w2 dX0_declareGroup_18 ?_
      refine lv_aload_n X.1.1 X.1.2.1 dX0_declareGroup_21 rfl (lv_at hl 1 rfl) ?_
      refine x_geti X hG 11 2 k1 2 (inC := iX7) rfl g1.1 g1.2 ⟨by decide, by decide, by decide, rfl, rfl⟩ w1 dX0_declareGroup_22 ?_
      refine lv_aload_n X.1.1 X.1.2.1 dX0_declareGroup_25 rfl (lv_at hl 1 rfl) ?_
      refine x_geti X hG 11 0 k1 0 (inC := iX7) rfl g1.1 g1.2 ⟨by decide, by decide, by decide, rfl, rfl⟩ w3 dX0_declareGroup_26 ?_
      obtain ⟨g6, h⟩ := xgd_of h
      refine x_iast X hG hS (fx_11_15 g1).1 (fx_11_15 g1).2.1 (n := 20) (fx_11_15 g1).2.2 g6 (by decide) dX0_declareGroup_29 (fun H locs hG hS => ?_)
      obtain ⟨u7, eu7, h⟩ := xlet_of h
      replace hG : G t u7 H := by rw [eu7]; exact hG
      refine lv_aload_n X.1.1 X.1.2.1 dX0_declareGroup_30 rfl (lv_at hl 1 rfl) ?_
      refine x_getr X hG 11 16 k1 14 (inC := iX7) rfl g1.1 g1.2 ⟨by decide, by decide, by decide, rfl, by decide, by decide⟩ w4 dX0_declareGroup_31 ?_
      refine lv_aload_n X.1.1 X.1.2.1 dX0_declareGroup_34 rfl (lv_at hl 1 rfl) ?_
      refine x_geti X hG 11 2 k1 2 (inC := iX7) rfl g1.1 g1.2 ⟨by decide, by decide, by decide, rfl, rfl⟩ w1 dX0_declareGroup_35 ?_
      refine x_iconst X dX0_declareGroup_38 ?_
      obtain ⟨g8, h⟩ := xgd_of h
      refine x_iast X hG hS (fx_11_16 g1).1 (fx_11_16 g1).2.1 (n := 20) (fx_11_16 g1).2.2 g8 (by decide) dX0_declareGroup_39 (fun H locs hG hS => ?_)
      obtain ⟨u9, eu9, h⟩ := xlet_of h
      replace hG : G t u9 H := by rw [eu9]; exact hG
      refine x_iconst X dX0_declareGroup_40 ?_
      refine lv_istore_n (lv' := [(2, .int (iI 0)), (0, .ref (t.2.2.1 28)), (1, .ref (t.2.2.1 k1))]) X.1.1 X.1.2.1 dX0_declareGroup_41 rfl hl (by decide) rfl (fun ls hl => ?_)
      obtain ⟨j10, ej10, h⟩ := xlet_of h
      have Jj10 : ∀ (u11 : uS), j10 u11 = some (r, u') → xG p l e rX0_declareGroup s m args below meth c t Q 4 0 0 89 u11 [(1, .ref (t.2.2.1 k1))] [] := by
          intro u11 h H locs ls hG hS hl
          replace h := (congrFun ej10 u11).symm.trans h
          refine lv_aload_n X.1.1 X.1.2.1 dX0_declareGroup_89 rfl (lv_at hl 0 rfl) ?_
          refine lv_dup X.1.1 X.1.2.1 dX0_declareGroup_90 rfl ?_
          refine x_geti X hG 11 2 k1 2 (inC := iX7) rfl g1.1 g1.2 ⟨by decide, by decide, by decide, rfl, rfl⟩ w1 dX0_declareGroup_91 ?_
          refine x_iconst X dX0_declareGroup_94 ?_
          refine x_iadd X dX0_declareGroup_95 ?_
          refine x_puti X hG hS 11 2 k1 2 _ tyX7 tyX7_ok nmX7 (inC := iX7) rfl g1.1 g1.2 ⟨by decide, by decide, by decide, rfl, rfl⟩ rfl (by decide +kernel) w1 dX0_declareGroup_96 (fun H locs hG hS => ?_)
          obtain ⟨u12, eu12, h⟩ := xlet_of h
          replace hG : G t u12 H := by rw [eu12]; exact hG
          cases h
          exact hret _ _ _ _ dX0_declareGroup_99 hG hS
      have Lgo13 : ∀ (n : Nat) (x2_14 : Int) (u15 : uS), xl2 (s_X0_declareGroup_42 j10 k1) n x2_14 u15 = some (r, u') → xG p l e rX0_declareGroup s m args below meth c t Q 4 0 0 42 u15 [(2, .int (iI x2_14)), (0, .ref (t.2.2.1 28)), (1, .ref (t.2.2.1 k1))] [] := by
        intro n x2_14 u15 h
        refine xl2_W (F := s_X0_declareGroup_42 j10 k1) (fun x2_14 u15 q => q = (r, u') → xG p l e rX0_declareGroup s m args below meth c t Q 4 0 0 42 u15 [(2, .int (iI x2_14)), (0, .ref (t.2.2.1 28)), (1, .ref (t.2.2.1 k1))] []) ?_ n x2_14 u15 _ h rfl
        intro go13 igo13 x2_14 u15 q h hq H locs ls hG hS hl
        subst hq
        unfold s_X0_declareGroup_42 at h
        refine lv_iload_n X.1.1 X.1.2.1 dX0_declareGroup_42 rfl (lv_at hl 0 rfl) ?_
        refine lv_aload_n X.1.1 X.1.2.1 dX0_declareGroup_43 rfl (lv_at hl 1 rfl) ?_
        refine x_geti X hG 4 1 28 1 (inC := iX0) rfl q28.1 q28.2 ⟨by decide, by decide, by decide, rfl, rfl⟩ w5 dX0_declareGroup_44 ?_
        obtain ⟨g16, h⟩ := xgd_of h
        refine x_icmp_ge (tgt := 89) X g16.1 g16.2 dX0_declareGroup_47 (by decide) (fun c17 => ?_) (fun c17 => ?_)
        · replace h := xif_t h c17
          exact Jj10 _ h _ _ _ hG hS (lv_sub hl [2] rfl)
        · replace h := xif_f h c17
          refine lv_iload_n X.1.1 X.1.2.1 dX0_declareGroup_50 rfl (lv_at hl 0 rfl) ?_
          refine x_bipush X dX0_declareGroup_51 (by decide) ?_
          obtain ⟨g18, h⟩ := xgd_of h
          refine x_icmp_ge (tgt := 89) X g18 ⟨by decide, by decide⟩ dX0_declareGroup_53 (by decide) (fun c19 => ?_) (fun c19 => ?_)
          · replace h := xif_t h c19
            exact Jj10 _ h _ _ _ hG hS (lv_sub hl [2] rfl)
          · replace h := xif_f h c19
            refine lv_aload_n X.1.1 X.1.2.1 dX0_declareGroup_56 rfl (lv_at hl 1 rfl) ?_
            refine x_getr X hG 4 0 28 1 (inC := iX0) rfl q28.1 q28.2 ⟨by decide, by decide, by decide, rfl, by decide, by decide⟩ w6 dX0_declareGroup_57 ?_
            refine lv_iload_n X.1.1 X.1.2.1 dX0_declareGroup_60 rfl (lv_at hl 0 rfl) ?_
            obtain ⟨g20, h⟩ := xgd_of h
            refine x_iald X hG q29.1 q29.2.1 (n := 60) q29.2.2 g20 (by decide) dX0_declareGroup_61 ?_
            refine x_name (fun x3_21 ex3_21 => ?_)
            replace h := xlet_at ex3_21 h
            refine lv_istore_n (lv' := [(3, .int (iI x3_21)), (2, .int (iI x2_14)), (0, .ref (t.2.2.1 28)), (1, .ref (t.2.2.1 k1))]) X.1.1 X.1.2.1 dX0_declareGroup_62 rfl hl (by decide) rfl (fun ls hl => ?_)
            refine lv_iload_n X.1.1 X.1.2.1 dX0_declareGroup_63 rfl (lv_at hl 0 rfl) ?_
            obtain ⟨g22, h⟩ := xgd_of h
            refine x_if_lt (tgt := 83) X g22 dX0_declareGroup_64 (by decide) (fun c23 => ?_) (fun c23 => ?_)
            · replace h := xif_t h c23
              refine lv_iinc (v := (iI (x2_14 + 1))) (lv' := [(2, .int (iI (x2_14 + 1))), (3, .int (iI x3_21)), (0, .ref (t.2.2.1 28)), (1, .ref (t.2.2.1 k1))]) X.1.1 X.1.2.1 dX0_declareGroup_83 hl (k := 1) rfl (iI_add _ _) (by decide) rfl (fun ls hl => ?_)
              refine lv_goto (tgt := 42) X.1.1 X.1.2.1 dX0_declareGroup_86 (by decide) ?_
              exact igo13 _ _ _ h rfl _ _ _ hG hS (lv_sub hl [0, 2, 3] rfl)
            · replace h := xif_f h c23
              refine lv_iload_n X.1.1 X.1.2.1 dX0_declareGroup_67 rfl (lv_at hl 0 rfl) ?_
              refine x_bipush X dX0_declareGroup_68 (by decide) ?_
              obtain ⟨g24, h⟩ := xgd_of h
              refine x_icmp_ge (tgt := 83) X g24 ⟨by decide, by decide⟩ dX0_declareGroup_70 (by decide) (fun c25 => ?_) (fun c25 => ?_)
              · replace h := xif_t h c25
                refine lv_iinc (v := (iI (x2_14 + 1))) (lv' := [(2, .int (iI (x2_14 + 1))), (3, .int (iI x3_21)), (0, .ref (t.2.2.1 28)), (1, .ref (t.2.2.1 k1))]) X.1.1 X.1.2.1 dX0_declareGroup_83 hl (k := 1) rfl (iI_add _ _) (by decide) rfl (fun ls hl => ?_)
                refine lv_goto (tgt := 42) X.1.1 X.1.2.1 dX0_declareGroup_86 (by decide) ?_
                exact igo13 _ _ _ h rfl _ _ _ hG hS (lv_sub hl [0, 2, 3] rfl)
              · replace h := xif_f h c25
                refine lv_aload_n X.1.1 X.1.2.1 dX0_declareGroup_73 rfl (lv_at hl 3 rfl) ?_
                refine x_getr X hG 11 13 k1 11 (inC := iX7) rfl g1.1 g1.2 ⟨by decide, by decide, by decide, rfl, by decide, by decide⟩ w7 dX0_declareGroup_74 ?_
                refine lv_iload_n X.1.1 X.1.2.1 dX0_declareGroup_77 rfl (lv_at hl 0 rfl) ?_
                refine lv_aload_n X.1.1 X.1.2.1 dX0_declareGroup_78 rfl (lv_at hl 3 rfl) ?_
                refine x_geti X hG 11 2 k1 2 (inC := iX7) rfl g1.1 g1.2 ⟨by decide, by decide, by decide, rfl, rfl⟩ w1 dX0_declareGroup_79 ?_
                obtain ⟨g26, h⟩ := xgd_of h
                refine x_iast X hG hS (fx_11_13 g1).1 (fx_11_13 g1).2.1 (n := 60) (fx_11_13 g1).2.2 g26 (by decide) dX0_declareGroup_82 (fun H locs hG hS => ?_)
                obtain ⟨u27, eu27, h⟩ := xlet_of h
                replace hG : G t u27 H := by rw [eu27]; exact hG
                refine lv_iinc (v := (iI (x2_14 + 1))) (lv' := [(2, .int (iI (x2_14 + 1))), (3, .int (iI x3_21)), (0, .ref (t.2.2.1 28)), (1, .ref (t.2.2.1 k1))]) X.1.1 X.1.2.1 dX0_declareGroup_83 hl (k := 1) rfl (iI_add _ _) (by decide) rfl (fun ls hl => ?_)
                refine lv_goto (tgt := 42) X.1.1 X.1.2.1 dX0_declareGroup_86 (by decide) ?_
                exact igo13 _ _ _ h rfl _ _ _ hG hS (lv_sub hl [0, 2, 3] rfl)
      exact Lgo13 FU _ _ h _ _ _ hG hS (lv_sub hl [0, 1, 2] rfl)
    · replace h := xif_f h c5
      cases h
      exact hret _ _ _ _ dX0_declareGroup_16 hG hS
theorem hd_X0_declareGroup : yX0_declareGroup.cls = RX0 ∧ yX0_declareGroup.cls ≠ "java/lang/invoke/MethodHandle" ∧ yX0_declareGroup.cls ≠ "java/lang/invoke/VarHandle" ∧ (parseMethodDescriptor yX0_declareGroup.desc).map (fun d => d.parameters.length) = some 1 := by decide +kernel
abbrev rX0_fitsAllOf : Room := { frames := 2, cells := 0, slots := 0, locals := 84 }
set_option maxRecDepth 100000 in
set_option maxHeartbeats 8000000 in
theorem c_X0_fitsAllOf (l : Launch) (t : gP) (k0 : Nat) (k1 : Nat) (x2 : Int) (x3 : Int) (u : uS) (r : Int) (u' : uS) (h : f_X0_fitsAllOf k0 k1 x2 x3 u = some (r, u')) : xMi l yX0_fitsAllOf wsX0_fitsAllOf rX0_fitsAllOf t [.ref (t.2.2.1 k0), .ref (t.2.2.1 k1), .int (iI x2), .int (iI x3)] u r u' 0 0 := by
  refine x_ofWi (cc := cX0_fitsAllOf) (maxL := 5) (ret := .boolean) (own := RX0) (by decide) rfl rfl (Nat.le_of_ble_eq_true rfl) ?_
  intro p e s m args below meth c Q X hret H locs ls hG hS hl
  replace hl : lv_has ls 5 [(0, .ref (t.2.2.1 k0)), (1, .ref (t.2.2.1 k1)), (2, .int (iI x2)), (3, .int (iI x3))] := hl
  have iX7 : ∀ w ∈ wsX70, w ∈ wsX0_fitsAllOf := by decide +kernel
  have w1 : Cond.fieldLink RX0 34 "TriggerNetwork$Situation" "pickCount" "I" ∈ wsX0_fitsAllOf := x_w 1 rfl
  have w2 : Cond.fieldLink RX0 98 "TriggerNetwork$Situation" "pickEvents" "[I" ∈ wsX0_fitsAllOf := x_w 2 rfl
  unfold f_X0_fitsAllOf at h
  obtain ⟨g1, h⟩ := xgd_of h
  refine x_iconst X dX0_fitsAllOf_0 ?_
  refine lv_istore (lv' := [(4, .int (iI 0)), (0, .ref (t.2.2.1 k0)), (1, .ref (t.2.2.1 k1)), (2, .int (iI x2)), (3, .int (iI x3))]) X.1.1 X.1.2.1 dX0_fitsAllOf_1 hl (by decide) rfl (fun ls hl => ?_)
  have Lgo2 : ∀ (n : Nat) (x4_3 : Int) (u4 : uS), xl2 (s_X0_fitsAllOf_3 k1 x2 k0 x3) n x4_3 u4 = some (r, u') → xG p l e rX0_fitsAllOf s m args below meth c t Q 5 0 0 3 u4 [(4, .int (iI x4_3)), (0, .ref (t.2.2.1 k0)), (1, .ref (t.2.2.1 k1)), (2, .int (iI x2)), (3, .int (iI x3))] [] := by
    intro n x4_3 u4 h
    refine xl2_W (F := s_X0_fitsAllOf_3 k1 x2 k0 x3) (fun x4_3 u4 q => q = (r, u') → xG p l e rX0_fitsAllOf s m args below meth c t Q 5 0 0 3 u4 [(4, .int (iI x4_3)), (0, .ref (t.2.2.1 k0)), (1, .ref (t.2.2.1 k1)), (2, .int (iI x2)), (3, .int (iI x3))] []) ?_ n x4_3 u4 _ h rfl
    intro go2 igo2 x4_3 u4 q h hq H locs ls hG hS hl
    subst hq
    unfold s_X0_fitsAllOf_3 at h
    refine lv_iload X.1.1 X.1.2.1 dX0_fitsAllOf_3 (lv_at hl 0 rfl) ?_
    refine lv_aload_n X.1.1 X.1.2.1 dX0_fitsAllOf_5 rfl (lv_at hl 2 rfl) ?_
    refine x_geti X hG 11 1 k1 1 (inC := iX7) rfl g1.2.1 g1.2.2 ⟨by decide, by decide, by decide, rfl, rfl⟩ w1 dX0_fitsAllOf_6 ?_
    obtain ⟨g5, h⟩ := xgd_of h
    refine x_icmp_ge (tgt := 49) X g5.1 g5.2 dX0_fitsAllOf_9 (by decide) (fun c6 => ?_) (fun c6 => ?_)
    · replace h := xif_t h c6
      refine x_iconst X dX0_fitsAllOf_49 ?_
      cases h
      exact hret _ _ _ _ dX0_fitsAllOf_50 (by decide) hG hS
    · replace h := xif_f h c6
      refine lv_iload X.1.1 X.1.2.1 dX0_fitsAllOf_12 (lv_at hl 0 rfl) ?_
      refine x_bipush X dX0_fitsAllOf_14 (by decide) ?_
      obtain ⟨g7, h⟩ := xgd_of h
      refine x_icmp_ge (tgt := 49) X g7 ⟨by decide, by decide⟩ dX0_fitsAllOf_16 (by decide) (fun c8 => ?_) (fun c8 => ?_)
      · replace h := xif_t h c8
        refine x_iconst X dX0_fitsAllOf_49 ?_
        cases h
        exact hret _ _ _ _ dX0_fitsAllOf_50 (by decide) hG hS
      · replace h := xif_f h c8
        refine lv_aload_n X.1.1 X.1.2.1 dX0_fitsAllOf_19 rfl (lv_at hl 2 rfl) ?_
        refine x_getr X hG 11 13 k1 11 (inC := iX7) rfl g1.2.1 g1.2.2 ⟨by decide, by decide, by decide, rfl, by decide, by decide⟩ w2 dX0_fitsAllOf_20 ?_
        refine lv_iload X.1.1 X.1.2.1 dX0_fitsAllOf_23 (lv_at hl 0 rfl) ?_
        obtain ⟨g9, h⟩ := xgd_of h
        refine x_iald X hG (fx_11_13 g1.2).1 (fx_11_13 g1.2).2.1 (n := 60) (fx_11_13 g1.2).2.2 g9 (by decide) dX0_fitsAllOf_25 ?_
        refine lv_iload_n X.1.1 X.1.2.1 dX0_fitsAllOf_26 rfl (lv_at hl 3 rfl) ?_
        obtain ⟨g10, h⟩ := xgd_of h
        refine x_icmp_ne (tgt := 43) X g10.1 g10.2 dX0_fitsAllOf_27 (by decide) (fun c11 => ?_) (fun c11 => ?_)
        · replace h := xif_f h c11
          refine lv_iinc (v := (iI (x4_3 + 1))) (lv' := [(4, .int (iI (x4_3 + 1))), (0, .ref (t.2.2.1 k0)), (1, .ref (t.2.2.1 k1)), (2, .int (iI x2)), (3, .int (iI x3))]) X.1.1 X.1.2.1 dX0_fitsAllOf_43 hl (k := 0) rfl (iI_add _ _) (by decide) rfl (fun ls hl => ?_)
          refine lv_goto (tgt := 3) X.1.1 X.1.2.1 dX0_fitsAllOf_46 (by decide) ?_
          exact igo2 _ _ _ h rfl _ _ _ hG hS (lv_sub hl [0, 1, 2, 3, 4] rfl)
        · replace h := xif_t h c11
          refine lv_aload_n X.1.1 X.1.2.1 dX0_fitsAllOf_30 rfl (lv_at hl 2 rfl) ?_
          refine lv_aload_n X.1.1 X.1.2.1 dX0_fitsAllOf_31 rfl (lv_at hl 1 rfl) ?_
          refine lv_iload X.1.1 X.1.2.1 dX0_fitsAllOf_32 (lv_at hl 0 rfl) ?_
          refine lv_iload_n X.1.1 X.1.2.1 dX0_fitsAllOf_34 rfl (lv_at hl 4 rfl) ?_
          obtain ⟨v12, u13, hf, h⟩ := xbd_of h
          refine x_callVi0 X hG hS (c_X7_picksFit l t _ _ _ _ _ _ _ hf) (cwV 3 X.1.2.2.2.2 gX0_fitsAllOf_X7_picksFit rfl rfl rfl hd_X7_picksFit ⟨Nat.le_of_ble_eq_true rfl, Nat.le_of_ble_eq_true rfl⟩) g1.2.1 g1.2.2 rfl (by decide) (by rfl) hl.1 (Nat.le_of_ble_eq_true rfl) dX0_fitsAllOf_35 ⟨by decide, by decide⟩ rfl (fun H locs hG hS => ?_)
          obtain ⟨g14, h⟩ := xgd_of h
          refine x_if_ne (tgt := 43) X g14 dX0_fitsAllOf_38 (by decide) (fun c15 => ?_) (fun c15 => ?_)
          · replace h := xif_f h c15
            refine lv_iinc (v := (iI (x4_3 + 1))) (lv' := [(4, .int (iI (x4_3 + 1))), (0, .ref (t.2.2.1 k0)), (1, .ref (t.2.2.1 k1)), (2, .int (iI x2)), (3, .int (iI x3))]) X.1.1 X.1.2.1 dX0_fitsAllOf_43 hl (k := 0) rfl (iI_add _ _) (by decide) rfl (fun ls hl => ?_)
            refine lv_goto (tgt := 3) X.1.1 X.1.2.1 dX0_fitsAllOf_46 (by decide) ?_
            exact igo2 _ _ _ h rfl _ _ _ hG hS (lv_sub hl [0, 1, 2, 3, 4] rfl)
          · replace h := xif_t h c15
            refine x_iconst X dX0_fitsAllOf_41 ?_
            cases h
            exact hret _ _ _ _ dX0_fitsAllOf_42 (by decide) hG hS
  exact Lgo2 FU _ _ h _ _ _ hG hS (lv_sub hl [0, 1, 2, 3, 4] rfl)
theorem hds_X0_fitsAllOf : yX0_fitsAllOf.cls ≠ "java/lang/invoke/MethodHandle" ∧ yX0_fitsAllOf.cls ≠ "java/lang/invoke/VarHandle" ∧ (parseMethodDescriptor yX0_fitsAllOf.desc).map (fun d => d.parameters.length) = some 4 := by decide +kernel
abbrev rX0_fitsGroup : Room := { frames := 2, cells := 0, slots := 0, locals := 84 }
set_option maxRecDepth 100000 in
set_option maxHeartbeats 8000000 in
theorem c_X0_fitsGroup (l : Launch) (t : gP) (k1 : Nat) (k2 : Nat) (x3 : Int) (u : uS) (r : Int) (u' : uS) (h : f_X0_fitsGroup k1 k2 x3 u = some (r, u')) : xMi l yX0_fitsGroup wsX0_fitsGroup rX0_fitsGroup t [.ref (t.2.2.1 28), .ref (t.2.2.1 k1), .ref (t.2.2.1 k2), .int (iI x3)] u r u' 0 0 := by
  refine x_ofWi (cc := cX0_fitsGroup) (maxL := 5) (ret := .boolean) (own := RX0) (by decide) rfl rfl (Nat.le_of_ble_eq_true rfl) ?_
  intro p e s m args below meth c Q X hret H locs ls hG hS hl
  replace hl : lv_has ls 5 [(0, .ref (t.2.2.1 28)), (1, .ref (t.2.2.1 k1)), (2, .ref (t.2.2.1 k2)), (3, .int (iI x3))] := hl
  have q28 : 28 < NN ∧ sT 28 = 4 := by decide
  have iX0 : ∀ w ∈ wsX00, w ∈ wsX0_fitsGroup := by decide +kernel
  have w1 : Cond.fieldLink RX0 104 "TriggerNetwork$Engine" "groupSize" "I" ∈ wsX0_fitsGroup := x_w 1 rfl
  have w2 : Cond.fieldLink RX0 9 "TriggerNetwork$Engine" "group" "[I" ∈ wsX0_fitsGroup := x_w 2 rfl
  have q29 : 29 < NN ∧ sT 29 = 100 ∧ sN 29 = 60 := by decide
  unfold f_X0_fitsGroup at h
  obtain ⟨g1, h⟩ := xgd_of h
  refine x_iconst X dX0_fitsGroup_0 ?_
  refine lv_istore (lv' := [(4, .int (iI 0)), (0, .ref (t.2.2.1 28)), (1, .ref (t.2.2.1 k1)), (2, .ref (t.2.2.1 k2)), (3, .int (iI x3))]) X.1.1 X.1.2.1 dX0_fitsGroup_1 hl (by decide) rfl (fun ls hl => ?_)
  have Lgo2 : ∀ (n : Nat) (x4_3 : Int) (u4 : uS), xl2 (s_X0_fitsGroup_3 k2 k1 x3) n x4_3 u4 = some (r, u') → xG p l e rX0_fitsGroup s m args below meth c t Q 5 0 0 3 u4 [(4, .int (iI x4_3)), (0, .ref (t.2.2.1 28)), (1, .ref (t.2.2.1 k1)), (2, .ref (t.2.2.1 k2)), (3, .int (iI x3))] [] := by
    intro n x4_3 u4 h
    refine xl2_W (F := s_X0_fitsGroup_3 k2 k1 x3) (fun x4_3 u4 q => q = (r, u') → xG p l e rX0_fitsGroup s m args below meth c t Q 5 0 0 3 u4 [(4, .int (iI x4_3)), (0, .ref (t.2.2.1 28)), (1, .ref (t.2.2.1 k1)), (2, .ref (t.2.2.1 k2)), (3, .int (iI x3))] []) ?_ n x4_3 u4 _ h rfl
    intro go2 igo2 x4_3 u4 q h hq H locs ls hG hS hl
    subst hq
    unfold s_X0_fitsGroup_3 at h
    refine lv_iload X.1.1 X.1.2.1 dX0_fitsGroup_3 (lv_at hl 0 rfl) ?_
    refine lv_aload_n X.1.1 X.1.2.1 dX0_fitsGroup_5 rfl (lv_at hl 1 rfl) ?_
    refine x_geti X hG 4 1 28 1 (inC := iX0) rfl q28.1 q28.2 ⟨by decide, by decide, by decide, rfl, rfl⟩ w1 dX0_fitsGroup_6 ?_
    obtain ⟨g5, h⟩ := xgd_of h
    refine x_icmp_ge (tgt := 43) X g5.1 g5.2 dX0_fitsGroup_9 (by decide) (fun c6 => ?_) (fun c6 => ?_)
    · replace h := xif_t h c6
      refine x_iconst X dX0_fitsGroup_43 ?_
      cases h
      exact hret _ _ _ _ dX0_fitsGroup_44 (by decide) hG hS
    · replace h := xif_f h c6
      refine lv_iload X.1.1 X.1.2.1 dX0_fitsGroup_12 (lv_at hl 0 rfl) ?_
      refine x_bipush X dX0_fitsGroup_14 (by decide) ?_
      obtain ⟨g7, h⟩ := xgd_of h
      refine x_icmp_ge (tgt := 43) X g7 ⟨by decide, by decide⟩ dX0_fitsGroup_16 (by decide) (fun c8 => ?_) (fun c8 => ?_)
      · replace h := xif_t h c8
        refine x_iconst X dX0_fitsGroup_43 ?_
        cases h
        exact hret _ _ _ _ dX0_fitsGroup_44 (by decide) hG hS
      · replace h := xif_f h c8
        refine lv_aload_n X.1.1 X.1.2.1 dX0_fitsGroup_19 rfl (lv_at hl 3 rfl) ?_
        refine lv_aload_n X.1.1 X.1.2.1 dX0_fitsGroup_20 rfl (lv_at hl 2 rfl) ?_
        refine lv_aload_n X.1.1 X.1.2.1 dX0_fitsGroup_21 rfl (lv_at hl 1 rfl) ?_
        refine x_getr X hG 4 0 28 1 (inC := iX0) rfl q28.1 q28.2 ⟨by decide, by decide, by decide, rfl, by decide, by decide⟩ w2 dX0_fitsGroup_22 ?_
        refine lv_iload X.1.1 X.1.2.1 dX0_fitsGroup_25 (lv_at hl 0 rfl) ?_
        obtain ⟨g9, h⟩ := xgd_of h
        refine x_iald X hG q29.1 q29.2.1 (n := 60) q29.2.2 g9 (by decide) dX0_fitsGroup_27 ?_
        refine lv_iload_n X.1.1 X.1.2.1 dX0_fitsGroup_28 rfl (lv_at hl 4 rfl) ?_
        obtain ⟨v10, u11, hf, h⟩ := xbd_of h
        refine x_callVi0 X hG hS (c_X7_picksFit l t _ _ _ _ _ _ _ hf) (cwV 3 X.1.2.2.2.2 gX0_fitsGroup_X7_picksFit rfl rfl rfl hd_X7_picksFit ⟨Nat.le_of_ble_eq_true rfl, Nat.le_of_ble_eq_true rfl⟩) g1.2.1 g1.2.2 rfl (by decide) (by rfl) hl.1 (Nat.le_of_ble_eq_true rfl) dX0_fitsGroup_29 ⟨by decide, by decide⟩ rfl (fun H locs hG hS => ?_)
        obtain ⟨g12, h⟩ := xgd_of h
        refine x_if_ne (tgt := 37) X g12 dX0_fitsGroup_32 (by decide) (fun c13 => ?_) (fun c13 => ?_)
        · replace h := xif_f h c13
          refine lv_iinc (v := (iI (x4_3 + 1))) (lv' := [(4, .int (iI (x4_3 + 1))), (0, .ref (t.2.2.1 28)), (1, .ref (t.2.2.1 k1)), (2, .ref (t.2.2.1 k2)), (3, .int (iI x3))]) X.1.1 X.1.2.1 dX0_fitsGroup_37 hl (k := 0) rfl (iI_add _ _) (by decide) rfl (fun ls hl => ?_)
          refine lv_goto (tgt := 3) X.1.1 X.1.2.1 dX0_fitsGroup_40 (by decide) ?_
          exact igo2 _ _ _ h rfl _ _ _ hG hS (lv_sub hl [0, 1, 2, 3, 4] rfl)
        · replace h := xif_t h c13
          refine x_iconst X dX0_fitsGroup_35 ?_
          cases h
          exact hret _ _ _ _ dX0_fitsGroup_36 (by decide) hG hS
  exact Lgo2 FU _ _ h _ _ _ hG hS (lv_sub hl [0, 1, 2, 3, 4] rfl)
theorem hd_X0_fitsGroup : yX0_fitsGroup.cls = RX0 ∧ yX0_fitsGroup.cls ≠ "java/lang/invoke/MethodHandle" ∧ yX0_fitsGroup.cls ≠ "java/lang/invoke/VarHandle" ∧ (parseMethodDescriptor yX0_fitsGroup.desc).map (fun d => d.parameters.length) = some 3 := by decide +kernel
abbrev rX0_formGroup : Room := { frames := 3, cells := 0, slots := 0, locals := 108 }
set_option maxRecDepth 100000 in
set_option maxHeartbeats 8000000 in
theorem c_X0_formGroup (l : Launch) (t : gP) (k1 : Nat) (k2 : Nat) (x3 : Int) (u : uS) (r : Int) (u' : uS) (h : f_X0_formGroup k1 k2 x3 u = some (r, u')) : xMv l yX0_formGroup wsX0_formGroup rX0_formGroup t [.ref (t.2.2.1 28), .ref (t.2.2.1 k1), .ref (t.2.2.1 k2), .int (iI x3)] u u' 0 0 := by
  refine x_ofWv (cc := cX0_formGroup) (maxL := 6) (own := RX0) (by decide) rfl rfl (Nat.le_of_ble_eq_true rfl) ?_
  intro p e s m args below meth c Q X hret H locs ls hG hS hl
  replace hl : lv_has ls 6 [(0, .ref (t.2.2.1 28)), (1, .ref (t.2.2.1 k1)), (2, .ref (t.2.2.1 k2)), (3, .int (iI x3))] := hl
  have q28 : 28 < NN ∧ sT 28 = 4 := by decide
  have iX0 : ∀ w ∈ wsX00, w ∈ wsX0_formGroup := by decide +kernel
  have w1 : Cond.fieldLink RX0 9 "TriggerNetwork$Engine" "group" "[I" ∈ wsX0_formGroup := x_w 1 rfl
  have q29 : 29 < NN ∧ sT 29 = 100 ∧ sN 29 = 60 := by decide
  have w2 : Cond.fieldLink RX0 104 "TriggerNetwork$Engine" "groupSize" "I" ∈ wsX0_formGroup := x_w 2 rfl
  have iX7 : ∀ w ∈ wsX70, w ∈ wsX0_formGroup := by decide +kernel
  have w3 : Cond.fieldLink RX0 34 "TriggerNetwork$Situation" "pickCount" "I" ∈ wsX0_formGroup := x_w 3 rfl
  have w4 : Cond.fieldLink RX0 98 "TriggerNetwork$Situation" "pickEvents" "[I" ∈ wsX0_formGroup := x_w 4 rfl
  have w5 : Cond.fieldLink RX0 118 "TriggerNetwork$Situation" "removed" "[I" ∈ wsX0_formGroup := x_w 5 rfl
  unfold f_X0_formGroup at h
  obtain ⟨g1, h⟩ := xgd_of h
  refine lv_aload_n X.1.1 X.1.2.1 dX0_formGroup_0 rfl (lv_at hl 0 rfl) ?_
  refine x_getr X hG 4 0 28 1 (inC := iX0) rfl q28.1 q28.2 ⟨by decide, by decide, by decide, rfl, by decide, by decide⟩ w1 dX0_formGroup_1 ?_
  refine x_iconst X dX0_formGroup_4 ?_
  refine lv_iload_n X.1.1 X.1.2.1 dX0_formGroup_5 rfl (lv_at hl 3 rfl) ?_
  refine x_iast X hG hS q29.1 q29.2.1 (n := 60) q29.2.2 ⟨by decide, by decide⟩ (by decide) dX0_formGroup_6 (fun H locs hG hS => ?_)
  obtain ⟨u2, eu2, h⟩ := xlet_of h
  replace hG : G t u2 H := by rw [eu2]; exact hG
  refine lv_aload_n X.1.1 X.1.2.1 dX0_formGroup_7 rfl (lv_at hl 0 rfl) ?_
  refine x_iconst X dX0_formGroup_8 ?_
  refine x_puti X hG hS 4 1 28 1 _ tyX0 tyX0_ok nmX0 (inC := iX0) rfl q28.1 q28.2 ⟨by decide, by decide, by decide, rfl, rfl⟩ rfl (by decide +kernel) w2 dX0_formGroup_9 (fun H locs hG hS => ?_)
  obtain ⟨u3, eu3, h⟩ := xlet_of h
  replace hG : G t u3 H := by rw [eu3]; exact hG
  refine x_iconst X dX0_formGroup_12 ?_
  refine lv_istore (lv' := [(4, .int (iI 0)), (0, .ref (t.2.2.1 28)), (1, .ref (t.2.2.1 k1)), (2, .ref (t.2.2.1 k2)), (3, .int (iI x3))]) X.1.1 X.1.2.1 dX0_formGroup_13 hl (by decide) rfl (fun ls hl => ?_)
  have Lgo4 : ∀ (n : Nat) (x4_5 : Int) (u6 : uS), xl2 (s_X0_formGroup_15 k2 k1) n x4_5 u6 = some (r, u') → xG p l e rX0_formGroup s m args below meth c t Q 6 0 0 15 u6 [(4, .int (iI x4_5)), (0, .ref (t.2.2.1 28)), (1, .ref (t.2.2.1 k1)), (2, .ref (t.2.2.1 k2))] [] := by
    intro n x4_5 u6 h
    refine xl2_W (F := s_X0_formGroup_15 k2 k1) (fun x4_5 u6 q => q = (r, u') → xG p l e rX0_formGroup s m args below meth c t Q 6 0 0 15 u6 [(4, .int (iI x4_5)), (0, .ref (t.2.2.1 28)), (1, .ref (t.2.2.1 k1)), (2, .ref (t.2.2.1 k2))] []) ?_ n x4_5 u6 _ h rfl
    intro go4 igo4 x4_5 u6 q h hq H locs ls hG hS hl
    subst hq
    unfold s_X0_formGroup_15 at h
    refine lv_iload X.1.1 X.1.2.1 dX0_formGroup_15 (lv_at hl 0 rfl) ?_
    refine lv_aload_n X.1.1 X.1.2.1 dX0_formGroup_17 rfl (lv_at hl 3 rfl) ?_
    refine x_geti X hG 11 1 k2 1 (inC := iX7) rfl g1.2.1 g1.2.2 ⟨by decide, by decide, by decide, rfl, rfl⟩ w3 dX0_formGroup_18 ?_
    obtain ⟨g7, h⟩ := xgd_of h
    refine x_icmp_ge (tgt := 111) X g7.1 g7.2 dX0_formGroup_21 (by decide) (fun c8 => ?_) (fun c8 => ?_)
    · replace h := xif_t h c8
      cases h
      exact hret _ _ _ _ dX0_formGroup_111 hG hS
    · replace h := xif_f h c8
      refine lv_iload X.1.1 X.1.2.1 dX0_formGroup_24 (lv_at hl 0 rfl) ?_
      refine x_bipush X dX0_formGroup_26 (by decide) ?_
      obtain ⟨g9, h⟩ := xgd_of h
      refine x_icmp_ge (tgt := 111) X g9 ⟨by decide, by decide⟩ dX0_formGroup_28 (by decide) (fun c10 => ?_) (fun c10 => ?_)
      · replace h := xif_t h c10
        cases h
        exact hret _ _ _ _ dX0_formGroup_111 hG hS
      · replace h := xif_f h c10
        refine lv_aload_n X.1.1 X.1.2.1 dX0_formGroup_31 rfl (lv_at hl 3 rfl) ?_
        refine x_getr X hG 11 13 k2 11 (inC := iX7) rfl g1.2.1 g1.2.2 ⟨by decide, by decide, by decide, rfl, by decide, by decide⟩ w4 dX0_formGroup_32 ?_
        refine lv_iload X.1.1 X.1.2.1 dX0_formGroup_35 (lv_at hl 0 rfl) ?_
        obtain ⟨g11, h⟩ := xgd_of h
        refine x_iald X hG (fx_11_13 g1.2).1 (fx_11_13 g1.2).2.1 (n := 60) (fx_11_13 g1.2).2.2 g11 (by decide) dX0_formGroup_37 ?_
        refine x_iconst X dX0_formGroup_38 ?_
        obtain ⟨g12, h⟩ := xgd_of h
        obtain ⟨j13, ej13, h⟩ := xlet_of h
        have Jj13 : ∀ (s14 : Int) (u15 : uS), j13 s14 u15 = some (r, u') → xG p l e rX0_formGroup s m args below meth c t Q 6 0 0 57 u15 [(0, .ref (t.2.2.1 28)), (1, .ref (t.2.2.1 k1)), (2, .ref (t.2.2.1 k2)), (4, .int (iI x4_5))] [.int (iI s14)] := by
            intro s14 u15 h H locs ls hG hS hl
            replace h := (congrFun (congrFun ej13 s14) u15).symm.trans h
            refine lv_istore (lv' := [(5, .int (iI s14)), (0, .ref (t.2.2.1 28)), (1, .ref (t.2.2.1 k1)), (2, .ref (t.2.2.1 k2)), (4, .int (iI x4_5))]) X.1.1 X.1.2.1 dX0_formGroup_57 hl (by decide) rfl (fun ls hl => ?_)
            refine lv_iload X.1.1 X.1.2.1 dX0_formGroup_59 (lv_at hl 0 rfl) ?_
            obtain ⟨g16, h⟩ := xgd_of h
            refine x_if_eq (tgt := 105) X g16 dX0_formGroup_61 (by decide) (fun c17 => ?_) (fun c17 => ?_)
            · replace h := xif_t h c17
              refine lv_iinc (v := (iI (x4_5 + 1))) (lv' := [(4, .int (iI (x4_5 + 1))), (5, .int (iI s14)), (0, .ref (t.2.2.1 28)), (1, .ref (t.2.2.1 k1)), (2, .ref (t.2.2.1 k2))]) X.1.1 X.1.2.1 dX0_formGroup_105 hl (k := 4) rfl (iI_add _ _) (by decide) rfl (fun ls hl => ?_)
              refine lv_goto (tgt := 15) X.1.1 X.1.2.1 dX0_formGroup_108 (by decide) ?_
              exact igo4 _ _ _ h rfl _ _ _ hG hS (lv_sub hl [0, 2, 3, 4] rfl)
            · replace h := xif_f h c17
              refine lv_aload_n X.1.1 X.1.2.1 dX0_formGroup_64 rfl (lv_at hl 1 rfl) ?_
              refine lv_aload_n X.1.1 X.1.2.1 dX0_formGroup_65 rfl (lv_at hl 2 rfl) ?_
              refine lv_aload_n X.1.1 X.1.2.1 dX0_formGroup_66 rfl (lv_at hl 3 rfl) ?_
              refine lv_iload X.1.1 X.1.2.1 dX0_formGroup_67 (lv_at hl 4 rfl) ?_
              obtain ⟨v18, u19, hf, h⟩ := xbd_of h
              refine x_callVi0 X hG hS (c_X0_fitsGroup l t _ _ _ _ _ _ hf) (cwV 3 X.1.2.2.2.2 gX0_formGroup_X0_fitsGroup rfl rfl rfl hd_X0_fitsGroup ⟨Nat.le_of_ble_eq_true rfl, Nat.le_of_ble_eq_true rfl⟩) q28.1 q28.2 rfl (by decide) (by rfl) hl.1 (Nat.le_of_ble_eq_true rfl) dX0_formGroup_69 ⟨by decide, by decide⟩ rfl (fun H locs hG hS => ?_)
              obtain ⟨g20, h⟩ := xgd_of h
              refine x_if_eq (tgt := 105) X g20 dX0_formGroup_72 (by decide) (fun c21 => ?_) (fun c21 => ?_)
              · replace h := xif_t h c21
                refine lv_iinc (v := (iI (x4_5 + 1))) (lv' := [(4, .int (iI (x4_5 + 1))), (5, .int (iI s14)), (0, .ref (t.2.2.1 28)), (1, .ref (t.2.2.1 k1)), (2, .ref (t.2.2.1 k2))]) X.1.1 X.1.2.1 dX0_formGroup_105 hl (k := 4) rfl (iI_add _ _) (by decide) rfl (fun ls hl => ?_)
                refine lv_goto (tgt := 15) X.1.1 X.1.2.1 dX0_formGroup_108 (by decide) ?_
                exact igo4 _ _ _ h rfl _ _ _ hG hS (lv_sub hl [0, 2, 3, 4] rfl)
              · replace h := xif_f h c21
                refine lv_aload_n X.1.1 X.1.2.1 dX0_formGroup_75 rfl (lv_at hl 1 rfl) ?_
                refine x_geti X hG 4 1 28 1 (inC := iX0) rfl q28.1 q28.2 ⟨by decide, by decide, by decide, rfl, rfl⟩ w2 dX0_formGroup_76 ?_
                refine x_bipush X dX0_formGroup_79 (by decide) ?_
                obtain ⟨g22, h⟩ := xgd_of h
                refine x_icmp_ge (tgt := 105) X g22 ⟨by decide, by decide⟩ dX0_formGroup_81 (by decide) (fun c23 => ?_) (fun c23 => ?_)
                · replace h := xif_t h c23
                  refine lv_iinc (v := (iI (x4_5 + 1))) (lv' := [(4, .int (iI (x4_5 + 1))), (5, .int (iI s14)), (0, .ref (t.2.2.1 28)), (1, .ref (t.2.2.1 k1)), (2, .ref (t.2.2.1 k2))]) X.1.1 X.1.2.1 dX0_formGroup_105 hl (k := 4) rfl (iI_add _ _) (by decide) rfl (fun ls hl => ?_)
                  refine lv_goto (tgt := 15) X.1.1 X.1.2.1 dX0_formGroup_108 (by decide) ?_
                  exact igo4 _ _ _ h rfl _ _ _ hG hS (lv_sub hl [0, 2, 3, 4] rfl)
                · replace h := xif_f h c23
                  refine lv_aload_n X.1.1 X.1.2.1 dX0_formGroup_84 rfl (lv_at hl 1 rfl) ?_
                  refine x_getr X hG 4 0 28 1 (inC := iX0) rfl q28.1 q28.2 ⟨by decide, by decide, by decide, rfl, by decide, by decide⟩ w1 dX0_formGroup_85 ?_
                  refine lv_aload_n X.1.1 X.1.2.1 dX0_formGroup_88 rfl (lv_at hl 1 rfl) ?_
                  refine x_geti X hG 4 1 28 1 (inC := iX0) rfl q28.1 q28.2 ⟨by decide, by decide, by decide, rfl, rfl⟩ w2 dX0_formGroup_89 ?_
                  refine lv_iload X.1.1 X.1.2.1 dX0_formGroup_92 (lv_at hl 4 rfl) ?_
                  obtain ⟨g24, h⟩ := xgd_of h
                  refine x_iast X hG hS q29.1 q29.2.1 (n := 60) q29.2.2 g24 (by decide) dX0_formGroup_94 (fun H locs hG hS => ?_)
                  obtain ⟨u25, eu25, h⟩ := xlet_of h
                  replace hG : G t u25 H := by rw [eu25]; exact hG
                  refine lv_aload_n X.1.1 X.1.2.1 dX0_formGroup_95 rfl (lv_at hl 1 rfl) ?_
                  refine lv_dup X.1.1 X.1.2.1 dX0_formGroup_96 rfl ?_
                  refine x_geti X hG 4 1 28 1 (inC := iX0) rfl q28.1 q28.2 ⟨by decide, by decide, by decide, rfl, rfl⟩ w2 dX0_formGroup_97 ?_
                  refine x_iconst X dX0_formGroup_100 ?_
                  refine x_iadd X dX0_formGroup_101 ?_
                  refine x_puti X hG hS 4 1 28 1 _ tyX0 tyX0_ok nmX0 (inC := iX0) rfl q28.1 q28.2 ⟨by decide, by decide, by decide, rfl, rfl⟩ rfl (by decide +kernel) w2 dX0_formGroup_102 (fun H locs hG hS => ?_)
                  obtain ⟨u26, eu26, h⟩ := xlet_of h
                  replace hG : G t u26 H := by rw [eu26]; exact hG
                  refine lv_iinc (v := (iI (x4_5 + 1))) (lv' := [(4, .int (iI (x4_5 + 1))), (5, .int (iI s14)), (0, .ref (t.2.2.1 28)), (1, .ref (t.2.2.1 k1)), (2, .ref (t.2.2.1 k2))]) X.1.1 X.1.2.1 dX0_formGroup_105 hl (k := 4) rfl (iI_add _ _) (by decide) rfl (fun ls hl => ?_)
                  refine lv_goto (tgt := 15) X.1.1 X.1.2.1 dX0_formGroup_108 (by decide) ?_
                  exact igo4 _ _ _ h rfl _ _ _ hG hS (lv_sub hl [0, 2, 3, 4] rfl)
        obtain ⟨j27, ej27, h⟩ := xlet_of h
        have Jj27 : ∀ (u28 : uS), j27 u28 = some (r, u') → xG p l e rX0_formGroup s m args below meth c t Q 6 0 0 56 u28 [(0, .ref (t.2.2.1 28)), (1, .ref (t.2.2.1 k1)), (2, .ref (t.2.2.1 k2)), (4, .int (iI x4_5))] [] := by
            intro u28 h H locs ls hG hS hl
            replace h := (congrFun ej27 u28).symm.trans h
            refine x_iconst X dX0_formGroup_56 ?_
            exact Jj13 _ _ h _ _ _ hG hS (lv_sub hl [0, 1, 2, 3] rfl)
        refine x_icmp_ne (tgt := 56) X g12 ⟨by decide, by decide⟩ dX0_formGroup_39 (by decide) (fun c29 => ?_) (fun c29 => ?_)
        · replace h := xif_f h c29
          exact Jj27 _ h _ _ _ hG hS (lv_sub hl [1, 2, 3, 0] rfl)
        · replace h := xif_t h c29
          refine lv_aload_n X.1.1 X.1.2.1 dX0_formGroup_42 rfl (lv_at hl 3 rfl) ?_
          refine x_getr X hG 11 14 k2 12 (inC := iX7) rfl g1.2.1 g1.2.2 ⟨by decide, by decide, by decide, rfl, by decide, by decide⟩ w5 dX0_formGroup_43 ?_
          refine lv_iload X.1.1 X.1.2.1 dX0_formGroup_46 (lv_at hl 0 rfl) ?_
          obtain ⟨g30, h⟩ := xgd_of h
          refine x_iald X hG (fx_11_14 g1.2).1 (fx_11_14 g1.2).2.1 (n := 60) (fx_11_14 g1.2).2.2 g30 (by decide) dX0_formGroup_48 ?_
          obtain ⟨g31, h⟩ := xgd_of h
          refine x_if_ne (tgt := 56) X g31 dX0_formGroup_49 (by decide) (fun c32 => ?_) (fun c32 => ?_)
          · replace h := xif_f h c32
            exact Jj27 _ h _ _ _ hG hS (lv_sub hl [1, 2, 3, 0] rfl)
          · replace h := xif_t h c32
            refine x_iconst X dX0_formGroup_52 ?_
            refine lv_goto (tgt := 57) X.1.1 X.1.2.1 dX0_formGroup_53 (by decide) ?_
            exact Jj13 _ _ h _ _ _ hG hS (lv_sub hl [1, 2, 3, 0] rfl)
  exact Lgo4 FU _ _ h _ _ _ hG hS (lv_sub hl [0, 1, 2, 3] rfl)
theorem hd_X0_formGroup : yX0_formGroup.cls = RX0 ∧ yX0_formGroup.cls ≠ "java/lang/invoke/MethodHandle" ∧ yX0_formGroup.cls ≠ "java/lang/invoke/VarHandle" ∧ (parseMethodDescriptor yX0_formGroup.desc).map (fun d => d.parameters.length) = some 3 := by decide +kernel
abbrev rX0_vote : Room := { frames := 4, cells := 0, slots := 0, locals := 133 }
set_option maxRecDepth 100000 in
set_option maxHeartbeats 8000000 in
theorem c_X0_vote (l : Launch) (t : gP) (k1 : Nat) (k2 : Nat) (x3 : Int) (u : uS) (r : Int) (u' : uS) (h : f_X0_vote k1 k2 x3 u = some (r, u')) : xMv l yX0_vote wsX0_vote rX0_vote t [.ref (t.2.2.1 28), .ref (t.2.2.1 k1), .ref (t.2.2.1 k2), .int (iI x3)] u u' 0 0 := by
  refine x_ofWv (cc := cX0_vote) (maxL := 5) (own := RX0) (by decide) rfl rfl (Nat.le_of_ble_eq_true rfl) ?_
  intro p e s m args below meth c Q X hret H locs ls hG hS hl
  replace hl : lv_has ls 5 [(0, .ref (t.2.2.1 28)), (1, .ref (t.2.2.1 k1)), (2, .ref (t.2.2.1 k2)), (3, .int (iI x3))] := hl
  have q28 : 28 < NN ∧ sT 28 = 4 := by decide
  have iX0 : ∀ w ∈ wsX00, w ∈ wsX0_vote := by decide +kernel
  have w4 : Cond.fieldLink RX0 104 "TriggerNetwork$Engine" "groupSize" "I" ∈ wsX0_vote := x_w 4 rfl
  have iX5 : ∀ w ∈ wsX50, w ∈ wsX0_vote := by decide +kernel
  have w5 : Cond.fieldLink RX0 107 "TriggerNetwork$Network" "votes" "I" ∈ wsX0_vote := x_w 5 rfl
  have iX7 : ∀ w ∈ wsX70, w ∈ wsX0_vote := by decide +kernel
  have w1 : Cond.fieldLink RX0 88 "TriggerNetwork$Situation" "eventCount" "I" ∈ wsX0_vote := x_w 1 rfl
  have w3 : Cond.fieldLink RX0 98 "TriggerNetwork$Situation" "pickEvents" "[I" ∈ wsX0_vote := x_w 3 rfl
  have w2 : Cond.fieldLink RX0 91 "TriggerNetwork$Situation" "retracted" "[I" ∈ wsX0_vote := x_w 2 rfl
  unfold f_X0_vote at h
  obtain ⟨g1, h⟩ := xgd_of h
  refine lv_iload_n X.1.1 X.1.2.1 dX0_vote_0 rfl (lv_at hl 3 rfl) ?_
  obtain ⟨g2, h⟩ := xgd_of h
  refine x_if_lt (tgt := 10) X g2 dX0_vote_1 (by decide) (fun c3 => ?_) (fun c3 => ?_)
  · replace h := xif_t h c3
    cases h
    exact hret _ _ _ _ dX0_vote_10 hG hS
  · replace h := xif_f h c3
    refine lv_iload_n X.1.1 X.1.2.1 dX0_vote_4 rfl (lv_at hl 3 rfl) ?_
    refine x_bipush X dX0_vote_5 (by decide) ?_
    obtain ⟨g4, h⟩ := xgd_of h
    refine x_icmp_lt (tgt := 11) X g4 ⟨by decide, by decide⟩ dX0_vote_7 (by decide) (fun c5 => ?_) (fun c5 => ?_)
    · replace h := xif_t h c5
      refine x_iconst X dX0_vote_11 ?_
      refine lv_istore (lv' := [(4, .int (iI 0)), (0, .ref (t.2.2.1 28)), (1, .ref (t.2.2.1 k1)), (2, .ref (t.2.2.1 k2)), (3, .int (iI x3))]) X.1.1 X.1.2.1 dX0_vote_12 hl (by decide) rfl (fun ls hl => ?_)
      obtain ⟨j6, ej6, h⟩ := xlet_of h
      have Jj6 : ∀ (u7 : uS), j6 u7 = some (r, u') → xG p l e rX0_vote s m args below meth c t Q 5 0 0 66 u7 [(0, .ref (t.2.2.1 28)), (1, .ref (t.2.2.1 k1)), (2, .ref (t.2.2.1 k2)), (3, .int (iI x3))] [] := by
          intro u7 h H locs ls hG hS hl
          replace h := (congrFun ej6 u7).symm.trans h
          refine lv_aload_n X.1.1 X.1.2.1 dX0_vote_66 rfl (lv_at hl 0 rfl) ?_
          refine lv_aload_n X.1.1 X.1.2.1 dX0_vote_67 rfl (lv_at hl 1 rfl) ?_
          refine lv_aload_n X.1.1 X.1.2.1 dX0_vote_68 rfl (lv_at hl 2 rfl) ?_
          refine lv_iload_n X.1.1 X.1.2.1 dX0_vote_69 rfl (lv_at hl 3 rfl) ?_
          obtain ⟨v8, u9, hf, h⟩ := xbd_of h
          refine x_callVv0 X hG hS (c_X0_formGroup l t _ _ _ _ _ _ hf) (cwV 3 X.1.2.2.2.2 gX0_vote_X0_formGroup rfl rfl rfl hd_X0_formGroup ⟨Nat.le_of_ble_eq_true rfl, Nat.le_of_ble_eq_true rfl⟩) q28.1 q28.2 rfl (by decide) (by rfl) hl.1 (Nat.le_of_ble_eq_true rfl) dX0_vote_70 ⟨by decide, by decide⟩ rfl (fun H locs hG hS => ?_)
          refine lv_aload_n X.1.1 X.1.2.1 dX0_vote_73 rfl (lv_at hl 0 rfl) ?_
          refine x_geti X hG 4 1 28 1 (inC := iX0) rfl q28.1 q28.2 ⟨by decide, by decide, by decide, rfl, rfl⟩ w4 dX0_vote_74 ?_
          refine lv_aload_n X.1.1 X.1.2.1 dX0_vote_77 rfl (lv_at hl 1 rfl) ?_
          refine x_geti X hG 9 7 k1 7 (inC := iX5) rfl g1.1.1 g1.1.2 ⟨by decide, by decide, by decide, rfl, rfl⟩ w5 dX0_vote_78 ?_
          obtain ⟨g10, h⟩ := xgd_of h
          refine x_icmp_lt (tgt := 98) X g10.1 g10.2 dX0_vote_81 (by decide) (fun c11 => ?_) (fun c11 => ?_)
          · replace h := xif_t h c11
            cases h
            exact hret _ _ _ _ dX0_vote_98 hG hS
          · replace h := xif_f h c11
            refine lv_aload_n X.1.1 X.1.2.1 dX0_vote_84 rfl (lv_at hl 2 rfl) ?_
            refine x_geti X hG 11 2 k2 2 (inC := iX7) rfl g1.2.1 g1.2.2 ⟨by decide, by decide, by decide, rfl, rfl⟩ w1 dX0_vote_85 ?_
            refine x_bipush X dX0_vote_88 (by decide) ?_
            obtain ⟨g12, h⟩ := xgd_of h
            refine x_icmp_ge (tgt := 98) X g12 ⟨by decide, by decide⟩ dX0_vote_90 (by decide) (fun c13 => ?_) (fun c13 => ?_)
            · replace h := xif_t h c13
              cases h
              exact hret _ _ _ _ dX0_vote_98 hG hS
            · replace h := xif_f h c13
              refine lv_aload_n X.1.1 X.1.2.1 dX0_vote_93 rfl (lv_at hl 0 rfl) ?_
              refine lv_aload_n X.1.1 X.1.2.1 dX0_vote_94 rfl (lv_at hl 2 rfl) ?_
              obtain ⟨v14, u15, hf, h⟩ := xbd_of h
              refine x_callVv0 X hG hS (c_X0_declareGroup l t _ _ _ _ hf) (cwV 1 X.1.2.2.2.2 gX0_vote_X0_declareGroup rfl rfl rfl hd_X0_declareGroup ⟨Nat.le_of_ble_eq_true rfl, Nat.le_of_ble_eq_true rfl⟩) q28.1 q28.2 rfl (by decide) (by rfl) hl.1 (Nat.le_of_ble_eq_true rfl) dX0_vote_95 ⟨by decide, by decide⟩ rfl (fun H locs hG hS => ?_)
              cases h
              exact hret _ _ _ _ dX0_vote_98 hG hS
      obtain ⟨j16, ej16, h⟩ := xlet_of h
      have Jj16 : ∀ (x4_17 : Int) (u18 : uS), j16 x4_17 u18 = some (r, u') → xG p l e rX0_vote s m args below meth c t Q 5 0 0 51 u18 [(2, .ref (t.2.2.1 k2)), (3, .int (iI x3)), (4, .int (iI x4_17))] [] := by
          intro x4_17 u18 h H locs ls hG hS hl
          replace h := (congrFun (congrFun ej16 x4_17) u18).symm.trans h
          refine lv_aload_n X.1.1 X.1.2.1 dX0_vote_51 rfl (lv_at hl 0 rfl) ?_
          refine x_getr X hG 11 13 k2 11 (inC := iX7) rfl g1.2.1 g1.2.2 ⟨by decide, by decide, by decide, rfl, by decide, by decide⟩ w3 dX0_vote_52 ?_
          refine lv_iload_n X.1.1 X.1.2.1 dX0_vote_55 rfl (lv_at hl 1 rfl) ?_
          refine lv_iload X.1.1 X.1.2.1 dX0_vote_56 (lv_at hl 2 rfl) ?_
          obtain ⟨g19, h⟩ := xgd_of h
          refine x_iast X hG hS (fx_11_13 g1.2).1 (fx_11_13 g1.2).2.1 (n := 60) (fx_11_13 g1.2).2.2 g19 (by decide) dX0_vote_58 (fun H locs hG hS => ?_)
          obtain ⟨u20, eu20, h⟩ := xlet_of h
          replace hG : G t u20 H := by rw [eu20]; exact hG
          cases h
          exact hret _ _ _ _ dX0_vote_59 hG hS
      have Lgo21 : ∀ (n : Nat) (x4_22 : Int) (u23 : uS), xl2 (s_X0_vote_14 k2 j6 k1 x3 j16) n x4_22 u23 = some (r, u') → xG p l e rX0_vote s m args below meth c t Q 5 0 0 14 u23 [(4, .int (iI x4_22)), (0, .ref (t.2.2.1 28)), (1, .ref (t.2.2.1 k1)), (2, .ref (t.2.2.1 k2)), (3, .int (iI x3))] [] := by
        intro n x4_22 u23 h
        refine xl2_W (F := s_X0_vote_14 k2 j6 k1 x3 j16) (fun x4_22 u23 q => q = (r, u') → xG p l e rX0_vote s m args below meth c t Q 5 0 0 14 u23 [(4, .int (iI x4_22)), (0, .ref (t.2.2.1 28)), (1, .ref (t.2.2.1 k1)), (2, .ref (t.2.2.1 k2)), (3, .int (iI x3))] []) ?_ n x4_22 u23 _ h rfl
        intro go21 igo21 x4_22 u23 q h hq H locs ls hG hS hl
        subst hq
        unfold s_X0_vote_14 at h
        refine lv_iload X.1.1 X.1.2.1 dX0_vote_14 (lv_at hl 0 rfl) ?_
        refine lv_aload_n X.1.1 X.1.2.1 dX0_vote_16 rfl (lv_at hl 3 rfl) ?_
        refine x_geti X hG 11 2 k2 2 (inC := iX7) rfl g1.2.1 g1.2.2 ⟨by decide, by decide, by decide, rfl, rfl⟩ w1 dX0_vote_17 ?_
        obtain ⟨g24, h⟩ := xgd_of h
        refine x_icmp_ge (tgt := 66) X g24.1 g24.2 dX0_vote_20 (by decide) (fun c25 => ?_) (fun c25 => ?_)
        · replace h := xif_t h c25
          exact Jj6 _ h _ _ _ hG hS (lv_sub hl [1, 2, 3, 4] rfl)
        · replace h := xif_f h c25
          refine lv_iload X.1.1 X.1.2.1 dX0_vote_23 (lv_at hl 0 rfl) ?_
          refine x_bipush X dX0_vote_25 (by decide) ?_
          obtain ⟨g26, h⟩ := xgd_of h
          refine x_icmp_ge (tgt := 66) X g26 ⟨by decide, by decide⟩ dX0_vote_27 (by decide) (fun c27 => ?_) (fun c27 => ?_)
          · replace h := xif_t h c27
            exact Jj6 _ h _ _ _ hG hS (lv_sub hl [1, 2, 3, 4] rfl)
          · replace h := xif_f h c27
            refine lv_aload_n X.1.1 X.1.2.1 dX0_vote_30 rfl (lv_at hl 3 rfl) ?_
            refine x_getr X hG 11 16 k2 14 (inC := iX7) rfl g1.2.1 g1.2.2 ⟨by decide, by decide, by decide, rfl, by decide, by decide⟩ w2 dX0_vote_31 ?_
            refine lv_iload X.1.1 X.1.2.1 dX0_vote_34 (lv_at hl 0 rfl) ?_
            obtain ⟨g28, h⟩ := xgd_of h
            refine x_iald X hG (fx_11_16 g1.2).1 (fx_11_16 g1.2).2.1 (n := 20) (fx_11_16 g1.2).2.2 g28 (by decide) dX0_vote_36 ?_
            obtain ⟨g29, h⟩ := xgd_of h
            refine x_if_ne (tgt := 60) X g29 dX0_vote_37 (by decide) (fun c30 => ?_) (fun c30 => ?_)
            · replace h := xif_f h c30
              refine lv_iinc (v := (iI (x4_22 + 1))) (lv' := [(4, .int (iI (x4_22 + 1))), (0, .ref (t.2.2.1 28)), (1, .ref (t.2.2.1 k1)), (2, .ref (t.2.2.1 k2)), (3, .int (iI x3))]) X.1.1 X.1.2.1 dX0_vote_60 hl (k := 0) rfl (iI_add _ _) (by decide) rfl (fun ls hl => ?_)
              refine lv_goto (tgt := 14) X.1.1 X.1.2.1 dX0_vote_63 (by decide) ?_
              exact igo21 _ _ _ h rfl _ _ _ hG hS (lv_sub hl [0, 1, 2, 3, 4] rfl)
            · replace h := xif_t h c30
              refine lv_aload_n X.1.1 X.1.2.1 dX0_vote_40 rfl (lv_at hl 2 rfl) ?_
              refine lv_aload_n X.1.1 X.1.2.1 dX0_vote_41 rfl (lv_at hl 3 rfl) ?_
              refine lv_iload X.1.1 X.1.2.1 dX0_vote_42 (lv_at hl 0 rfl) ?_
              refine lv_iload_n X.1.1 X.1.2.1 dX0_vote_44 rfl (lv_at hl 4 rfl) ?_
              obtain ⟨v31, u32, hf, h⟩ := xbd_of h
              refine x_callSi0 X hG hS (c_X0_fitsAllOf l t _ _ _ _ _ _ _ hf) (va_cwS 4 X.1.2.2.2.2 gX0_vote_X0_fitsAllOf rfl rfl rfl hds_X0_fitsAllOf ⟨Nat.le_of_ble_eq_true rfl, Nat.le_of_ble_eq_true rfl⟩) (by rfl) hl.1 (Nat.le_of_ble_eq_true rfl) dX0_vote_45 ⟨by decide, by decide⟩ rfl (fun H locs hG hS => ?_)
              obtain ⟨g33, h⟩ := xgd_of h
              refine x_if_eq (tgt := 60) X g33 dX0_vote_48 (by decide) (fun c34 => ?_) (fun c34 => ?_)
              · replace h := xif_t h c34
                refine lv_iinc (v := (iI (x4_22 + 1))) (lv' := [(4, .int (iI (x4_22 + 1))), (0, .ref (t.2.2.1 28)), (1, .ref (t.2.2.1 k1)), (2, .ref (t.2.2.1 k2)), (3, .int (iI x3))]) X.1.1 X.1.2.1 dX0_vote_60 hl (k := 0) rfl (iI_add _ _) (by decide) rfl (fun ls hl => ?_)
                refine lv_goto (tgt := 14) X.1.1 X.1.2.1 dX0_vote_63 (by decide) ?_
                exact igo21 _ _ _ h rfl _ _ _ hG hS (lv_sub hl [0, 1, 2, 3, 4] rfl)
              · replace h := xif_f h c34
                exact Jj16 _ _ h _ _ _ hG hS (lv_sub hl [3, 4, 0] rfl)
      exact Lgo21 FU _ _ h _ _ _ hG hS (lv_sub hl [0, 1, 2, 3, 4] rfl)
    · replace h := xif_f h c5
      cases h
      exact hret _ _ _ _ dX0_vote_10 hG hS
theorem hd_X0_vote : yX0_vote.cls = RX0 ∧ yX0_vote.cls ≠ "java/lang/invoke/MethodHandle" ∧ yX0_vote.cls ≠ "java/lang/invoke/VarHandle" ∧ (parseMethodDescriptor yX0_vote.desc).map (fun d => d.parameters.length) = some 3 := by decide +kernel
abbrev rX0_doTick : Room := { frames := 5, cells := 0, slots := 0, locals := 157 }
set_option maxRecDepth 100000 in
set_option maxHeartbeats 8000000 in
theorem c_X0_doTick (l : Launch) (t : gP) (k1 : Nat) (k2 : Nat) (u : uS) (r : Int) (u' : uS) (h : f_X0_doTick k1 k2 u = some (r, u')) : xMv l yX0_doTick wsX0_doTick rX0_doTick t [.ref (t.2.2.1 28), .ref (t.2.2.1 k1), .ref (t.2.2.1 k2)] u u' 0 0 := by
  refine x_ofWv (cc := cX0_doTick) (maxL := 4) (own := RX0) (by decide) rfl rfl (Nat.le_of_ble_eq_true rfl) ?_
  intro p e s m args below meth c Q X hret H locs ls hG hS hl
  replace hl : lv_has ls 4 [(0, .ref (t.2.2.1 28)), (1, .ref (t.2.2.1 k1)), (2, .ref (t.2.2.1 k2))] := hl
  have q28 : 28 < NN ∧ sT 28 = 4 := by decide
  have iX7 : ∀ w ∈ wsX70, w ∈ wsX0_doTick := by decide +kernel
  have w1 : Cond.fieldLink RX0 15 "TriggerNetwork$Situation" "tick" "I" ∈ wsX0_doTick := x_w 1 rfl
  have iX5 : ∀ w ∈ wsX50, w ∈ wsX0_doTick := by decide +kernel
  have w2 : Cond.fieldLink RX0 21 "TriggerNetwork$Network" "stationCount" "I" ∈ wsX0_doTick := x_w 2 rfl
  have w3 : Cond.fieldLink RX0 34 "TriggerNetwork$Situation" "pickCount" "I" ∈ wsX0_doTick := x_w 3 rfl
  unfold f_X0_doTick at h
  obtain ⟨g1, h⟩ := xgd_of h
  refine lv_aload_n X.1.1 X.1.2.1 dX0_doTick_0 rfl (lv_at hl 2 rfl) ?_
  refine lv_dup X.1.1 X.1.2.1 dX0_doTick_1 rfl ?_
  refine x_geti X hG 11 0 k2 0 (inC := iX7) rfl g1.2.1 g1.2.2 ⟨by decide, by decide, by decide, rfl, rfl⟩ w1 dX0_doTick_2 ?_
  refine x_iconst X dX0_doTick_5 ?_
  refine x_iadd X dX0_doTick_6 ?_
  refine x_puti X hG hS 11 0 k2 0 _ tyX7 tyX7_ok nmX7 (inC := iX7) rfl g1.2.1 g1.2.2 ⟨by decide, by decide, by decide, rfl, rfl⟩ rfl (by decide +kernel) w1 dX0_doTick_7 (fun H locs hG hS => ?_)
  obtain ⟨u2, eu2, h⟩ := xlet_of h
  replace hG : G t u2 H := by rw [eu2]; exact hG
  refine x_iconst X dX0_doTick_10 ?_
  refine lv_istore_n (lv' := [(3, .int (iI 0)), (0, .ref (t.2.2.1 28)), (1, .ref (t.2.2.1 k1)), (2, .ref (t.2.2.1 k2))]) X.1.1 X.1.2.1 dX0_doTick_11 rfl hl (by decide) rfl (fun ls hl => ?_)
  obtain ⟨j3, ej3, h⟩ := xlet_of h
  have Jj3 : ∀ (u4 : uS), j3 u4 = some (r, u') → xG p l e rX0_doTick s m args below meth c t Q 4 0 0 38 u4 [(0, .ref (t.2.2.1 28)), (1, .ref (t.2.2.1 k1)), (2, .ref (t.2.2.1 k2))] [] := by
      intro u4 h H locs ls hG hS hl
      replace h := (congrFun ej3 u4).symm.trans h
      refine x_iconst X dX0_doTick_38 ?_
      refine lv_istore_n (lv' := [(3, .int (iI 0)), (0, .ref (t.2.2.1 28)), (1, .ref (t.2.2.1 k1)), (2, .ref (t.2.2.1 k2))]) X.1.1 X.1.2.1 dX0_doTick_39 rfl hl (by decide) rfl (fun ls hl => ?_)
      have Lgo5 : ∀ (n : Nat) (x3_6 : Int) (u7 : uS), xl2 (s_X0_doTick_40 k1 k2) n x3_6 u7 = some (r, u') → xG p l e rX0_doTick s m args below meth c t Q 4 0 0 40 u7 [(3, .int (iI x3_6)), (0, .ref (t.2.2.1 28)), (1, .ref (t.2.2.1 k1)), (2, .ref (t.2.2.1 k2))] [] := by
        intro n x3_6 u7 h
        refine xl2_W (F := s_X0_doTick_40 k1 k2) (fun x3_6 u7 q => q = (r, u') → xG p l e rX0_doTick s m args below meth c t Q 4 0 0 40 u7 [(3, .int (iI x3_6)), (0, .ref (t.2.2.1 28)), (1, .ref (t.2.2.1 k1)), (2, .ref (t.2.2.1 k2))] []) ?_ n x3_6 u7 _ h rfl
        intro go5 igo5 x3_6 u7 q h hq H locs ls hG hS hl
        subst hq
        unfold s_X0_doTick_40 at h
        refine lv_iload_n X.1.1 X.1.2.1 dX0_doTick_40 rfl (lv_at hl 0 rfl) ?_
        refine lv_aload_n X.1.1 X.1.2.1 dX0_doTick_41 rfl (lv_at hl 2 rfl) ?_
        refine x_geti X hG 9 10 k1 10 (inC := iX5) rfl g1.1.1 g1.1.2 ⟨by decide, by decide, by decide, rfl, rfl⟩ w2 dX0_doTick_42 ?_
        obtain ⟨g8, h⟩ := xgd_of h
        refine x_icmp_ge (tgt := 81) X g8.1 g8.2 dX0_doTick_45 (by decide) (fun c9 => ?_) (fun c9 => ?_)
        · replace h := xif_t h c9
          cases h
          exact hret _ _ _ _ dX0_doTick_81 hG hS
        · replace h := xif_f h c9
          refine lv_iload_n X.1.1 X.1.2.1 dX0_doTick_48 rfl (lv_at hl 0 rfl) ?_
          refine x_bipush X dX0_doTick_49 (by decide) ?_
          obtain ⟨g10, h⟩ := xgd_of h
          refine x_icmp_ge (tgt := 81) X g10 ⟨by decide, by decide⟩ dX0_doTick_51 (by decide) (fun c11 => ?_) (fun c11 => ?_)
          · replace h := xif_t h c11
            cases h
            exact hret _ _ _ _ dX0_doTick_81 hG hS
          · replace h := xif_f h c11
            refine lv_aload_n X.1.1 X.1.2.1 dX0_doTick_54 rfl (lv_at hl 2 rfl) ?_
            refine lv_aload_n X.1.1 X.1.2.1 dX0_doTick_55 rfl (lv_at hl 3 rfl) ?_
            refine lv_iload_n X.1.1 X.1.2.1 dX0_doTick_56 rfl (lv_at hl 0 rfl) ?_
            obtain ⟨v12, u13, hf, h⟩ := xbd_of h
            refine x_callSi0 X hG hS (c_X0_judge l t _ _ _ _ _ _ hf) (va_cwS 3 X.1.2.2.2.2 gX0_doTick_X0_judge rfl rfl rfl hds_X0_judge ⟨Nat.le_of_ble_eq_true rfl, Nat.le_of_ble_eq_true rfl⟩) (by rfl) hl.1 (Nat.le_of_ble_eq_true rfl) dX0_doTick_57 ⟨by decide, by decide⟩ rfl (fun H locs hG hS => ?_)
            obtain ⟨g14, h⟩ := xgd_of h
            refine x_if_eq (tgt := 75) X g14 dX0_doTick_60 (by decide) (fun c15 => ?_) (fun c15 => ?_)
            · replace h := xif_t h c15
              refine lv_iinc (v := (iI (x3_6 + 1))) (lv' := [(3, .int (iI (x3_6 + 1))), (0, .ref (t.2.2.1 28)), (1, .ref (t.2.2.1 k1)), (2, .ref (t.2.2.1 k2))]) X.1.1 X.1.2.1 dX0_doTick_75 hl (k := 0) rfl (iI_add _ _) (by decide) rfl (fun ls hl => ?_)
              refine lv_goto (tgt := 40) X.1.1 X.1.2.1 dX0_doTick_78 (by decide) ?_
              exact igo5 _ _ _ h rfl _ _ _ hG hS (lv_sub hl [0, 1, 2, 3] rfl)
            · replace h := xif_f h c15
              refine lv_aload_n X.1.1 X.1.2.1 dX0_doTick_63 rfl (lv_at hl 1 rfl) ?_
              refine lv_aload_n X.1.1 X.1.2.1 dX0_doTick_64 rfl (lv_at hl 2 rfl) ?_
              refine lv_aload_n X.1.1 X.1.2.1 dX0_doTick_65 rfl (lv_at hl 3 rfl) ?_
              refine lv_aload_n X.1.1 X.1.2.1 dX0_doTick_66 rfl (lv_at hl 3 rfl) ?_
              refine x_geti X hG 11 1 k2 1 (inC := iX7) rfl g1.2.1 g1.2.2 ⟨by decide, by decide, by decide, rfl, rfl⟩ w3 dX0_doTick_67 ?_
              refine x_iconst X dX0_doTick_70 ?_
              refine x_isub X dX0_doTick_71 ?_
              obtain ⟨v16, u17, hf, h⟩ := xbd_of h
              refine x_callVv0 X hG hS (c_X0_vote l t _ _ _ _ _ _ hf) (cwV 3 X.1.2.2.2.2 gX0_doTick_X0_vote rfl rfl rfl hd_X0_vote ⟨Nat.le_of_ble_eq_true rfl, Nat.le_of_ble_eq_true rfl⟩) q28.1 q28.2 rfl (by decide) (by rfl) hl.1 (Nat.le_of_ble_eq_true rfl) dX0_doTick_72 ⟨by decide, by decide⟩ rfl (fun H locs hG hS => ?_)
              refine lv_iinc (v := (iI (x3_6 + 1))) (lv' := [(3, .int (iI (x3_6 + 1))), (0, .ref (t.2.2.1 28)), (1, .ref (t.2.2.1 k1)), (2, .ref (t.2.2.1 k2))]) X.1.1 X.1.2.1 dX0_doTick_75 hl (k := 0) rfl (iI_add _ _) (by decide) rfl (fun ls hl => ?_)
              refine lv_goto (tgt := 40) X.1.1 X.1.2.1 dX0_doTick_78 (by decide) ?_
              exact igo5 _ _ _ h rfl _ _ _ hG hS (lv_sub hl [0, 1, 2, 3] rfl)
      exact Lgo5 FU _ _ h _ _ _ hG hS (lv_sub hl [0, 1, 2, 3] rfl)
  have Lgo18 : ∀ (n : Nat) (x3_19 : Int) (u20 : uS), xl2 (s_X0_doTick_12 k1 j3 k2) n x3_19 u20 = some (r, u') → xG p l e rX0_doTick s m args below meth c t Q 4 0 0 12 u20 [(3, .int (iI x3_19)), (0, .ref (t.2.2.1 28)), (1, .ref (t.2.2.1 k1)), (2, .ref (t.2.2.1 k2))] [] := by
    intro n x3_19 u20 h
    refine xl2_W (F := s_X0_doTick_12 k1 j3 k2) (fun x3_19 u20 q => q = (r, u') → xG p l e rX0_doTick s m args below meth c t Q 4 0 0 12 u20 [(3, .int (iI x3_19)), (0, .ref (t.2.2.1 28)), (1, .ref (t.2.2.1 k1)), (2, .ref (t.2.2.1 k2))] []) ?_ n x3_19 u20 _ h rfl
    intro go18 igo18 x3_19 u20 q h hq H locs ls hG hS hl
    subst hq
    unfold s_X0_doTick_12 at h
    refine lv_iload_n X.1.1 X.1.2.1 dX0_doTick_12 rfl (lv_at hl 0 rfl) ?_
    refine lv_aload_n X.1.1 X.1.2.1 dX0_doTick_13 rfl (lv_at hl 2 rfl) ?_
    refine x_geti X hG 9 10 k1 10 (inC := iX5) rfl g1.1.1 g1.1.2 ⟨by decide, by decide, by decide, rfl, rfl⟩ w2 dX0_doTick_14 ?_
    obtain ⟨g21, h⟩ := xgd_of h
    refine x_icmp_ge (tgt := 38) X g21.1 g21.2 dX0_doTick_17 (by decide) (fun c22 => ?_) (fun c22 => ?_)
    · replace h := xif_t h c22
      exact Jj3 _ h _ _ _ hG hS (lv_sub hl [1, 2, 3] rfl)
    · replace h := xif_f h c22
      refine lv_iload_n X.1.1 X.1.2.1 dX0_doTick_20 rfl (lv_at hl 0 rfl) ?_
      refine x_bipush X dX0_doTick_21 (by decide) ?_
      obtain ⟨g23, h⟩ := xgd_of h
      refine x_icmp_ge (tgt := 38) X g23 ⟨by decide, by decide⟩ dX0_doTick_23 (by decide) (fun c24 => ?_) (fun c24 => ?_)
      · replace h := xif_t h c24
        exact Jj3 _ h _ _ _ hG hS (lv_sub hl [1, 2, 3] rfl)
      · replace h := xif_f h c24
        refine lv_aload_n X.1.1 X.1.2.1 dX0_doTick_26 rfl (lv_at hl 3 rfl) ?_
        refine lv_aload_n X.1.1 X.1.2.1 dX0_doTick_27 rfl (lv_at hl 2 rfl) ?_
        refine lv_iload_n X.1.1 X.1.2.1 dX0_doTick_28 rfl (lv_at hl 0 rfl) ?_
        obtain ⟨v25, u26, hf, h⟩ := xbd_of h
        refine x_callVv0 X hG hS (c_X7_takeSample l t _ _ _ _ _ _ hf) (cwV 2 X.1.2.2.2.2 gX0_doTick_X7_takeSample rfl rfl rfl hd_X7_takeSample ⟨Nat.le_of_ble_eq_true rfl, Nat.le_of_ble_eq_true rfl⟩) g1.2.1 g1.2.2 rfl (by decide) (by rfl) hl.1 (Nat.le_of_ble_eq_true rfl) dX0_doTick_29 ⟨by decide, by decide⟩ rfl (fun H locs hG hS => ?_)
        refine lv_iinc (v := (iI (x3_19 + 1))) (lv' := [(3, .int (iI (x3_19 + 1))), (0, .ref (t.2.2.1 28)), (1, .ref (t.2.2.1 k1)), (2, .ref (t.2.2.1 k2))]) X.1.1 X.1.2.1 dX0_doTick_32 hl (k := 0) rfl (iI_add _ _) (by decide) rfl (fun ls hl => ?_)
        refine lv_goto (tgt := 12) X.1.1 X.1.2.1 dX0_doTick_35 (by decide) ?_
        exact igo18 _ _ _ h rfl _ _ _ hG hS (lv_sub hl [0, 1, 2, 3] rfl)
  exact Lgo18 FU _ _ h _ _ _ hG hS (lv_sub hl [0, 1, 2, 3] rfl)
theorem hd_X0_doTick : yX0_doTick.cls = RX0 ∧ yX0_doTick.cls ≠ "java/lang/invoke/MethodHandle" ∧ yX0_doTick.cls ≠ "java/lang/invoke/VarHandle" ∧ (parseMethodDescriptor yX0_doTick.desc).map (fun d => d.parameters.length) = some 2 := by decide +kernel
