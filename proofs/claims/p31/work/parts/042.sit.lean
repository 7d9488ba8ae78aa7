abbrev rX7_addPick : Room := { frames := 0, cells := 0, slots := 0, locals := 0 }
set_option maxRecDepth 100000 in
set_option maxHeartbeats 8000000 in
theorem c_X7_addPick (l : Launch) (t : gP) (k0 : Nat) (x1 : Int) (x2 : Int) (u : uS) (r : Int) (u' : uS) (h : f_X7_addPick k0 x1 x2 u = some (r, u')) : xMv l yX7_addPick wsX7_addPick rX7_addPick t [.ref (t.2.2.1 k0), .int (iI x1), .int (iI x2)] u u' 0 0 := by
  refine x_ofWv (cc := cX7_addPick) (maxL := 3) (own := RX7) (by decide) rfl rfl (Nat.le_of_ble_eq_true rfl) ?_
  intro p e s m args below meth c Q X hret H locs ls hG hS hl
  replace hl : lv_has ls 3 [(0, .ref (t.2.2.1 k0)), (1, .int (iI x1)), (2, .int (iI x2))] := hl
  have iX7 : ∀ w ∈ wsX70, w ∈ wsX7_addPick := by decide +kernel
  have w1 : Cond.fieldLink RX7 58 "TriggerNetwork$Situation" "pickCount" "I" ∈ wsX7_addPick := x_w 1 rfl
  have w2 : Cond.fieldLink RX7 33 "TriggerNetwork$Situation" "pickStations" "[I" ∈ wsX7_addPick := x_w 2 rfl
  have w3 : Cond.fieldLink RX7 36 "TriggerNetwork$Situation" "pickTimes" "[I" ∈ wsX7_addPick := x_w 3 rfl
  have w4 : Cond.fieldLink RX7 54 "TriggerNetwork$Situation" "tick" "I" ∈ wsX7_addPick := x_w 4 rfl
  have w5 : Cond.fieldLink RX7 39 "TriggerNetwork$Situation" "pickPeaks" "[I" ∈ wsX7_addPick := x_w 5 rfl
  have w6 : Cond.fieldLink RX7 42 "TriggerNetwork$Situation" "pickEvents" "[I" ∈ wsX7_addPick := x_w 6 rfl
  have w7 : Cond.fieldLink RX7 45 "TriggerNetwork$Situation" "removed" "[I" ∈ wsX7_addPick := x_w 7 rfl
  have w8 : Cond.fieldLink RX7 30 "TriggerNetwork$Situation" "latestPicks" "[I" ∈ wsX7_addPick := x_w 8 rfl
  unfold f_X7_addPick at h
  obtain ⟨g1, h⟩ := xgd_of h
  refine lv_aload_n X.1.1 X.1.2.1 dX7_addPick_0 rfl (lv_at hl 0 rfl) ?_
  refine x_geti X hG 11 1 k0 1 (inC := iX7) rfl g1.1 g1.2 ⟨by decide, by decide, by decide, rfl, rfl⟩ w1 dX7_addPick_1 ?_
  refine x_bipush X dX7_addPick_4 (by decide) ?_
  obtain ⟨g2, h⟩ := xgd_of h
  refine x_icmp_ge (tgt := 92) X g2 ⟨by decide, by decide⟩ dX7_addPick_6 (by decide) (fun c3 => ?_) (fun c3 => ?_)
  · replace h := xif_t h c3
    cases h
    exact hret _ _ _ _ dX7_addPick_92 hG hS
  · replace h := xif_f h c3
    refine lv_iload_n X.1.1 X.1.2.1 dX7_addPick_9 rfl (lv_at hl 1 rfl) ?_
    obtain ⟨g4, h⟩ := xgd_of h
    refine x_if_lt (tgt := 92) X g4 dX7_addPick_10 (by decide) (fun c5 => ?_) (fun c5 => ?_)
    · replace h := xif_t h c5
      cases h
      exact hret _ _ _ _ dX7_addPick_92 hG hS
    · replace h := xif_f h c5
      refine lv_iload_n X.1.1 X.1.2.1 dX7_addPick_13 rfl (lv_at hl 1 rfl) ?_
      refine x_bipush X dX7_addPick_14 (by decide) ?_
      obtain ⟨g6, h⟩ := xgd_of h
      refine x_icmp_ge (tgt := 92) X g6 ⟨by decide, by decide⟩ dX7_addPick_16 (by decide) (fun c7 => ?_) (fun c7 => ?_)
      · replace h := xif_t h c7
        cases h
        exact hret _ _ _ _ dX7_addPick_92 hG hS
      · replace h := xif_f h c7
        refine lv_aload_n X.1.1 X.1.2.1 dX7_addPick_19 rfl (lv_at hl 0 rfl) ?_
        refine x_getr X hG 11 10 k0 8 (inC := iX7) rfl g1.1 g1.2 ⟨by decide, by decide, by decide, rfl, by decide, by decide⟩ w2 dX7_addPick_20 ?_
        refine lv_aload_n X.1.1 X.1.2.1 dX7_addPick_23 rfl (lv_at hl 0 rfl) ?_
        refine x_geti X hG 11 1 k0 1 (inC := iX7) rfl g1.1 g1.2 ⟨by decide, by decide, by decide, rfl, rfl⟩ w1 dX7_addPick_24 ?_
        refine lv_iload_n X.1.1 X.1.2.1 dX7_addPick_27 rfl (lv_at hl 1 rfl) ?_
        obtain ⟨g8, h⟩ := xgd_of h
        refine x_iast X hG hS (fx_11_10 g1).1 (fx_11_10 g1).2.1 (n := 60) (fx_11_10 g1).2.2 g8 (by decide) dX7_addPick_28 (fun H locs hG hS => ?_)
        obtain ⟨u9, eu9, h⟩ := xlet_of h
        replace hG : G t u9 H := by rw [eu9]; exact hG
        refine lv_aload_n X.1.1 X.1.2.1 dX7_addPick_29 rfl (lv_at hl 0 rfl) ?_
        refine x_getr X hG 11 11 k0 9 (inC := iX7) rfl g1.1 g1.2 ⟨by decide, by decide, by decide, rfl, by decide, by decide⟩ w3 dX7_addPick_30 ?_
        refine lv_aload_n X.1.1 X.1.2.1 dX7_addPick_33 rfl (lv_at hl 0 rfl) ?_
        refine x_geti X hG 11 1 k0 1 (inC := iX7) rfl g1.1 g1.2 ⟨by decide, by decide, by decide, rfl, rfl⟩ w1 dX7_addPick_34 ?_
        refine lv_aload_n X.1.1 X.1.2.1 dX7_addPick_37 rfl (lv_at hl 0 rfl) ?_
        refine x_geti X hG 11 0 k0 0 (inC := iX7) rfl g1.1 g1.2 ⟨by decide, by decide, by decide, rfl, rfl⟩ w4 dX7_addPick_38 ?_
        obtain ⟨g10, h⟩ := xgd_of h
        refine x_iast X hG hS (fx_11_11 g1).1 (fx_11_11 g1).2.1 (n := 60) (fx_11_11 g1).2.2 g10 (by decide) dX7_addPick_41 (fun H locs hG hS => ?_)
        obtain ⟨u11, eu11, h⟩ := xlet_of h
        replace hG : G t u11 H := by rw [eu11]; exact hG
        refine lv_aload_n X.1.1 X.1.2.1 dX7_addPick_42 rfl (lv_at hl 0 rfl) ?_
        refine x_getr X hG 11 12 k0 10 (inC := iX7) rfl g1.1 g1.2 ⟨by decide, by decide, by decide, rfl, by decide, by decide⟩ w5 dX7_addPick_43 ?_
        refine lv_aload_n X.1.1 X.1.2.1 dX7_addPick_46 rfl (lv_at hl 0 rfl) ?_
        refine x_geti X hG 11 1 k0 1 (inC := iX7) rfl g1.1 g1.2 ⟨by decide, by decide, by decide, rfl, rfl⟩ w1 dX7_addPick_47 ?_
        refine lv_iload_n X.1.1 X.1.2.1 dX7_addPick_50 rfl (lv_at hl 2 rfl) ?_
        obtain ⟨g12, h⟩ := xgd_of h
        refine x_iast X hG hS (fx_11_12 g1).1 (fx_11_12 g1).2.1 (n := 60) (fx_11_12 g1).2.2 g12 (by decide) dX7_addPick_51 (fun H locs hG hS => ?_)
        obtain ⟨u13, eu13, h⟩ := xlet_of h
        replace hG : G t u13 H := by rw [eu13]; exact hG
        refine lv_aload_n X.1.1 X.1.2.1 dX7_addPick_52 rfl (lv_at hl 0 rfl) ?_
        refine x_getr X hG 11 13 k0 11 (inC := iX7) rfl g1.1 g1.2 ⟨by decide, by decide, by decide, rfl, by decide, by decide⟩ w6 dX7_addPick_53 ?_
        refine lv_aload_n X.1.1 X.1.2.1 dX7_addPick_56 rfl (lv_at hl 0 rfl) ?_
        refine x_geti X hG 11 1 k0 1 (inC := iX7) rfl g1.1 g1.2 ⟨by decide, by decide, by decide, rfl, rfl⟩ w1 dX7_addPick_57 ?_
        refine x_iconst X dX7_addPick_60 ?_
        obtain ⟨g14, h⟩ := xgd_of h
        refine x_iast X hG hS (fx_11_13 g1).1 (fx_11_13 g1).2.1 (n := 60) (fx_11_13 g1).2.2 g14 (by decide) dX7_addPick_61 (fun H locs hG hS => ?_)
        obtain ⟨u15, eu15, h⟩ := xlet_of h
        replace hG : G t u15 H := by rw [eu15]; exact hG
        refine lv_aload_n X.1.1 X.1.2.1 dX7_addPick_62 rfl (lv_at hl 0 rfl) ?_
        refine x_getr X hG 11 14 k0 12 (inC := iX7) rfl g1.1 g1.2 ⟨by decide, by decide, by decide, rfl, by decide, by decide⟩ w7 dX7_addPick_63 ?_
        refine lv_aload_n X.1.1 X.1.2.1 dX7_addPick_66 rfl (lv_at hl 0 rfl) ?_
        refine x_geti X hG 11 1 k0 1 (inC := iX7) rfl g1.1 g1.2 ⟨by decide, by decide, by decide, rfl, rfl⟩ w1 dX7_addPick_67 ?_
        refine x_iconst X dX7_addPick_70 ?_
        obtain ⟨g16, h⟩ := xgd_of h
        refine x_iast X hG hS (fx_11_14 g1).1 (fx_11_14 g1).2.1 (n := 60) (fx_11_14 g1).2.2 g16 (by decide) dX7_addPick_71 (fun H locs hG hS => ?_)
        obtain ⟨u17, eu17, h⟩ := xlet_of h
        replace hG : G t u17 H := by rw [eu17]; exact hG
        refine lv_aload_n X.1.1 X.1.2.1 dX7_addPick_72 rfl (lv_at hl 0 rfl) ?_
        refine x_getr X hG 11 9 k0 7 (inC := iX7) rfl g1.1 g1.2 ⟨by decide, by decide, by decide, rfl, by decide, by decide⟩ w8 dX7_addPick_73 ?_
        refine lv_iload_n X.1.1 X.1.2.1 dX7_addPick_76 rfl (lv_at hl 1 rfl) ?_
        refine lv_aload_n X.1.1 X.1.2.1 dX7_addPick_77 rfl (lv_at hl 0 rfl) ?_
        refine x_geti X hG 11 1 k0 1 (inC := iX7) rfl g1.1 g1.2 ⟨by decide, by decide, by decide, rfl, rfl⟩ w1 dX7_addPick_78 ?_
        obtain ⟨g18, h⟩ := xgd_of h
        refine x_iast X hG hS (fx_11_9 g1).1 (fx_11_9 g1).2.1 (n := 8) (fx_11_9 g1).2.2 g18 (by decide) dX7_addPick_81 (fun H locs hG hS => ?_)
        obtain ⟨u19, eu19, h⟩ := xlet_of h
        replace hG : G t u19 H := by rw [eu19]; exact hG
        refine lv_aload_n X.1.1 X.1.2.1 dX7_addPick_82 rfl (lv_at hl 0 rfl) ?_
        refine lv_dup X.1.1 X.1.2.1 dX7_addPick_83 rfl ?_
        refine x_geti X hG 11 1 k0 1 (inC := iX7) rfl g1.1 g1.2 ⟨by decide, by decide, by decide, rfl, rfl⟩ w1 dX7_addPick_84 ?_
        refine x_iconst X dX7_addPick_87 ?_
        refine x_iadd X dX7_addPick_88 ?_
        refine x_puti X hG hS 11 1 k0 1 _ tyX7 tyX7_ok nmX7 (inC := iX7) rfl g1.1 g1.2 ⟨by decide, by decide, by decide, rfl, rfl⟩ rfl (by decide +kernel) w1 dX7_addPick_89 (fun H locs hG hS => ?_)
        obtain ⟨u20, eu20, h⟩ := xlet_of h
        replace hG : G t u20 H := by rw [eu20]; exact hG
        cases h
        exact hret _ _ _ _ dX7_addPick_92 hG hS
theorem hd_X7_addPick : yX7_addPick.cls = RX7 ∧ yX7_addPick.cls ≠ "java/lang/invoke/MethodHandle" ∧ yX7_addPick.cls ≠ "java/lang/invoke/VarHandle" ∧ (parseMethodDescriptor yX7_addPick.desc).map (fun d => d.parameters.length) = some 2 := by decide +kernel
abbrev rX7_picksFit : Room := { frames := 1, cells := 0, slots := 0, locals := 60 }
set_option maxRecDepth 100000 in
set_option maxHeartbeats 8000000 in
theorem c_X7_picksFit (l : Launch) (t : gP) (k0 : Nat) (k1 : Nat) (x2 : Int) (x3 : Int) (u : uS) (r : Int) (u' : uS) (h : f_X7_picksFit k0 k1 x2 x3 u = some (r, u')) : xMi l yX7_picksFit wsX7_picksFit rX7_picksFit t [.ref (t.2.2.1 k0), .ref (t.2.2.1 k1), .int (iI x2), .int (iI x3)] u r u' 0 0 := by
  refine x_ofWi (cc := cX7_picksFit) (maxL := 5) (ret := .boolean) (own := RX7) (by decide) rfl rfl (Nat.le_of_ble_eq_true rfl) ?_
  intro p e s m args below meth c Q X hret H locs ls hG hS hl
  replace hl : lv_has ls 5 [(0, .ref (t.2.2.1 k0)), (1, .ref (t.2.2.1 k1)), (2, .int (iI x2)), (3, .int (iI x3))] := hl
  have iX7 : ∀ w ∈ wsX70, w ∈ wsX7_picksFit := by decide +kernel
  have w1 : Cond.fieldLink RX7 45 "TriggerNetwork$Situation" "removed" "[I" ∈ wsX7_picksFit := x_w 1 rfl
  have w2 : Cond.fieldLink RX7 33 "TriggerNetwork$Situation" "pickStations" "[I" ∈ wsX7_picksFit := x_w 2 rfl
  have w3 : Cond.fieldLink RX7 36 "TriggerNetwork$Situation" "pickTimes" "[I" ∈ wsX7_picksFit := x_w 3 rfl
  have w4 : Cond.methodLink RX7 86 Lib.Math.abs.name ∈ wsX7_picksFit := x_w 4 rfl
  have w5 : Cond.static Lib.Math.abs.name ∈ wsX7_picksFit := x_w 5 rfl
  have w6 : Cond.initialized "java/lang/Math" ∈ wsX7_picksFit := x_w 6 rfl
  have w7 : Cond.code Lib.Math.abs.name Lib.Math.abs.code 1 (some .int) ∈ wsX7_picksFit := x_w 7 rfl
  have iX5 : ∀ w ∈ wsX50, w ∈ wsX7_picksFit := by decide +kernel
  have w8 : Cond.fieldLink RX7 95 "TriggerNetwork$Network" "slack" "I" ∈ wsX7_picksFit := x_w 8 rfl
  unfold f_X7_picksFit at h
  obtain ⟨g1, h⟩ := xgd_of h
  refine lv_iload_n X.1.1 X.1.2.1 dX7_picksFit_0 rfl (lv_at hl 2 rfl) ?_
  obtain ⟨g2, h⟩ := xgd_of h
  refine x_if_lt (tgt := 20) X g2 dX7_picksFit_1 (by decide) (fun c3 => ?_) (fun c3 => ?_)
  · replace h := xif_t h c3
    refine x_iconst X dX7_picksFit_20 ?_
    cases h
    exact hret _ _ _ _ dX7_picksFit_21 (by decide) hG hS
  · replace h := xif_f h c3
    refine lv_iload_n X.1.1 X.1.2.1 dX7_picksFit_4 rfl (lv_at hl 2 rfl) ?_
    refine x_bipush X dX7_picksFit_5 (by decide) ?_
    obtain ⟨g4, h⟩ := xgd_of h
    refine x_icmp_ge (tgt := 20) X g4 ⟨by decide, by decide⟩ dX7_picksFit_7 (by decide) (fun c5 => ?_) (fun c5 => ?_)
    · replace h := xif_t h c5
      refine x_iconst X dX7_picksFit_20 ?_
      cases h
      exact hret _ _ _ _ dX7_picksFit_21 (by decide) hG hS
    · replace h := xif_f h c5
      refine lv_iload_n X.1.1 X.1.2.1 dX7_picksFit_10 rfl (lv_at hl 3 rfl) ?_
      obtain ⟨g6, h⟩ := xgd_of h
      refine x_if_lt (tgt := 20) X g6 dX7_picksFit_11 (by decide) (fun c7 => ?_) (fun c7 => ?_)
      · replace h := xif_t h c7
        refine x_iconst X dX7_picksFit_20 ?_
        cases h
        exact hret _ _ _ _ dX7_picksFit_21 (by decide) hG hS
      · replace h := xif_f h c7
        refine lv_iload_n X.1.1 X.1.2.1 dX7_picksFit_14 rfl (lv_at hl 3 rfl) ?_
        refine x_bipush X dX7_picksFit_15 (by decide) ?_
        obtain ⟨g8, h⟩ := xgd_of h
        refine x_icmp_lt (tgt := 22) X g8 ⟨by decide, by decide⟩ dX7_picksFit_17 (by decide) (fun c9 => ?_) (fun c9 => ?_)
        · replace h := xif_t h c9
          refine lv_aload_n X.1.1 X.1.2.1 dX7_picksFit_22 rfl (lv_at hl 0 rfl) ?_
          refine x_getr X hG 11 14 k0 12 (inC := iX7) rfl g1.1.1 g1.1.2 ⟨by decide, by decide, by decide, rfl, by decide, by decide⟩ w1 dX7_picksFit_23 ?_
          refine lv_iload_n X.1.1 X.1.2.1 dX7_picksFit_26 rfl (lv_at hl 2 rfl) ?_
          obtain ⟨g10, h⟩ := xgd_of h
          refine x_iald X hG (fx_11_14 g1.1).1 (fx_11_14 g1.1).2.1 (n := 60) (fx_11_14 g1.1).2.2 g10 (by decide) dX7_picksFit_27 ?_
          refine x_iconst X dX7_picksFit_28 ?_
          obtain ⟨g11, h⟩ := xgd_of h
          refine x_icmp_eq (tgt := 57) X g11 ⟨by decide, by decide⟩ dX7_picksFit_29 (by decide) (fun c12 => ?_) (fun c12 => ?_)
          · replace h := xif_t h c12
            refine x_iconst X dX7_picksFit_57 ?_
            cases h
            exact hret _ _ _ _ dX7_picksFit_58 (by decide) hG hS
          · replace h := xif_f h c12
            refine lv_aload_n X.1.1 X.1.2.1 dX7_picksFit_32 rfl (lv_at hl 0 rfl) ?_
            refine x_getr X hG 11 14 k0 12 (inC := iX7) rfl g1.1.1 g1.1.2 ⟨by decide, by decide, by decide, rfl, by decide, by decide⟩ w1 dX7_picksFit_33 ?_
            refine lv_iload_n X.1.1 X.1.2.1 dX7_picksFit_36 rfl (lv_at hl 3 rfl) ?_
            obtain ⟨g13, h⟩ := xgd_of h
            refine x_iald X hG (fx_11_14 g1.1).1 (fx_11_14 g1.1).2.1 (n := 60) (fx_11_14 g1.1).2.2 g13 (by decide) dX7_picksFit_37 ?_
            refine x_iconst X dX7_picksFit_38 ?_
            obtain ⟨g14, h⟩ := xgd_of h
            refine x_icmp_eq (tgt := 57) X g14 ⟨by decide, by decide⟩ dX7_picksFit_39 (by decide) (fun c15 => ?_) (fun c15 => ?_)
            · replace h := xif_t h c15
              refine x_iconst X dX7_picksFit_57 ?_
              cases h
              exact hret _ _ _ _ dX7_picksFit_58 (by decide) hG hS
            · replace h := xif_f h c15
              refine lv_aload_n X.1.1 X.1.2.1 dX7_picksFit_42 rfl (lv_at hl 0 rfl) ?_
              refine x_getr X hG 11 10 k0 8 (inC := iX7) rfl g1.1.1 g1.1.2 ⟨by decide, by decide, by decide, rfl, by decide, by decide⟩ w2 dX7_picksFit_43 ?_
              refine lv_iload_n X.1.1 X.1.2.1 dX7_picksFit_46 rfl (lv_at hl 2 rfl) ?_
              obtain ⟨g16, h⟩ := xgd_of h
              refine x_iald X hG (fx_11_10 g1.1).1 (fx_11_10 g1.1).2.1 (n := 60) (fx_11_10 g1.1).2.2 g16 (by decide) dX7_picksFit_47 ?_
              refine lv_aload_n X.1.1 X.1.2.1 dX7_picksFit_48 rfl (lv_at hl 0 rfl) ?_
              refine x_getr X hG 11 10 k0 8 (inC := iX7) rfl g1.1.1 g1.1.2 ⟨by decide, by decide, by decide, rfl, by decide, by decide⟩ w2 dX7_picksFit_49 ?_
              refine lv_iload_n X.1.1 X.1.2.1 dX7_picksFit_52 rfl (lv_at hl 3 rfl) ?_
              obtain ⟨g17, h⟩ := xgd_of h
              refine x_iald X hG (fx_11_10 g1.1).1 (fx_11_10 g1.1).2.1 (n := 60) (fx_11_10 g1.1).2.2 g17 (by decide) dX7_picksFit_53 ?_
              obtain ⟨g18, h⟩ := xgd_of h
              refine x_icmp_ne (tgt := 59) X g18.1 g18.2 dX7_picksFit_54 (by decide) (fun c19 => ?_) (fun c19 => ?_)
              · replace h := xif_f h c19
                refine lv_aload_n X.1.1 X.1.2.1 dX7_picksFit_59 rfl (lv_at hl 0 rfl) ?_
                refine x_getr X hG 11 11 k0 9 (inC := iX7) rfl g1.1.1 g1.1.2 ⟨by decide, by decide, by decide, rfl, by decide, by decide⟩ w3 dX7_picksFit_60 ?_
                refine lv_iload_n X.1.1 X.1.2.1 dX7_picksFit_63 rfl (lv_at hl 2 rfl) ?_
                obtain ⟨g20, h⟩ := xgd_of h
                refine x_iald X hG (fx_11_11 g1.1).1 (fx_11_11 g1.1).2.1 (n := 60) (fx_11_11 g1.1).2.2 g20 (by decide) dX7_picksFit_64 ?_
                refine lv_aload_n X.1.1 X.1.2.1 dX7_picksFit_65 rfl (lv_at hl 0 rfl) ?_
                refine x_getr X hG 11 11 k0 9 (inC := iX7) rfl g1.1.1 g1.1.2 ⟨by decide, by decide, by decide, rfl, by decide, by decide⟩ w3 dX7_picksFit_66 ?_
                refine lv_iload_n X.1.1 X.1.2.1 dX7_picksFit_69 rfl (lv_at hl 3 rfl) ?_
                obtain ⟨g21, h⟩ := xgd_of h
                refine x_iald X hG (fx_11_11 g1.1).1 (fx_11_11 g1.1).2.1 (n := 60) (fx_11_11 g1.1).2.2 g21 (by decide) dX7_picksFit_70 ?_
                refine x_isub X dX7_picksFit_71 ?_
                obtain ⟨g22, h⟩ := xgd_of h
                refine x_mabs (R := rX7_picksFit) X g22 hl.1 w4 w5 w6 w7 (by decide) (by decide) dX7_picksFit_72 (Nat.le_of_ble_eq_true rfl) ⟨by decide, by decide⟩ ?_
                refine x_name (fun x4_23 ex4_23 => ?_)
                replace h := xlet_at ex4_23 h
                refine lv_istore (lv' := [(4, .int (iI x4_23)), (0, .ref (t.2.2.1 k0)), (1, .ref (t.2.2.1 k1)), (2, .int (iI x2)), (3, .int (iI x3))]) X.1.1 X.1.2.1 dX7_picksFit_75 hl (by decide) rfl (fun ls hl => ?_)
                refine lv_iload X.1.1 X.1.2.1 dX7_picksFit_77 (lv_at hl 0 rfl) ?_
                refine lv_aload_n X.1.1 X.1.2.1 dX7_picksFit_79 rfl (lv_at hl 2 rfl) ?_
                refine lv_aload_n X.1.1 X.1.2.1 dX7_picksFit_80 rfl (lv_at hl 1 rfl) ?_
                refine x_getr X hG 11 10 k0 8 (inC := iX7) rfl g1.1.1 g1.1.2 ⟨by decide, by decide, by decide, rfl, by decide, by decide⟩ w2 dX7_picksFit_81 ?_
                refine lv_iload_n X.1.1 X.1.2.1 dX7_picksFit_84 rfl (lv_at hl 3 rfl) ?_
                obtain ⟨g24, h⟩ := xgd_of h
                refine x_iald X hG (fx_11_10 g1.1).1 (fx_11_10 g1.1).2.1 (n := 60) (fx_11_10 g1.1).2.2 g24 (by decide) dX7_picksFit_85 ?_
                refine lv_aload_n X.1.1 X.1.2.1 dX7_picksFit_86 rfl (lv_at hl 1 rfl) ?_
                refine x_getr X hG 11 10 k0 8 (inC := iX7) rfl g1.1.1 g1.1.2 ⟨by decide, by decide, by decide, rfl, by decide, by decide⟩ w2 dX7_picksFit_87 ?_
                refine lv_iload_n X.1.1 X.1.2.1 dX7_picksFit_90 rfl (lv_at hl 4 rfl) ?_
                obtain ⟨g25, h⟩ := xgd_of h
                refine x_iald X hG (fx_11_10 g1.1).1 (fx_11_10 g1.1).2.1 (n := 60) (fx_11_10 g1.1).2.2 g25 (by decide) dX7_picksFit_91 ?_
                obtain ⟨v26, u27, hf, h⟩ := xbd_of h
                refine x_callVi0 X hG hS (c_X5_travelOfStations l t _ _ _ _ _ _ hf) (cwV 2 X.1.2.2.2.2 gX7_picksFit_X5_travelOfStations rfl rfl rfl hd_X5_travelOfStations ⟨Nat.le_of_ble_eq_true rfl, Nat.le_of_ble_eq_true rfl⟩) g1.2.1 g1.2.2 rfl (by decide) (by rfl) hl.1 (Nat.le_of_ble_eq_true rfl) dX7_picksFit_92 ⟨by decide, by decide⟩ rfl (fun H locs hG hS => ?_)
                refine lv_aload_n X.1.1 X.1.2.1 dX7_picksFit_95 rfl (lv_at hl 2 rfl) ?_
                refine x_geti X hG 9 8 k1 8 (inC := iX5) rfl g1.2.1 g1.2.2 ⟨by decide, by decide, by decide, rfl, rfl⟩ w8 dX7_picksFit_96 ?_
                refine x_iadd X dX7_picksFit_99 ?_
                obtain ⟨g28, h⟩ := xgd_of h
                refine x_icmp_gt (tgt := 107) X g28.1 g28.2 dX7_picksFit_100 (by decide) (fun c29 => ?_) (fun c29 => ?_)
                · replace h := xif_t h c29
                  refine x_iconst X dX7_picksFit_107 ?_
                  cases h
                  exact hret _ _ _ _ dX7_picksFit_108 (by decide) hG hS
                · replace h := xif_f h c29
                  refine x_iconst X dX7_picksFit_103 ?_
                  refine lv_goto (tgt := 108) X.1.1 X.1.2.1 dX7_picksFit_104 (by decide) ?_
                  cases h
                  exact hret _ _ _ _ dX7_picksFit_108 (by decide) hG hS
              · replace h := xif_t h c19
                refine x_iconst X dX7_picksFit_57 ?_
                cases h
                exact hret _ _ _ _ dX7_picksFit_58 (by decide) hG hS
        · replace h := xif_f h c9
          refine x_iconst X dX7_picksFit_20 ?_
          cases h
          exact hret _ _ _ _ dX7_picksFit_21 (by decide) hG hS
theorem hd_X7_picksFit : yX7_picksFit.cls = RX7 ∧ yX7_picksFit.cls ≠ "java/lang/invoke/MethodHandle" ∧ yX7_picksFit.cls ≠ "java/lang/invoke/VarHandle" ∧ (parseMethodDescriptor yX7_picksFit.desc).map (fun d => d.parameters.length) = some 3 := by decide +kernel
abbrev rX7_sampleAt : Room := { frames := 0, cells := 0, slots := 0, locals := 0 }
set_option maxRecDepth 100000 in
set_option maxHeartbeats 8000000 in
theorem c_X7_sampleAt (l : Launch) (t : gP) (k0 : Nat) (x1 : Int) (x2 : Int) (u : uS) (r : Int) (u' : uS) (h : f_X7_sampleAt k0 x1 x2 u = some (r, u')) : xMi l yX7_sampleAt wsX7_sampleAt rX7_sampleAt t [.ref (t.2.2.1 k0), .int (iI x1), .int (iI x2)] u r u' 0 0 := by
  refine x_ofWi (cc := cX7_sampleAt) (maxL := 4) (ret := .int) (own := RX7) (by decide) rfl rfl (Nat.le_of_ble_eq_true rfl) ?_
  intro p e s m args below meth c Q X hret H locs ls hG hS hl
  replace hl : lv_has ls 4 [(0, .ref (t.2.2.1 k0)), (1, .int (iI x1)), (2, .int (iI x2))] := hl
  have iX7 : ∀ w ∈ wsX70, w ∈ wsX7_sampleAt := by decide +kernel
  have w1 : Cond.fieldLink RX7 15 "TriggerNetwork$Situation" "samples" "[I" ∈ wsX7_sampleAt := x_w 1 rfl
  unfold f_X7_sampleAt at h
  obtain ⟨g1, h⟩ := xgd_of h
  refine lv_iload_n X.1.1 X.1.2.1 dX7_sampleAt_0 rfl (lv_at hl 2 rfl) ?_
  refine x_iconst X dX7_sampleAt_1 ?_
  obtain ⟨g2, h⟩ := xgd_of h
  obtain ⟨j3, ej3, h⟩ := xlet_of h
  have Jj3 : ∀ (s4 : Int) (u5 : uS), j3 s4 u5 = some (r, u') → xG p l e rX7_sampleAt s m args below meth c t Q 4 0 0 18 u5 [(0, .ref (t.2.2.1 k0))] [.int (iI s4)] := by
      intro s4 u5 h H locs ls hG hS hl
      replace h := (congrFun (congrFun ej3 s4) u5).symm.trans h
      refine lv_istore_n (lv' := [(3, .int (iI s4)), (0, .ref (t.2.2.1 k0))]) X.1.1 X.1.2.1 dX7_sampleAt_18 rfl hl (by decide) rfl (fun ls hl => ?_)
      refine lv_iload_n X.1.1 X.1.2.1 dX7_sampleAt_19 rfl (lv_at hl 0 rfl) ?_
      obtain ⟨g6, h⟩ := xgd_of h
      refine x_if_lt (tgt := 41) X g6 dX7_sampleAt_20 (by decide) (fun c7 => ?_) (fun c7 => ?_)
      · replace h := xif_t h c7
        refine x_iconst X dX7_sampleAt_41 ?_
        cases h
        exact hret _ _ _ _ dX7_sampleAt_42 rfl hG hS
      · replace h := xif_f h c7
        refine lv_iload_n X.1.1 X.1.2.1 dX7_sampleAt_23 rfl (lv_at hl 0 rfl) ?_
        refine lv_aload_n X.1.1 X.1.2.1 dX7_sampleAt_24 rfl (lv_at hl 1 rfl) ?_
        refine x_getr X hG 11 4 k0 2 (inC := iX7) rfl g1.1 g1.2 ⟨by decide, by decide, by decide, rfl, by decide, by decide⟩ w1 dX7_sampleAt_25 ?_
        refine x_alen X hG (fx_11_4 g1).1 (fx_11_4 g1).2.1 (n := 792) (fx_11_4 g1).2.2 dX7_sampleAt_28 ?_
        obtain ⟨g8, h⟩ := xgd_of h
        refine x_icmp_ge (tgt := 41) X g8 ⟨by decide, by decide⟩ dX7_sampleAt_29 (by decide) (fun c9 => ?_) (fun c9 => ?_)
        · replace h := xif_t h c9
          refine x_iconst X dX7_sampleAt_41 ?_
          cases h
          exact hret _ _ _ _ dX7_sampleAt_42 rfl hG hS
        · replace h := xif_f h c9
          refine lv_aload_n X.1.1 X.1.2.1 dX7_sampleAt_32 rfl (lv_at hl 1 rfl) ?_
          refine x_getr X hG 11 4 k0 2 (inC := iX7) rfl g1.1 g1.2 ⟨by decide, by decide, by decide, rfl, by decide, by decide⟩ w1 dX7_sampleAt_33 ?_
          refine lv_iload_n X.1.1 X.1.2.1 dX7_sampleAt_36 rfl (lv_at hl 0 rfl) ?_
          obtain ⟨g10, h⟩ := xgd_of h
          refine x_iald X hG (fx_11_4 g1).1 (fx_11_4 g1).2.1 (n := 792) (fx_11_4 g1).2.2 g10 (by decide) dX7_sampleAt_37 ?_
          refine lv_goto (tgt := 42) X.1.1 X.1.2.1 dX7_sampleAt_38 (by decide) ?_
          cases h
          exact hret _ _ _ _ dX7_sampleAt_42 rfl hG hS
  refine x_icmp_ge (tgt := 9) X g2 ⟨by decide, by decide⟩ dX7_sampleAt_2 (by decide) (fun c11 => ?_) (fun c11 => ?_)
  · replace h := xif_t h c11
    refine lv_iload_n X.1.1 X.1.2.1 dX7_sampleAt_9 rfl (lv_at hl 1 rfl) ?_
    refine x_bipush X dX7_sampleAt_10 (by decide) ?_
    refine x_imul X dX7_sampleAt_12 ?_
    refine lv_iload_n X.1.1 X.1.2.1 dX7_sampleAt_13 rfl (lv_at hl 2 rfl) ?_
    refine x_bipush X dX7_sampleAt_14 (by decide) ?_
    obtain ⟨g12, h⟩ := xgd_of h
    refine x_irem X g12 ⟨by decide, by decide⟩ (by decide) dX7_sampleAt_16 ?_
    refine x_iadd X dX7_sampleAt_17 ?_
    exact Jj3 _ _ h _ _ _ hG hS (lv_sub hl [0] rfl)
  · replace h := xif_f h c11
    refine x_iconst X dX7_sampleAt_5 ?_
    refine lv_goto (tgt := 18) X.1.1 X.1.2.1 dX7_sampleAt_6 (by decide) ?_
    exact Jj3 _ _ h _ _ _ hG hS (lv_sub hl [0] rfl)
theorem hd_X7_sampleAt : yX7_sampleAt.cls = RX7 ∧ yX7_sampleAt.cls ≠ "java/lang/invoke/MethodHandle" ∧ yX7_sampleAt.cls ≠ "java/lang/invoke/VarHandle" ∧ (parseMethodDescriptor yX7_sampleAt.desc).map (fun d => d.parameters.length) = some 2 := by decide +kernel
abbrev rX7_takeSample : Room := { frames := 1, cells := 0, slots := 0, locals := 23 }
set_option maxRecDepth 100000 in
set_option maxHeartbeats 8000000 in
theorem c_X7_takeSample (l : Launch) (t : gP) (k0 : Nat) (k1 : Nat) (x2 : Int) (u : uS) (r : Int) (u' : uS) (h : f_X7_takeSample k0 k1 x2 u = some (r, u')) : xMv l yX7_takeSample wsX7_takeSample rX7_takeSample t [.ref (t.2.2.1 k0), .ref (t.2.2.1 k1), .int (iI x2)] u u' 0 0 := by
  refine x_ofWv (cc := cX7_takeSample) (maxL := 5) (own := RX7) (by decide) rfl rfl (Nat.le_of_ble_eq_true rfl) ?_
  intro p e s m args below meth c Q X hret H locs ls hG hS hl
  replace hl : lv_has ls 5 [(0, .ref (t.2.2.1 k0)), (1, .ref (t.2.2.1 k1)), (2, .int (iI x2))] := hl
  have iX7 : ∀ w ∈ wsX70, w ∈ wsX7_takeSample := by decide +kernel
  have w1 : Cond.fieldLink RX7 54 "TriggerNetwork$Situation" "tick" "I" ∈ wsX7_takeSample := x_w 1 rfl
  have w2 : Cond.fieldLink RX7 15 "TriggerNetwork$Situation" "samples" "[I" ∈ wsX7_takeSample := x_w 2 rfl
  have w3 : Cond.fieldLink RX7 9 "TriggerNetwork$Situation" "levels" "[I" ∈ wsX7_takeSample := x_w 3 rfl
  have w4 : Cond.fieldLink RX7 18 "TriggerNetwork$Situation" "shortSums" "[I" ∈ wsX7_takeSample := x_w 4 rfl
  have iX5 : ∀ w ∈ wsX50, w ∈ wsX7_takeSample := by decide +kernel
  have w5 : Cond.fieldLink RX7 74 "TriggerNetwork$Network" "shortSpan" "I" ∈ wsX7_takeSample := x_w 5 rfl
  have w6 : Cond.fieldLink RX7 21 "TriggerNetwork$Situation" "longSums" "[I" ∈ wsX7_takeSample := x_w 6 rfl
  have w7 : Cond.fieldLink RX7 83 "TriggerNetwork$Network" "longSpan" "I" ∈ wsX7_takeSample := x_w 7 rfl
  unfold f_X7_takeSample at h
  obtain ⟨g1, h⟩ := xgd_of h
  refine lv_iload_n X.1.1 X.1.2.1 dX7_takeSample_0 rfl (lv_at hl 2 rfl) ?_
  refine x_bipush X dX7_takeSample_1 (by decide) ?_
  refine x_imul X dX7_takeSample_3 ?_
  refine lv_aload_n X.1.1 X.1.2.1 dX7_takeSample_4 rfl (lv_at hl 0 rfl) ?_
  refine x_geti X hG 11 0 k0 0 (inC := iX7) rfl g1.1.1 g1.1.2 ⟨by decide, by decide, by decide, rfl, rfl⟩ w1 dX7_takeSample_5 ?_
  refine x_bipush X dX7_takeSample_8 (by decide) ?_
  obtain ⟨g2, h⟩ := xgd_of h
  refine x_irem X g2 ⟨by decide, by decide⟩ (by decide) dX7_takeSample_10 ?_
  refine x_iadd X dX7_takeSample_11 ?_
  refine x_name (fun x3_3 ex3_3 => ?_)
  replace h := xlet_at ex3_3 h
  refine lv_istore_n (lv' := [(3, .int (iI x3_3)), (0, .ref (t.2.2.1 k0)), (1, .ref (t.2.2.1 k1)), (2, .int (iI x2))]) X.1.1 X.1.2.1 dX7_takeSample_12 rfl hl (by decide) rfl (fun ls hl => ?_)
  refine lv_iload_n X.1.1 X.1.2.1 dX7_takeSample_13 rfl (lv_at hl 3 rfl) ?_
  obtain ⟨g4, h⟩ := xgd_of h
  refine x_if_lt (tgt := 36) X g4 dX7_takeSample_14 (by decide) (fun c5 => ?_) (fun c5 => ?_)
  · replace h := xif_t h c5
    cases h
    exact hret _ _ _ _ dX7_takeSample_36 hG hS
  · replace h := xif_f h c5
    refine lv_iload_n X.1.1 X.1.2.1 dX7_takeSample_17 rfl (lv_at hl 3 rfl) ?_
    refine x_bipush X dX7_takeSample_18 (by decide) ?_
    obtain ⟨g6, h⟩ := xgd_of h
    refine x_icmp_ge (tgt := 36) X g6 ⟨by decide, by decide⟩ dX7_takeSample_20 (by decide) (fun c7 => ?_) (fun c7 => ?_)
    · replace h := xif_t h c7
      cases h
      exact hret _ _ _ _ dX7_takeSample_36 hG hS
    · replace h := xif_f h c7
      refine lv_iload_n X.1.1 X.1.2.1 dX7_takeSample_23 rfl (lv_at hl 0 rfl) ?_
      obtain ⟨g8, h⟩ := xgd_of h
      refine x_if_lt (tgt := 36) X g8 dX7_takeSample_24 (by decide) (fun c9 => ?_) (fun c9 => ?_)
      · replace h := xif_t h c9
        cases h
        exact hret _ _ _ _ dX7_takeSample_36 hG hS
      · replace h := xif_f h c9
        refine lv_iload_n X.1.1 X.1.2.1 dX7_takeSample_27 rfl (lv_at hl 0 rfl) ?_
        refine lv_aload_n X.1.1 X.1.2.1 dX7_takeSample_28 rfl (lv_at hl 1 rfl) ?_
        refine x_getr X hG 11 4 k0 2 (inC := iX7) rfl g1.1.1 g1.1.2 ⟨by decide, by decide, by decide, rfl, by decide, by decide⟩ w2 dX7_takeSample_29 ?_
        refine x_alen X hG (fx_11_4 g1.1).1 (fx_11_4 g1.1).2.1 (n := 792) (fx_11_4 g1.1).2.2 dX7_takeSample_32 ?_
        obtain ⟨g10, h⟩ := xgd_of h
        refine x_icmp_lt (tgt := 37) X g10 ⟨by decide, by decide⟩ dX7_takeSample_33 (by decide) (fun c11 => ?_) (fun c11 => ?_)
        · replace h := xif_t h c11
          refine lv_aload_n X.1.1 X.1.2.1 dX7_takeSample_37 rfl (lv_at hl 1 rfl) ?_
          refine x_getr X hG 11 3 k0 1 (inC := iX7) rfl g1.1.1 g1.1.2 ⟨by decide, by decide, by decide, rfl, by decide, by decide⟩ w3 dX7_takeSample_38 ?_
          refine lv_iload_n X.1.1 X.1.2.1 dX7_takeSample_41 rfl (lv_at hl 3 rfl) ?_
          obtain ⟨g12, h⟩ := xgd_of h
          refine x_iald X hG (fx_11_3 g1.1).1 (fx_11_3 g1.1).2.1 (n := 8) (fx_11_3 g1.1).2.2 g12 (by decide) dX7_takeSample_42 ?_
          refine x_name (fun x4_13 ex4_13 => ?_)
          replace h := xlet_at ex4_13 h
          refine lv_istore (lv' := [(4, .int (iI x4_13)), (3, .int (iI x3_3)), (0, .ref (t.2.2.1 k0)), (1, .ref (t.2.2.1 k1)), (2, .int (iI x2))]) X.1.1 X.1.2.1 dX7_takeSample_43 hl (by decide) rfl (fun ls hl => ?_)
          refine lv_aload_n X.1.1 X.1.2.1 dX7_takeSample_45 rfl (lv_at hl 2 rfl) ?_
          refine x_getr X hG 11 5 k0 3 (inC := iX7) rfl g1.1.1 g1.1.2 ⟨by decide, by decide, by decide, rfl, by decide, by decide⟩ w4 dX7_takeSample_46 ?_
          refine lv_iload_n X.1.1 X.1.2.1 dX7_takeSample_49 rfl (lv_at hl 4 rfl) ?_
          refine lv_dup2_11 X.1.1 X.1.2.1 dX7_takeSample_50 rfl rfl ?_
          obtain ⟨g14, h⟩ := xgd_of h
          refine x_iald X hG (fx_11_5 g1.1).1 (fx_11_5 g1.1).2.1 (n := 8) (fx_11_5 g1.1).2.2 g14 (by decide) dX7_takeSample_51 ?_
          refine lv_iload X.1.1 X.1.2.1 dX7_takeSample_52 (lv_at hl 0 rfl) ?_
          refine lv_aload_n X.1.1 X.1.2.1 dX7_takeSample_54 rfl (lv_at hl 2 rfl) ?_
          refine lv_iload_n X.1.1 X.1.2.1 dX7_takeSample_55 rfl (lv_at hl 4 rfl) ?_
          refine lv_aload_n X.1.1 X.1.2.1 dX7_takeSample_56 rfl (lv_at hl 2 rfl) ?_
          refine x_geti X hG 11 0 k0 0 (inC := iX7) rfl g1.1.1 g1.1.2 ⟨by decide, by decide, by decide, rfl, rfl⟩ w1 dX7_takeSample_57 ?_
          refine lv_aload_n X.1.1 X.1.2.1 dX7_takeSample_60 rfl (lv_at hl 3 rfl) ?_
          refine x_geti X hG 9 3 k1 3 (inC := iX5) rfl g1.2.1 g1.2.2 ⟨by decide, by decide, by decide, rfl, rfl⟩ w5 dX7_takeSample_61 ?_
          refine x_isub X dX7_takeSample_64 ?_
          obtain ⟨v15, u16, hf, h⟩ := xbd_of h
          refine x_callVi0 X hG hS (c_X7_sampleAt l t _ _ _ _ _ _ hf) (cwV 2 X.1.2.2.2.2 gX7_takeSample_X7_sampleAt rfl rfl rfl hd_X7_sampleAt ⟨Nat.le_of_ble_eq_true rfl, Nat.le_of_ble_eq_true rfl⟩) g1.1.1 g1.1.2 rfl (by decide) (by rfl) hl.1 (Nat.le_of_ble_eq_true rfl) dX7_takeSample_65 ⟨by decide, by decide⟩ rfl (fun H locs hG hS => ?_)
          refine x_isub X dX7_takeSample_68 ?_
          refine x_iadd X dX7_takeSample_69 ?_
          obtain ⟨g17, h⟩ := xgd_of h
          refine x_iast X hG hS (fx_11_5 g1.1).1 (fx_11_5 g1.1).2.1 (n := 8) (fx_11_5 g1.1).2.2 g17 (by decide) dX7_takeSample_70 (fun H locs hG hS => ?_)
          obtain ⟨u18, eu18, h⟩ := xlet_of h
          replace hG : G t u18 H := by rw [eu18]; exact hG
          refine lv_aload_n X.1.1 X.1.2.1 dX7_takeSample_71 rfl (lv_at hl 2 rfl) ?_
          refine x_getr X hG 11 6 k0 4 (inC := iX7) rfl g1.1.1 g1.1.2 ⟨by decide, by decide, by decide, rfl, by decide, by decide⟩ w6 dX7_takeSample_72 ?_
          refine lv_iload_n X.1.1 X.1.2.1 dX7_takeSample_75 rfl (lv_at hl 4 rfl) ?_
          refine lv_dup2_11 X.1.1 X.1.2.1 dX7_takeSample_76 rfl rfl ?_
          obtain ⟨g19, h⟩ := xgd_of h
          refine x_iald X hG (fx_11_6 g1.1).1 (fx_11_6 g1.1).2.1 (n := 8) (fx_11_6 g1.1).2.2 g19 (by decide) dX7_takeSample_77 ?_
          refine lv_iload X.1.1 X.1.2.1 dX7_takeSample_78 (lv_at hl 0 rfl) ?_
          refine lv_aload_n X.1.1 X.1.2.1 dX7_takeSample_80 rfl (lv_at hl 2 rfl) ?_
          refine lv_iload_n X.1.1 X.1.2.1 dX7_takeSample_81 rfl (lv_at hl 4 rfl) ?_
          refine lv_aload_n X.1.1 X.1.2.1 dX7_takeSample_82 rfl (lv_at hl 2 rfl) ?_
          refine x_geti X hG 11 0 k0 0 (inC := iX7) rfl g1.1.1 g1.1.2 ⟨by decide, by decide, by decide, rfl, rfl⟩ w1 dX7_takeSample_83 ?_
          refine lv_aload_n X.1.1 X.1.2.1 dX7_takeSample_86 rfl (lv_at hl 3 rfl) ?_
          refine x_geti X hG 9 4 k1 4 (inC := iX5) rfl g1.2.1 g1.2.2 ⟨by decide, by decide, by decide, rfl, rfl⟩ w7 dX7_takeSample_87 ?_
          refine x_isub X dX7_takeSample_90 ?_
          obtain ⟨v20, u21, hf, h⟩ := xbd_of h
          refine x_callVi0 X hG hS (c_X7_sampleAt l t _ _ _ _ _ _ hf) (cwV 2 X.1.2.2.2.2 gX7_takeSample_X7_sampleAt rfl rfl rfl hd_X7_sampleAt ⟨Nat.le_of_ble_eq_true rfl, Nat.le_of_ble_eq_true rfl⟩) g1.1.1 g1.1.2 rfl (by decide) (by rfl) hl.1 (Nat.le_of_ble_eq_true rfl) dX7_takeSample_91 ⟨by decide, by decide⟩ rfl (fun H locs hG hS => ?_)
          refine x_isub X dX7_takeSample_94 ?_
          refine x_iadd X dX7_takeSample_95 ?_
          obtain ⟨g22, h⟩ := xgd_of h
          refine x_iast X hG hS (fx_11_6 g1.1).1 (fx_11_6 g1.1).2.1 (n := 8) (fx_11_6 g1.1).2.2 g22 (by decide) dX7_takeSample_96 (fun H locs hG hS => ?_)
          obtain ⟨u23, eu23, h⟩ := xlet_of h
          replace hG : G t u23 H := by rw [eu23]; exact hG
          refine lv_aload_n X.1.1 X.1.2.1 dX7_takeSample_97 rfl (lv_at hl 2 rfl) ?_
          refine x_getr X hG 11 4 k0 2 (inC := iX7) rfl g1.1.1 g1.1.2 ⟨by decide, by decide, by decide, rfl, by decide, by decide⟩ w2 dX7_takeSample_98 ?_
          refine lv_iload_n X.1.1 X.1.2.1 dX7_takeSample_101 rfl (lv_at hl 1 rfl) ?_
          refine lv_iload X.1.1 X.1.2.1 dX7_takeSample_102 (lv_at hl 0 rfl) ?_
          obtain ⟨g24, h⟩ := xgd_of h
          refine x_iast X hG hS (fx_11_4 g1.1).1 (fx_11_4 g1.1).2.1 (n := 792) (fx_11_4 g1.1).2.2 g24 (by decide) dX7_takeSample_104 (fun H locs hG hS => ?_)
          obtain ⟨u25, eu25, h⟩ := xlet_of h
          replace hG : G t u25 H := by rw [eu25]; exact hG
          cases h
          exact hret _ _ _ _ dX7_takeSample_105 hG hS
        · replace h := xif_f h c11
          cases h
          exact hret _ _ _ _ dX7_takeSample_36 hG hS
theorem hd_X7_takeSample : yX7_takeSample.cls = RX7 ∧ yX7_takeSample.cls ≠ "java/lang/invoke/MethodHandle" ∧ yX7_takeSample.cls ≠ "java/lang/invoke/VarHandle" ∧ (parseMethodDescriptor yX7_takeSample.desc).map (fun d => d.parameters.length) = some 2 := by decide +kernel
abbrev rX7_copyFrom : Room := { frames := 2, cells := 0, slots := 0, locals := 81 }
set_option maxRecDepth 100000 in
set_option maxHeartbeats 8000000 in
theorem c_X7_copyFrom (l : Launch) (t : gP) (k0 : Nat) (k1 : Nat) (u : uS) (r : Int) (u' : uS) (h : f_X7_copyFrom k0 k1 u = some (r, u')) : xMv l yX7_copyFrom wsX7_copyFrom rX7_copyFrom t [.ref (t.2.2.1 k0), .ref (t.2.2.1 k1)] u u' 0 0 := by
  refine x_ofWv (cc := cX7_copyFrom) (maxL := 2) (own := RX7) (by decide) rfl rfl (Nat.le_of_ble_eq_true rfl) ?_
  intro p e s m args below meth c Q X hret H locs ls hG hS hl
  replace hl : lv_has ls 2 [(0, .ref (t.2.2.1 k0)), (1, .ref (t.2.2.1 k1))] := hl
  have iX7 : ∀ w ∈ wsX70, w ∈ wsX7_copyFrom := by decide +kernel
  have w1 : Cond.fieldLink RX7 54 "TriggerNetwork$Situation" "tick" "I" ∈ wsX7_copyFrom := x_w 1 rfl
  have w2 : Cond.fieldLink RX7 58 "TriggerNetwork$Situation" "pickCount" "I" ∈ wsX7_copyFrom := x_w 2 rfl
  have w3 : Cond.fieldLink RX7 61 "TriggerNetwork$Situation" "eventCount" "I" ∈ wsX7_copyFrom := x_w 3 rfl
  have w4 : Cond.fieldLink RX7 9 "TriggerNetwork$Situation" "levels" "[I" ∈ wsX7_copyFrom := x_w 4 rfl
  have w19 : Cond.initialized RX9 ∈ wsX7_copyFrom := x_w 19 rfl
  have w18 : Cond.static yX9_copyRow ∈ wsX7_copyFrom := x_w 18 rfl
  have w5 : Cond.fieldLink RX7 15 "TriggerNetwork$Situation" "samples" "[I" ∈ wsX7_copyFrom := x_w 5 rfl
  have w6 : Cond.fieldLink RX7 18 "TriggerNetwork$Situation" "shortSums" "[I" ∈ wsX7_copyFrom := x_w 6 rfl
  have w7 : Cond.fieldLink RX7 21 "TriggerNetwork$Situation" "longSums" "[I" ∈ wsX7_copyFrom := x_w 7 rfl
  have w8 : Cond.fieldLink RX7 24 "TriggerNetwork$Situation" "triggered" "[I" ∈ wsX7_copyFrom := x_w 8 rfl
  have w9 : Cond.fieldLink RX7 27 "TriggerNetwork$Situation" "muted" "[I" ∈ wsX7_copyFrom := x_w 9 rfl
  have w10 : Cond.fieldLink RX7 30 "TriggerNetwork$Situation" "latestPicks" "[I" ∈ wsX7_copyFrom := x_w 10 rfl
  have w11 : Cond.fieldLink RX7 33 "TriggerNetwork$Situation" "pickStations" "[I" ∈ wsX7_copyFrom := x_w 11 rfl
  have w12 : Cond.fieldLink RX7 36 "TriggerNetwork$Situation" "pickTimes" "[I" ∈ wsX7_copyFrom := x_w 12 rfl
  have w13 : Cond.fieldLink RX7 39 "TriggerNetwork$Situation" "pickPeaks" "[I" ∈ wsX7_copyFrom := x_w 13 rfl
  have w14 : Cond.fieldLink RX7 42 "TriggerNetwork$Situation" "pickEvents" "[I" ∈ wsX7_copyFrom := x_w 14 rfl
  have w15 : Cond.fieldLink RX7 45 "TriggerNetwork$Situation" "removed" "[I" ∈ wsX7_copyFrom := x_w 15 rfl
  have w16 : Cond.fieldLink RX7 48 "TriggerNetwork$Situation" "declared" "[I" ∈ wsX7_copyFrom := x_w 16 rfl
  have w17 : Cond.fieldLink RX7 51 "TriggerNetwork$Situation" "retracted" "[I" ∈ wsX7_copyFrom := x_w 17 rfl
  unfold f_X7_copyFrom at h
  obtain ⟨g1, h⟩ := xgd_of h
  refine lv_aload_n X.1.1 X.1.2.1 dX7_copyFrom_0 rfl (lv_at hl 0 rfl) ?_
  refine lv_aload_n X.1.1 X.1.2.1 dX7_copyFrom_1 rfl (lv_at hl 1 rfl) ?_
  refine x_geti X hG 11 0 k1 0 (inC := iX7) rfl g1.2.1 g1.2.2 ⟨by decide, by decide, by decide, rfl, rfl⟩ w1 dX7_copyFrom_2 ?_
  refine x_puti X hG hS 11 0 k0 0 _ tyX7 tyX7_ok nmX7 (inC := iX7) rfl g1.1.1 g1.1.2 ⟨by decide, by decide, by decide, rfl, rfl⟩ rfl (by decide +kernel) w1 dX7_copyFrom_5 (fun H locs hG hS => ?_)
  obtain ⟨u2, eu2, h⟩ := xlet_of h
  replace hG : G t u2 H := by rw [eu2]; exact hG
  refine lv_aload_n X.1.1 X.1.2.1 dX7_copyFrom_8 rfl (lv_at hl 0 rfl) ?_
  refine lv_aload_n X.1.1 X.1.2.1 dX7_copyFrom_9 rfl (lv_at hl 1 rfl) ?_
  refine x_geti X hG 11 1 k1 1 (inC := iX7) rfl g1.2.1 g1.2.2 ⟨by decide, by decide, by decide, rfl, rfl⟩ w2 dX7_copyFrom_10 ?_
  refine x_puti X hG hS 11 1 k0 1 _ tyX7 tyX7_ok nmX7 (inC := iX7) rfl g1.1.1 g1.1.2 ⟨by decide, by decide, by decide, rfl, rfl⟩ rfl (by decide +kernel) w2 dX7_copyFrom_13 (fun H locs hG hS => ?_)
  obtain ⟨u3, eu3, h⟩ := xlet_of h
  replace hG : G t u3 H := by rw [eu3]; exact hG
  refine lv_aload_n X.1.1 X.1.2.1 dX7_copyFrom_16 rfl (lv_at hl 0 rfl) ?_
  refine lv_aload_n X.1.1 X.1.2.1 dX7_copyFrom_17 rfl (lv_at hl 1 rfl) ?_
  refine x_geti X hG 11 2 k1 2 (inC := iX7) rfl g1.2.1 g1.2.2 ⟨by decide, by decide, by decide, rfl, rfl⟩ w3 dX7_copyFrom_18 ?_
  refine x_puti X hG hS 11 2 k0 2 _ tyX7 tyX7_ok nmX7 (inC := iX7) rfl g1.1.1 g1.1.2 ⟨by decide, by decide, by decide, rfl, rfl⟩ rfl (by decide +kernel) w3 dX7_copyFrom_21 (fun H locs hG hS => ?_)
  obtain ⟨u4, eu4, h⟩ := xlet_of h
  replace hG : G t u4 H := by rw [eu4]; exact hG
  refine lv_aload_n X.1.1 X.1.2.1 dX7_copyFrom_24 rfl (lv_at hl 1 rfl) ?_
  refine x_getr X hG 11 3 k1 1 (inC := iX7) rfl g1.2.1 g1.2.2 ⟨by decide, by decide, by decide, rfl, by decide, by decide⟩ w4 dX7_copyFrom_25 ?_
  refine lv_aload_n X.1.1 X.1.2.1 dX7_copyFrom_28 rfl (lv_at hl 0 rfl) ?_
  refine x_getr X hG 11 3 k0 1 (inC := iX7) rfl g1.1.1 g1.1.2 ⟨by decide, by decide, by decide, rfl, by decide, by decide⟩ w4 dX7_copyFrom_29 ?_
  obtain ⟨v5, u6, hf, h⟩ := xbd_of h
  refine x_callNv0 X hG hS (c_X9_copyRow l t _ _ _ _ _ hf) ⟨va_cnB 2 X.1.2.2.2.2 gX7_copyFrom_X9_copyRow_n70 rfl rfl rfl (X.2.2.1.1 (RX7, 70, yX9_copyRow, "TriggerNetwork") (x_m 1 rfl)) (X.1.2.2.2.2 _ w19) hds_X9_copyRow ⟨Nat.le_of_ble_eq_true rfl, Nat.le_of_ble_eq_true rfl⟩, X.1.2.2.2.2 _ w18, trivial⟩ (by rfl) hl.1 (Nat.le_of_ble_eq_true rfl) dX7_copyFrom_32 ⟨by decide, by decide⟩ rfl (fun H locs hG hS => ?_)
  refine lv_aload_n X.1.1 X.1.2.1 dX7_copyFrom_35 rfl (lv_at hl 1 rfl) ?_
  refine x_getr X hG 11 4 k1 2 (inC := iX7) rfl g1.2.1 g1.2.2 ⟨by decide, by decide, by decide, rfl, by decide, by decide⟩ w5 dX7_copyFrom_36 ?_
  refine lv_aload_n X.1.1 X.1.2.1 dX7_copyFrom_39 rfl (lv_at hl 0 rfl) ?_
  refine x_getr X hG 11 4 k0 2 (inC := iX7) rfl g1.1.1 g1.1.2 ⟨by decide, by decide, by decide, rfl, by decide, by decide⟩ w5 dX7_copyFrom_40 ?_
  obtain ⟨v7, u8, hf, h⟩ := xbd_of h
  refine x_callNv0 X hG hS (c_X9_copyRow l t _ _ _ _ _ hf) ⟨va_cnB 2 X.1.2.2.2.2 gX7_copyFrom_X9_copyRow_n70 rfl rfl rfl (X.2.2.1.1 (RX7, 70, yX9_copyRow, "TriggerNetwork") (x_m 1 rfl)) (X.1.2.2.2.2 _ w19) hds_X9_copyRow ⟨Nat.le_of_ble_eq_true rfl, Nat.le_of_ble_eq_true rfl⟩, X.1.2.2.2.2 _ w18, trivial⟩ (by rfl) hl.1 (Nat.le_of_ble_eq_true rfl) dX7_copyFrom_43 ⟨by decide, by decide⟩ rfl (fun H locs hG hS => ?_)
  refine lv_aload_n X.1.1 X.1.2.1 dX7_copyFrom_46 rfl (lv_at hl 1 rfl) ?_
  refine x_getr X hG 11 5 k1 3 (inC := iX7) rfl g1.2.1 g1.2.2 ⟨by decide, by decide, by decide, rfl, by decide, by decide⟩ w6 dX7_copyFrom_47 ?_
  refine lv_aload_n X.1.1 X.1.2.1 dX7_copyFrom_50 rfl (lv_at hl 0 rfl) ?_
  refine x_getr X hG 11 5 k0 3 (inC := iX7) rfl g1.1.1 g1.1.2 ⟨by decide, by decide, by decide, rfl, by decide, by decide⟩ w6 dX7_copyFrom_51 ?_
  obtain ⟨v9, u10, hf, h⟩ := xbd_of h
  refine x_callNv0 X hG hS (c_X9_copyRow l t _ _ _ _ _ hf) ⟨va_cnB 2 X.1.2.2.2.2 gX7_copyFrom_X9_copyRow_n70 rfl rfl rfl (X.2.2.1.1 (RX7, 70, yX9_copyRow, "TriggerNetwork") (x_m 1 rfl)) (X.1.2.2.2.2 _ w19) hds_X9_copyRow ⟨Nat.le_of_ble_eq_true rfl, Nat.le_of_ble_eq_true rfl⟩, X.1.2.2.2.2 _ w18, trivial⟩ (by rfl) hl.1 (Nat.le_of_ble_eq_true rfl) dX7_copyFrom_54 ⟨by decide, by decide⟩ rfl (fun H locs hG hS => ?_)
  refine lv_aload_n X.1.1 X.1.2.1 dX7_copyFrom_57 rfl (lv_at hl 1 rfl) ?_
  refine x_getr X hG 11 6 k1 4 (inC := iX7) rfl g1.2.1 g1.2.2 ⟨by decide, by decide, by decide, rfl, by decide, by decide⟩ w7 dX7_copyFrom_58 ?_
  refine lv_aload_n X.1.1 X.1.2.1 dX7_copyFrom_61 rfl (lv_at hl 0 rfl) ?_
  refine x_getr X hG 11 6 k0 4 (inC := iX7) rfl g1.1.1 g1.1.2 ⟨by decide, by decide, by decide, rfl, by decide, by decide⟩ w7 dX7_copyFrom_62 ?_
  obtain ⟨v11, u12, hf, h⟩ := xbd_of h
  refine x_callNv0 X hG hS (c_X9_copyRow l t _ _ _ _ _ hf) ⟨va_cnB 2 X.1.2.2.2.2 gX7_copyFrom_X9_copyRow_n70 rfl rfl rfl (X.2.2.1.1 (RX7, 70, yX9_copyRow, "TriggerNetwork") (x_m 1 rfl)) (X.1.2.2.2.2 _ w19) hds_X9_copyRow ⟨Nat.le_of_ble_eq_true rfl, Nat.le_of_ble_eq_true rfl⟩, X.1.2.2.2.2 _ w18, trivial⟩ (by rfl) hl.1 (Nat.le_of_ble_eq_true rfl) dX7_copyFrom_65 ⟨by decide, by decide⟩ rfl (fun H locs hG hS => ?_)
  refine lv_aload_n X.1.1 X.1.2.1 dX7_copyFrom_68 rfl (lv_at hl 1 rfl) ?_
  refine x_getr X hG 11 7 k1 5 (inC := iX7) rfl g1.2.1 g1.2.2 ⟨by decide, by decide, by decide, rfl, by decide, by decide⟩ w8 dX7_copyFrom_69 ?_
  refine lv_aload_n X.1.1 X.1.2.1 dX7_copyFrom_72 rfl (lv_at hl 0 rfl) ?_
  refine x_getr X hG 11 7 k0 5 (inC := iX7) rfl g1.1.1 g1.1.2 ⟨by decide, by decide, by decide, rfl, by decide, by decide⟩ w8 dX7_copyFrom_73 ?_
  obtain ⟨v13, u14, hf, h⟩ := xbd_of h
  refine x_callNv0 X hG hS (c_X9_copyRow l t _ _ _ _ _ hf) ⟨va_cnB 2 X.1.2.2.2.2 gX7_copyFrom_X9_copyRow_n70 rfl rfl rfl (X.2.2.1.1 (RX7, 70, yX9_copyRow, "TriggerNetwork") (x_m 1 rfl)) (X.1.2.2.2.2 _ w19) hds_X9_copyRow ⟨Nat.le_of_ble_eq_true rfl, Nat.le_of_ble_eq_true rfl⟩, X.1.2.2.2.2 _ w18, trivial⟩ (by rfl) hl.1 (Nat.le_of_ble_eq_true rfl) dX7_copyFrom_76 ⟨by decide, by decide⟩ rfl (fun H locs hG hS => ?_)
  refine lv_aload_n X.1.1 X.1.2.1 dX7_copyFrom_79 rfl (lv_at hl 1 rfl) ?_
  refine x_getr X hG 11 8 k1 6 (inC := iX7) rfl g1.2.1 g1.2.2 ⟨by decide, by decide, by decide, rfl, by decide, by decide⟩ w9 dX7_copyFrom_80 ?_
  refine lv_aload_n X.1.1 X.1.2.1 dX7_copyFrom_83 rfl (lv_at hl 0 rfl) ?_
  refine x_getr X hG 11 8 k0 6 (inC := iX7) rfl g1.1.1 g1.1.2 ⟨by decide, by decide, by decide, rfl, by decide, by decide⟩ w9 dX7_copyFrom_84 ?_
  obtain ⟨v15, u16, hf, h⟩ := xbd_of h
  refine x_callNv0 X hG hS (c_X9_copyRow l t _ _ _ _ _ hf) ⟨va_cnB 2 X.1.2.2.2.2 gX7_copyFrom_X9_copyRow_n70 rfl rfl rfl (X.2.2.1.1 (RX7, 70, yX9_copyRow, "TriggerNetwork") (x_m 1 rfl)) (X.1.2.2.2.2 _ w19) hds_X9_copyRow ⟨Nat.le_of_ble_eq_true rfl, Nat.le_of_ble_eq_true rfl⟩, X.1.2.2.2.2 _ w18, trivial⟩ (by rfl) hl.1 (Nat.le_of_ble_eq_true rfl) dX7_copyFrom_87 ⟨by decide, by decide⟩ rfl (fun H locs hG hS => ?_)
  refine lv_aload_n X.1.1 X.1.2.1 dX7_copyFrom_90 rfl (lv_at hl 1 rfl) ?_
  refine x_getr X hG 11 9 k1 7 (inC := iX7) rfl g1.2.1 g1.2.2 ⟨by decide, by decide, by decide, rfl, by decide, by decide⟩ w10 dX7_copyFrom_91 ?_
  refine lv_aload_n X.1.1 X.1.2.1 dX7_copyFrom_94 rfl (lv_at hl 0 rfl) ?_
  refine x_getr X hG 11 9 k0 7 (inC := iX7) rfl g1.1.1 g1.1.2 ⟨by decide, by decide, by decide, rfl, by decide, by decide⟩ w10 dX7_copyFrom_95 ?_
  obtain ⟨v17, u18, hf, h⟩ := xbd_of h
  refine x_callNv0 X hG hS (c_X9_copyRow l t _ _ _ _ _ hf) ⟨va_cnB 2 X.1.2.2.2.2 gX7_copyFrom_X9_copyRow_n70 rfl rfl rfl (X.2.2.1.1 (RX7, 70, yX9_copyRow, "TriggerNetwork") (x_m 1 rfl)) (X.1.2.2.2.2 _ w19) hds_X9_copyRow ⟨Nat.le_of_ble_eq_true rfl, Nat.le_of_ble_eq_true rfl⟩, X.1.2.2.2.2 _ w18, trivial⟩ (by rfl) hl.1 (Nat.le_of_ble_eq_true rfl) dX7_copyFrom_98 ⟨by decide, by decide⟩ rfl (fun H locs hG hS => ?_)
  refine lv_aload_n X.1.1 X.1.2.1 dX7_copyFrom_101 rfl (lv_at hl 1 rfl) ?_
  refine x_getr X hG 11 10 k1 8 (inC := iX7) rfl g1.2.1 g1.2.2 ⟨by decide, by decide, by decide, rfl, by decide, by decide⟩ w11 dX7_copyFrom_102 ?_
  refine lv_aload_n X.1.1 X.1.2.1 dX7_copyFrom_105 rfl (lv_at hl 0 rfl) ?_
  refine x_getr X hG 11 10 k0 8 (inC := iX7) rfl g1.1.1 g1.1.2 ⟨by decide, by decide, by decide, rfl, by decide, by decide⟩ w11 dX7_copyFrom_106 ?_
  obtain ⟨v19, u20, hf, h⟩ := xbd_of h
  refine x_callNv0 X hG hS (c_X9_copyRow l t _ _ _ _ _ hf) ⟨va_cnB 2 X.1.2.2.2.2 gX7_copyFrom_X9_copyRow_n70 rfl rfl rfl (X.2.2.1.1 (RX7, 70, yX9_copyRow, "TriggerNetwork") (x_m 1 rfl)) (X.1.2.2.2.2 _ w19) hds_X9_copyRow ⟨Nat.le_of_ble_eq_true rfl, Nat.le_of_ble_eq_true rfl⟩, X.1.2.2.2.2 _ w18, trivial⟩ (by rfl) hl.1 (Nat.le_of_ble_eq_true rfl) dX7_copyFrom_109 ⟨by decide, by decide⟩ rfl (fun H locs hG hS => ?_)
  refine lv_aload_n X.1.1 X.1.2.1 dX7_copyFrom_112 rfl (lv_at hl 1 rfl) ?_
  refine x_getr X hG 11 11 k1 9 (inC := iX7) rfl g1.2.1 g1.2.2 ⟨by decide, by decide, by decide, rfl, by decide, by decide⟩ w12 dX7_copyFrom_113 ?_
  refine lv_aload_n X.1.1 X.1.2.1 dX7_copyFrom_116 rfl (lv_at hl 0 rfl) ?_
  refine x_getr X hG 11 11 k0 9 (inC := iX7) rfl g1.1.1 g1.1.2 ⟨by decide, by decide, by decide, rfl, by decide, by decide⟩ w12 dX7_copyFrom_117 ?_
  obtain ⟨v21, u22, hf, h⟩ := xbd_of h
  refine x_callNv0 X hG hS (c_X9_copyRow l t _ _ _ _ _ hf) ⟨va_cnB 2 X.1.2.2.2.2 gX7_copyFrom_X9_copyRow_n70 rfl rfl rfl (X.2.2.1.1 (RX7, 70, yX9_copyRow, "TriggerNetwork") (x_m 1 rfl)) (X.1.2.2.2.2 _ w19) hds_X9_copyRow ⟨Nat.le_of_ble_eq_true rfl, Nat.le_of_ble_eq_true rfl⟩, X.1.2.2.2.2 _ w18, trivial⟩ (by rfl) hl.1 (Nat.le_of_ble_eq_true rfl) dX7_copyFrom_120 ⟨by decide, by decide⟩ rfl (fun H locs hG hS => ?_)
  refine lv_aload_n X.1.1 X.1.2.1 dX7_copyFrom_123 rfl (lv_at hl 1 rfl) ?_
  refine x_getr X hG 11 12 k1 10 (inC := iX7) rfl g1.2.1 g1.2.2 ⟨by decide, by decide, by decide, rfl, by decide, by decide⟩ w13 dX7_copyFrom_124 ?_
  refine lv_aload_n X.1.1 X.1.2.1 dX7_copyFrom_127 rfl (lv_at hl 0 rfl) ?_
  refine x_getr X hG 11 12 k0 10 (inC := iX7) rfl g1.1.1 g1.1.2 ⟨by decide, by decide, by decide, rfl, by decide, by decide⟩ w13 dX7_copyFrom_128 ?_
  obtain ⟨v23, u24, hf, h⟩ := xbd_of h
  refine x_callNv0 X hG hS (c_X9_copyRow l t _ _ _ _ _ hf) ⟨va_cnB 2 X.1.2.2.2.2 gX7_copyFrom_X9_copyRow_n70 rfl rfl rfl (X.2.2.1.1 (RX7, 70, yX9_copyRow, "TriggerNetwork") (x_m 1 rfl)) (X.1.2.2.2.2 _ w19) hds_X9_copyRow ⟨Nat.le_of_ble_eq_true rfl, Nat.le_of_ble_eq_true rfl⟩, X.1.2.2.2.2 _ w18, trivial⟩ (by rfl) hl.1 (Nat.le_of_ble_eq_true rfl) dX7_copyFrom_131 ⟨by decide, by decide⟩ rfl (fun H locs hG hS => ?_)
  refine lv_aload_n X.1.1 X.1.2.1 dX7_copyFrom_134 rfl (lv_at hl 1 rfl) ?_
  refine x_getr X hG 11 13 k1 11 (inC := iX7) rfl g1.2.1 g1.2.2 ⟨by decide, by decide, by decide, rfl, by decide, by decide⟩ w14 dX7_copyFrom_135 ?_
  refine lv_aload_n X.1.1 X.1.2.1 dX7_copyFrom_138 rfl (lv_at hl 0 rfl) ?_
  refine x_getr X hG 11 13 k0 11 (inC := iX7) rfl g1.1.1 g1.1.2 ⟨by decide, by decide, by decide, rfl, by decide, by decide⟩ w14 dX7_copyFrom_139 ?_
  obtain ⟨v25, u26, hf, h⟩ := xbd_of h
  refine x_callNv0 X hG hS (c_X9_copyRow l t _ _ _ _ _ hf) ⟨va_cnB 2 X.1.2.2.2.2 gX7_copyFrom_X9_copyRow_n70 rfl rfl rfl (X.2.2.1.1 (RX7, 70, yX9_copyRow, "TriggerNetwork") (x_m 1 rfl)) (X.1.2.2.2.2 _ w19) hds_X9_copyRow ⟨Nat.le_of_ble_eq_true rfl, Nat.le_of_ble_eq_true rfl⟩, X.1.2.2.2.2 _ w18, trivial⟩ (by rfl) hl.1 (Nat.le_of_ble_eq_true rfl) dX7_copyFrom_142 ⟨by decide, by decide⟩ rfl (fun H locs hG hS => ?_)
  refine lv_aload_n X.1.1 X.1.2.1 dX7_copyFrom_145 rfl (lv_at hl 1 rfl) ?_
  refine x_getr X hG 11 14 k1 12 (inC := iX7) rfl g1.2.1 g1.2.2 ⟨by decide, by decide, by decide, rfl, by decide, by decide⟩ w15 dX7_copyFrom_146 ?_
  refine lv_aload_n X.1.1 X.1.2.1 dX7_copyFrom_149 rfl (lv_at hl 0 rfl) ?_
  refine x_getr X hG 11 14 k0 12 (inC := iX7) rfl g1.1.1 g1.1.2 ⟨by decide, by decide, by decide, rfl, by decide, by decide⟩ w15 dX7_copyFrom_150 ?_
  obtain ⟨v27, u28, hf, h⟩ := xbd_of h
  refine x_callNv0 X hG hS (c_X9_copyRow l t _ _ _ _ _ hf) ⟨va_cnB 2 X.1.2.2.2.2 gX7_copyFrom_X9_copyRow_n70 rfl rfl rfl (X.2.2.1.1 (RX7, 70, yX9_copyRow, "TriggerNetwork") (x_m 1 rfl)) (X.1.2.2.2.2 _ w19) hds_X9_copyRow ⟨Nat.le_of_ble_eq_true rfl, Nat.le_of_ble_eq_true rfl⟩, X.1.2.2.2.2 _ w18, trivial⟩ (by rfl) hl.1 (Nat.le_of_ble_eq_true rfl) dX7_copyFrom_153 ⟨by decide, by decide⟩ rfl (fun H locs hG hS => ?_)
  refine lv_aload_n X.1.1 X.1.2.1 dX7_copyFrom_156 rfl (lv_at hl 1 rfl) ?_
  refine x_getr X hG 11 15 k1 13 (inC := iX7) rfl g1.2.1 g1.2.2 ⟨by decide, by decide, by decide, rfl, by decide, by decide⟩ w16 dX7_copyFrom_157 ?_
  refine lv_aload_n X.1.1 X.1.2.1 dX7_copyFrom_160 rfl (lv_at hl 0 rfl) ?_
  refine x_getr X hG 11 15 k0 13 (inC := iX7) rfl g1.1.1 g1.1.2 ⟨by decide, by decide, by decide, rfl, by decide, by decide⟩ w16 dX7_copyFrom_161 ?_
  obtain ⟨v29, u30, hf, h⟩ := xbd_of h
  refine x_callNv0 X hG hS (c_X9_copyRow l t _ _ _ _ _ hf) ⟨va_cnB 2 X.1.2.2.2.2 gX7_copyFrom_X9_copyRow_n70 rfl rfl rfl (X.2.2.1.1 (RX7, 70, yX9_copyRow, "TriggerNetwork") (x_m 1 rfl)) (X.1.2.2.2.2 _ w19) hds_X9_copyRow ⟨Nat.le_of_ble_eq_true rfl, Nat.le_of_ble_eq_true rfl⟩, X.1.2.2.2.2 _ w18, trivial⟩ (by rfl) hl.1 (Nat.le_of_ble_eq_true rfl) dX7_copyFrom_164 ⟨by decide, by decide⟩ rfl (fun H locs hG hS => ?_)
  refine lv_aload_n X.1.1 X.1.2.1 dX7_copyFrom_167 rfl (lv_at hl 1 rfl) ?_
  refine x_getr X hG 11 16 k1 14 (inC := iX7) rfl g1.2.1 g1.2.2 ⟨by decide, by decide, by decide, rfl, by decide, by decide⟩ w17 dX7_copyFrom_168 ?_
  refine lv_aload_n X.1.1 X.1.2.1 dX7_copyFrom_171 rfl (lv_at hl 0 rfl) ?_
  refine x_getr X hG 11 16 k0 14 (inC := iX7) rfl g1.1.1 g1.1.2 ⟨by decide, by decide, by decide, rfl, by decide, by decide⟩ w17 dX7_copyFrom_172 ?_
  obtain ⟨v31, u32, hf, h⟩ := xbd_of h
  refine x_callNv0 X hG hS (c_X9_copyRow l t _ _ _ _ _ hf) ⟨va_cnB 2 X.1.2.2.2.2 gX7_copyFrom_X9_copyRow_n70 rfl rfl rfl (X.2.2.1.1 (RX7, 70, yX9_copyRow, "TriggerNetwork") (x_m 1 rfl)) (X.1.2.2.2.2 _ w19) hds_X9_copyRow ⟨Nat.le_of_ble_eq_true rfl, Nat.le_of_ble_eq_true rfl⟩, X.1.2.2.2.2 _ w18, trivial⟩ (by rfl) hl.1 (Nat.le_of_ble_eq_true rfl) dX7_copyFrom_175 ⟨by decide, by decide⟩ rfl (fun H locs hG hS => ?_)
  cases h
  exact hret _ _ _ _ dX7_copyFrom_178 hG hS
theorem hd_X7_copyFrom : yX7_copyFrom.cls = RX7 ∧ yX7_copyFrom.cls ≠ "java/lang/invoke/MethodHandle" ∧ yX7_copyFrom.cls ≠ "java/lang/invoke/VarHandle" ∧ (parseMethodDescriptor yX7_copyFrom.desc).map (fun d => d.parameters.length) = some 1 := by decide +kernel
abbrev rX7_standingEvents : Room := { frames := 0, cells := 0, slots := 0, locals := 0 }
set_option maxRecDepth 100000 in
set_option maxHeartbeats 8000000 in
theorem c_X7_standingEvents (l : Launch) (t : gP) (k0 : Nat) (u : uS) (r : Int) (u' : uS) (h : f_X7_standingEvents k0 u = some (r, u')) : xMi l yX7_standingEvents wsX7_standingEvents rX7_standingEvents t [.ref (t.2.2.1 k0)] u r u' 0 0 := by
  refine x_ofWi (cc := cX7_standingEvents) (maxL := 3) (ret := .int) (own := RX7) (by decide) rfl rfl (Nat.le_of_ble_eq_true rfl) ?_
  intro p e s m args below meth c Q X hret H locs ls hG hS hl
  replace hl : lv_has ls 3 [(0, .ref (t.2.2.1 k0))] := hl
  have iX7 : ∀ w ∈ wsX70, w ∈ wsX7_standingEvents := by decide +kernel
  have w1 : Cond.fieldLink RX7 61 "TriggerNetwork$Situation" "eventCount" "I" ∈ wsX7_standingEvents := x_w 1 rfl
  have w2 : Cond.fieldLink RX7 51 "TriggerNetwork$Situation" "retracted" "[I" ∈ wsX7_standingEvents := x_w 2 rfl
  unfold f_X7_standingEvents at h
  obtain ⟨g1, h⟩ := xgd_of h
  refine x_iconst X dX7_standingEvents_0 ?_
  refine lv_istore_n (lv' := [(1, .int (iI 0)), (0, .ref (t.2.2.1 k0))]) X.1.1 X.1.2.1 dX7_standingEvents_1 rfl hl (by decide) rfl (fun ls hl => ?_)
  refine x_iconst X dX7_standingEvents_2 ?_
  refine lv_istore_n (lv' := [(2, .int (iI 0)), (1, .int (iI 0)), (0, .ref (t.2.2.1 k0))]) X.1.1 X.1.2.1 dX7_standingEvents_3 rfl hl (by decide) rfl (fun ls hl => ?_)
  have Lgo2 : ∀ (n : Nat) (x1_3 : Int) (x2_4 : Int) (u5 : uS), xl3 (s_X7_standingEvents_4 k0) n x1_3 x2_4 u5 = some (r, u') → xG p l e rX7_standingEvents s m args below meth c t Q 3 0 0 4 u5 [(1, .int (iI x1_3)), (2, .int (iI x2_4)), (0, .ref (t.2.2.1 k0))] [] := by
    intro n x1_3 x2_4 u5 h
    refine xl3_W (F := s_X7_standingEvents_4 k0) (fun x1_3 x2_4 u5 q => q = (r, u') → xG p l e rX7_standingEvents s m args below meth c t Q 3 0 0 4 u5 [(1, .int (iI x1_3)), (2, .int (iI x2_4)), (0, .ref (t.2.2.1 k0))] []) ?_ n x1_3 x2_4 u5 _ h rfl
    intro go2 igo2 x1_3 x2_4 u5 q h hq H locs ls hG hS hl
    subst hq
    unfold s_X7_standingEvents_4 at h
    refine lv_iload_n X.1.1 X.1.2.1 dX7_standingEvents_4 rfl (lv_at hl 1 rfl) ?_
    refine lv_aload_n X.1.1 X.1.2.1 dX7_standingEvents_5 rfl (lv_at hl 2 rfl) ?_
    refine x_geti X hG 11 2 k0 2 (inC := iX7) rfl g1.1 g1.2 ⟨by decide, by decide, by decide, rfl, rfl⟩ w1 dX7_standingEvents_6 ?_
    obtain ⟨g6, h⟩ := xgd_of h
    refine x_icmp_ge (tgt := 35) X g6.1 g6.2 dX7_standingEvents_9 (by decide) (fun c7 => ?_) (fun c7 => ?_)
    · replace h := xif_t h c7
      refine lv_iload_n X.1.1 X.1.2.1 dX7_standingEvents_35 rfl (lv_at hl 0 rfl) ?_
      cases h
      exact hret _ _ _ _ dX7_standingEvents_36 rfl hG hS
    · replace h := xif_f h c7
      refine lv_iload_n X.1.1 X.1.2.1 dX7_standingEvents_12 rfl (lv_at hl 1 rfl) ?_
      refine x_bipush X dX7_standingEvents_13 (by decide) ?_
      obtain ⟨g8, h⟩ := xgd_of h
      refine x_icmp_ge (tgt := 35) X g8 ⟨by decide, by decide⟩ dX7_standingEvents_15 (by decide) (fun c9 => ?_) (fun c9 => ?_)
      · replace h := xif_t h c9
        refine lv_iload_n X.1.1 X.1.2.1 dX7_standingEvents_35 rfl (lv_at hl 0 rfl) ?_
        cases h
        exact hret _ _ _ _ dX7_standingEvents_36 rfl hG hS
      · replace h := xif_f h c9
        refine lv_iload_n X.1.1 X.1.2.1 dX7_standingEvents_18 rfl (lv_at hl 0 rfl) ?_
        refine x_iconst X dX7_standingEvents_19 ?_
        refine lv_aload_n X.1.1 X.1.2.1 dX7_standingEvents_20 rfl (lv_at hl 2 rfl) ?_
        refine x_getr X hG 11 16 k0 14 (inC := iX7) rfl g1.1 g1.2 ⟨by decide, by decide, by decide, rfl, by decide, by decide⟩ w2 dX7_standingEvents_21 ?_
        refine lv_iload_n X.1.1 X.1.2.1 dX7_standingEvents_24 rfl (lv_at hl 1 rfl) ?_
        obtain ⟨g10, h⟩ := xgd_of h
        refine x_iald X hG (fx_11_16 g1).1 (fx_11_16 g1).2.1 (n := 20) (fx_11_16 g1).2.2 g10 (by decide) dX7_standingEvents_25 ?_
        refine x_isub X dX7_standingEvents_26 ?_
        refine x_iadd X dX7_standingEvents_27 ?_
        refine x_name (fun x1_11 ex1_11 => ?_)
        replace h := xlet_at ex1_11 h
        refine lv_istore_n (lv' := [(1, .int (iI x1_11)), (2, .int (iI x2_4)), (0, .ref (t.2.2.1 k0))]) X.1.1 X.1.2.1 dX7_standingEvents_28 rfl hl (by decide) rfl (fun ls hl => ?_)
        refine lv_iinc (v := (iI (x2_4 + 1))) (lv' := [(2, .int (iI (x2_4 + 1))), (1, .int (iI x1_11)), (0, .ref (t.2.2.1 k0))]) X.1.1 X.1.2.1 dX7_standingEvents_29 hl (k := 1) rfl (iI_add _ _) (by decide) rfl (fun ls hl => ?_)
        refine lv_goto (tgt := 4) X.1.1 X.1.2.1 dX7_standingEvents_32 (by decide) ?_
        exact igo2 _ _ _ _ h rfl _ _ _ hG hS (lv_sub hl [1, 0, 2] rfl)
  exact Lgo2 FU _ _ _ h _ _ _ hG hS (lv_sub hl [1, 0, 2] rfl)
theorem hd_X7_standingEvents : yX7_standingEvents.cls = RX7 ∧ yX7_standingEvents.cls ≠ "java/lang/invoke/MethodHandle" ∧ yX7_standingEvents.cls ≠ "java/lang/invoke/VarHandle" ∧ (parseMethodDescriptor yX7_standingEvents.desc).map (fun d => d.parameters.length) = some 0 := by decide +kernel
abbrev rX7_triggeredStations : Room := { frames := 0, cells := 0, slots := 0, locals := 0 }
set_option maxRecDepth 100000 in
set_option maxHeartbeats 8000000 in
theorem c_X7_triggeredStations (l : Launch) (t : gP) (k0 : Nat) (u : uS) (r : Int) (u' : uS) (h : f_X7_triggeredStations k0 u = some (r, u')) : xMi l yX7_triggeredStations wsX7_triggeredStations rX7_triggeredStations t [.ref (t.2.2.1 k0)] u r u' 0 0 := by
  refine x_ofWi (cc := cX7_triggeredStations) (maxL := 3) (ret := .int) (own := RX7) (by decide) rfl rfl (Nat.le_of_ble_eq_true rfl) ?_
  intro p e s m args below meth c Q X hret H locs ls hG hS hl
  replace hl : lv_has ls 3 [(0, .ref (t.2.2.1 k0))] := hl
  have iX7 : ∀ w ∈ wsX70, w ∈ wsX7_triggeredStations := by decide +kernel
  have w1 : Cond.fieldLink RX7 24 "TriggerNetwork$Situation" "triggered" "[I" ∈ wsX7_triggeredStations := x_w 1 rfl
  unfold f_X7_triggeredStations at h
  obtain ⟨g1, h⟩ := xgd_of h
  refine x_iconst X dX7_triggeredStations_0 ?_
  refine lv_istore_n (lv' := [(1, .int (iI 0)), (0, .ref (t.2.2.1 k0))]) X.1.1 X.1.2.1 dX7_triggeredStations_1 rfl hl (by decide) rfl (fun ls hl => ?_)
  refine x_iconst X dX7_triggeredStations_2 ?_
  refine lv_istore_n (lv' := [(2, .int (iI 0)), (1, .int (iI 0)), (0, .ref (t.2.2.1 k0))]) X.1.1 X.1.2.1 dX7_triggeredStations_3 rfl hl (by decide) rfl (fun ls hl => ?_)
  have Lgo2 : ∀ (n : Nat) (x1_3 : Int) (x2_4 : Int) (u5 : uS), xl3 (s_X7_triggeredStations_4 k0) n x1_3 x2_4 u5 = some (r, u') → xG p l e rX7_triggeredStations s m args below meth c t Q 3 0 0 4 u5 [(1, .int (iI x1_3)), (2, .int (iI x2_4)), (0, .ref (t.2.2.1 k0))] [] := by
    intro n x1_3 x2_4 u5 h
    refine xl3_W (F := s_X7_triggeredStations_4 k0) (fun x1_3 x2_4 u5 q => q = (r, u') → xG p l e rX7_triggeredStations s m args below meth c t Q 3 0 0 4 u5 [(1, .int (iI x1_3)), (2, .int (iI x2_4)), (0, .ref (t.2.2.1 k0))] []) ?_ n x1_3 x2_4 u5 _ h rfl
    intro go2 igo2 x1_3 x2_4 u5 q h hq H locs ls hG hS hl
    subst hq
    unfold s_X7_triggeredStations_4 at h
    refine lv_iload_n X.1.1 X.1.2.1 dX7_triggeredStations_4 rfl (lv_at hl 1 rfl) ?_
    refine x_bipush X dX7_triggeredStations_5 (by decide) ?_
    obtain ⟨g6, h⟩ := xgd_of h
    refine x_icmp_ge (tgt := 25) X g6 ⟨by decide, by decide⟩ dX7_triggeredStations_7 (by decide) (fun c7 => ?_) (fun c7 => ?_)
    · replace h := xif_t h c7
      refine lv_iload_n X.1.1 X.1.2.1 dX7_triggeredStations_25 rfl (lv_at hl 0 rfl) ?_
      cases h
      exact hret _ _ _ _ dX7_triggeredStations_26 rfl hG hS
    · replace h := xif_f h c7
      refine lv_iload_n X.1.1 X.1.2.1 dX7_triggeredStations_10 rfl (lv_at hl 0 rfl) ?_
      refine lv_aload_n X.1.1 X.1.2.1 dX7_triggeredStations_11 rfl (lv_at hl 2 rfl) ?_
      refine x_getr X hG 11 7 k0 5 (inC := iX7) rfl g1.1 g1.2 ⟨by decide, by decide, by decide, rfl, by decide, by decide⟩ w1 dX7_triggeredStations_12 ?_
      refine lv_iload_n X.1.1 X.1.2.1 dX7_triggeredStations_15 rfl (lv_at hl 1 rfl) ?_
      obtain ⟨g8, h⟩ := xgd_of h
      refine x_iald X hG (fx_11_7 g1).1 (fx_11_7 g1).2.1 (n := 8) (fx_11_7 g1).2.2 g8 (by decide) dX7_triggeredStations_16 ?_
      refine x_iadd X dX7_triggeredStations_17 ?_
      refine x_name (fun x1_9 ex1_9 => ?_)
      replace h := xlet_at ex1_9 h
      refine lv_istore_n (lv' := [(1, .int (iI x1_9)), (2, .int (iI x2_4)), (0, .ref (t.2.2.1 k0))]) X.1.1 X.1.2.1 dX7_triggeredStations_18 rfl hl (by decide) rfl (fun ls hl => ?_)
      refine lv_iinc (v := (iI (x2_4 + 1))) (lv' := [(2, .int (iI (x2_4 + 1))), (1, .int (iI x1_9)), (0, .ref (t.2.2.1 k0))]) X.1.1 X.1.2.1 dX7_triggeredStations_19 hl (k := 1) rfl (iI_add _ _) (by decide) rfl (fun ls hl => ?_)
      refine lv_goto (tgt := 4) X.1.1 X.1.2.1 dX7_triggeredStations_22 (by decide) ?_
      exact igo2 _ _ _ _ h rfl _ _ _ hG hS (lv_sub hl [1, 0, 2] rfl)
  exact Lgo2 FU _ _ _ h _ _ _ hG hS (lv_sub hl [1, 0, 2] rfl)
theorem hd_X7_triggeredStations : yX7_triggeredStations.cls = RX7 ∧ yX7_triggeredStations.cls ≠ "java/lang/invoke/MethodHandle" ∧ yX7_triggeredStations.cls ≠ "java/lang/invoke/VarHandle" ∧ (parseMethodDescriptor yX7_triggeredStations.desc).map (fun d => d.parameters.length) = some 0 := by decide +kernel
abbrev rX7_picksOf : Room := { frames := 0, cells := 0, slots := 0, locals := 0 }
set_option maxRecDepth 100000 in
set_option maxHeartbeats 8000000 in
theorem c_X7_picksOf (l : Launch) (t : gP) (k0 : Nat) (x1 : Int) (u : uS) (r : Int) (u' : uS) (h : f_X7_picksOf k0 x1 u = some (r, u')) : xMi l yX7_picksOf wsX7_picksOf rX7_picksOf t [.ref (t.2.2.1 k0), .int (iI x1)] u r u' 0 0 := by
  refine x_ofWi (cc := cX7_picksOf) (maxL := 4) (ret := .int) (own := RX7) (by decide) rfl rfl (Nat.le_of_ble_eq_true rfl) ?_
  intro p e s m args below meth c Q X hret H locs ls hG hS hl
  replace hl : lv_has ls 4 [(0, .ref (t.2.2.1 k0)), (1, .int (iI x1))] := hl
  have iX7 : ∀ w ∈ wsX70, w ∈ wsX7_picksOf := by decide +kernel
  have w1 : Cond.fieldLink RX7 58 "TriggerNetwork$Situation" "pickCount" "I" ∈ wsX7_picksOf := x_w 1 rfl
  have w2 : Cond.fieldLink RX7 42 "TriggerNetwork$Situation" "pickEvents" "[I" ∈ wsX7_picksOf := x_w 2 rfl
  unfold f_X7_picksOf at h
  obtain ⟨g1, h⟩ := xgd_of h
  refine x_iconst X dX7_picksOf_0 ?_
  refine lv_istore_n (lv' := [(2, .int (iI 0)), (0, .ref (t.2.2.1 k0)), (1, .int (iI x1))]) X.1.1 X.1.2.1 dX7_picksOf_1 rfl hl (by decide) rfl (fun ls hl => ?_)
  refine x_iconst X dX7_picksOf_2 ?_
  refine lv_istore_n (lv' := [(3, .int (iI 0)), (2, .int (iI 0)), (0, .ref (t.2.2.1 k0)), (1, .int (iI x1))]) X.1.1 X.1.2.1 dX7_picksOf_3 rfl hl (by decide) rfl (fun ls hl => ?_)
  have Lgo2 : ∀ (n : Nat) (x2_3 : Int) (x3_4 : Int) (u5 : uS), xl3 (s_X7_picksOf_4 k0 x1) n x2_3 x3_4 u5 = some (r, u') → xG p l e rX7_picksOf s m args below meth c t Q 4 0 0 4 u5 [(2, .int (iI x2_3)), (3, .int (iI x3_4)), (0, .ref (t.2.2.1 k0)), (1, .int (iI x1))] [] := by
    intro n x2_3 x3_4 u5 h
    refine xl3_W (F := s_X7_picksOf_4 k0 x1) (fun x2_3 x3_4 u5 q => q = (r, u') → xG p l e rX7_picksOf s m args below meth c t Q 4 0 0 4 u5 [(2, .int (iI x2_3)), (3, .int (iI x3_4)), (0, .ref (t.2.2.1 k0)), (1, .int (iI x1))] []) ?_ n x2_3 x3_4 u5 _ h rfl
    intro go2 igo2 x2_3 x3_4 u5 q h hq H locs ls hG hS hl
    subst hq
    unfold s_X7_picksOf_4 at h
    refine lv_iload_n X.1.1 X.1.2.1 dX7_picksOf_4 rfl (lv_at hl 1 rfl) ?_
    refine lv_aload_n X.1.1 X.1.2.1 dX7_picksOf_5 rfl (lv_at hl 2 rfl) ?_
    refine x_geti X hG 11 1 k0 1 (inC := iX7) rfl g1.1 g1.2 ⟨by decide, by decide, by decide, rfl, rfl⟩ w1 dX7_picksOf_6 ?_
    obtain ⟨g6, h⟩ := xgd_of h
    refine x_icmp_ge (tgt := 37) X g6.1 g6.2 dX7_picksOf_9 (by decide) (fun c7 => ?_) (fun c7 => ?_)
    · replace h := xif_t h c7
      refine lv_iload_n X.1.1 X.1.2.1 dX7_picksOf_37 rfl (lv_at hl 0 rfl) ?_
      cases h
      exact hret _ _ _ _ dX7_picksOf_38 rfl hG hS
    · replace h := xif_f h c7
      refine lv_iload_n X.1.1 X.1.2.1 dX7_picksOf_12 rfl (lv_at hl 1 rfl) ?_
      refine x_bipush X dX7_picksOf_13 (by decide) ?_
      obtain ⟨g8, h⟩ := xgd_of h
      refine x_icmp_ge (tgt := 37) X g8 ⟨by decide, by decide⟩ dX7_picksOf_15 (by decide) (fun c9 => ?_) (fun c9 => ?_)
      · replace h := xif_t h c9
        refine lv_iload_n X.1.1 X.1.2.1 dX7_picksOf_37 rfl (lv_at hl 0 rfl) ?_
        cases h
        exact hret _ _ _ _ dX7_picksOf_38 rfl hG hS
      · replace h := xif_f h c9
        refine lv_aload_n X.1.1 X.1.2.1 dX7_picksOf_18 rfl (lv_at hl 2 rfl) ?_
        refine x_getr X hG 11 13 k0 11 (inC := iX7) rfl g1.1 g1.2 ⟨by decide, by decide, by decide, rfl, by decide, by decide⟩ w2 dX7_picksOf_19 ?_
        refine lv_iload_n X.1.1 X.1.2.1 dX7_picksOf_22 rfl (lv_at hl 1 rfl) ?_
        obtain ⟨g10, h⟩ := xgd_of h
        refine x_iald X hG (fx_11_13 g1).1 (fx_11_13 g1).2.1 (n := 60) (fx_11_13 g1).2.2 g10 (by decide) dX7_picksOf_23 ?_
        refine lv_iload_n X.1.1 X.1.2.1 dX7_picksOf_24 rfl (lv_at hl 3 rfl) ?_
        obtain ⟨g11, h⟩ := xgd_of h
        refine x_icmp_ne (tgt := 31) X g11.1 g11.2 dX7_picksOf_25 (by decide) (fun c12 => ?_) (fun c12 => ?_)
        · replace h := xif_f h c12
          refine lv_iinc (v := (iI (x3_4 + 1))) (lv' := [(3, .int (iI (x3_4 + 1))), (2, .int (iI x2_3)), (0, .ref (t.2.2.1 k0)), (1, .int (iI x1))]) X.1.1 X.1.2.1 dX7_picksOf_31 hl (k := 1) rfl (iI_add _ _) (by decide) rfl (fun ls hl => ?_)
          refine lv_goto (tgt := 4) X.1.1 X.1.2.1 dX7_picksOf_34 (by decide) ?_
          exact igo2 _ _ _ _ h rfl _ _ _ hG hS (lv_sub hl [1, 0, 2, 3] rfl)
        · replace h := xif_t h c12
          refine lv_iinc (v := (iI (x2_3 + 1))) (lv' := [(2, .int (iI (x2_3 + 1))), (3, .int (iI x3_4)), (0, .ref (t.2.2.1 k0)), (1, .int (iI x1))]) X.1.1 X.1.2.1 dX7_picksOf_28 hl (k := 0) rfl (iI_add _ _) (by decide) rfl (fun ls hl => ?_)
          refine lv_iinc (v := (iI (x3_4 + 1))) (lv' := [(3, .int (iI (x3_4 + 1))), (2, .int (iI (x2_3 + 1))), (0, .ref (t.2.2.1 k0)), (1, .int (iI x1))]) X.1.1 X.1.2.1 dX7_picksOf_31 hl (k := 1) rfl (iI_add _ _) (by decide) rfl (fun ls hl => ?_)
          refine lv_goto (tgt := 4) X.1.1 X.1.2.1 dX7_picksOf_34 (by decide) ?_
          exact igo2 _ _ _ _ h rfl _ _ _ hG hS (lv_sub hl [1, 0, 2, 3] rfl)
  exact Lgo2 FU _ _ _ h _ _ _ hG hS (lv_sub hl [1, 0, 2, 3] rfl)
theorem hd_X7_picksOf : yX7_picksOf.cls = RX7 ∧ yX7_picksOf.cls ≠ "java/lang/invoke/MethodHandle" ∧ yX7_picksOf.cls ≠ "java/lang/invoke/VarHandle" ∧ (parseMethodDescriptor yX7_picksOf.desc).map (fun d => d.parameters.length) = some 1 := by decide +kernel
abbrev rX7_withdraw : Room := { frames := 0, cells := 0, slots := 0, locals := 0 }
set_option maxRecDepth 100000 in
set_option maxHeartbeats 8000000 in
theorem c_X7_withdraw (l : Launch) (t : gP) (k0 : Nat) (x1 : Int) (u : uS) (r : Int) (u' : uS) (h : f_X7_withdraw k0 x1 u = some (r, u')) : xMv l yX7_withdraw wsX7_withdraw rX7_withdraw t [.ref (t.2.2.1 k0), .int (iI x1)] u u' 0 0 := by
  refine x_ofWv (cc := cX7_withdraw) (maxL := 3) (own := RX7) (by decide) rfl rfl (Nat.le_of_ble_eq_true rfl) ?_
  intro p e s m args below meth c Q X hret H locs ls hG hS hl
  replace hl : lv_has ls 3 [(0, .ref (t.2.2.1 k0)), (1, .int (iI x1))] := hl
  have iX7 : ∀ w ∈ wsX70, w ∈ wsX7_withdraw := by decide +kernel
  have w1 : Cond.fieldLink RX7 51 "TriggerNetwork$Situation" "retracted" "[I" ∈ wsX7_withdraw := x_w 1 rfl
  have w2 : Cond.fieldLink RX7 58 "TriggerNetwork$Situation" "pickCount" "I" ∈ wsX7_withdraw := x_w 2 rfl
  have w3 : Cond.fieldLink RX7 42 "TriggerNetwork$Situation" "pickEvents" "[I" ∈ wsX7_withdraw := x_w 3 rfl
  unfold f_X7_withdraw at h
  obtain ⟨g1, h⟩ := xgd_of h
  refine lv_iload_n X.1.1 X.1.2.1 dX7_withdraw_0 rfl (lv_at hl 1 rfl) ?_
  obtain ⟨g2, h⟩ := xgd_of h
  refine x_if_lt (tgt := 10) X g2 dX7_withdraw_1 (by decide) (fun c3 => ?_) (fun c3 => ?_)
  · replace h := xif_t h c3
    cases h
    exact hret _ _ _ _ dX7_withdraw_10 hG hS
  · replace h := xif_f h c3
    refine lv_iload_n X.1.1 X.1.2.1 dX7_withdraw_4 rfl (lv_at hl 1 rfl) ?_
    refine x_bipush X dX7_withdraw_5 (by decide) ?_
    obtain ⟨g4, h⟩ := xgd_of h
    refine x_icmp_lt (tgt := 11) X g4 ⟨by decide, by decide⟩ dX7_withdraw_7 (by decide) (fun c5 => ?_) (fun c5 => ?_)
    · replace h := xif_t h c5
      refine lv_aload_n X.1.1 X.1.2.1 dX7_withdraw_11 rfl (lv_at hl 0 rfl) ?_
      refine x_getr X hG 11 16 k0 14 (inC := iX7) rfl g1.1 g1.2 ⟨by decide, by decide, by decide, rfl, by decide, by decide⟩ w1 dX7_withdraw_12 ?_
      refine lv_iload_n X.1.1 X.1.2.1 dX7_withdraw_15 rfl (lv_at hl 1 rfl) ?_
      refine x_iconst X dX7_withdraw_16 ?_
      obtain ⟨g6, h⟩ := xgd_of h
      refine x_iast X hG hS (fx_11_16 g1).1 (fx_11_16 g1).2.1 (n := 20) (fx_11_16 g1).2.2 g6 (by decide) dX7_withdraw_17 (fun H locs hG hS => ?_)
      obtain ⟨u7, eu7, h⟩ := xlet_of h
      replace hG : G t u7 H := by rw [eu7]; exact hG
      refine x_iconst X dX7_withdraw_18 ?_
      refine lv_istore_n (lv' := [(2, .int (iI 0)), (0, .ref (t.2.2.1 k0)), (1, .int (iI x1))]) X.1.1 X.1.2.1 dX7_withdraw_19 rfl hl (by decide) rfl (fun ls hl => ?_)
      have Lgo8 : ∀ (n : Nat) (x2_9 : Int) (u10 : uS), xl2 (s_X7_withdraw_20 k0 x1) n x2_9 u10 = some (r, u') → xG p l e rX7_withdraw s m args below meth c t Q 3 0 0 20 u10 [(2, .int (iI x2_9)), (0, .ref (t.2.2.1 k0)), (1, .int (iI x1))] [] := by
        intro n x2_9 u10 h
        refine xl2_W (F := s_X7_withdraw_20 k0 x1) (fun x2_9 u10 q => q = (r, u') → xG p l e rX7_withdraw s m args below meth c t Q 3 0 0 20 u10 [(2, .int (iI x2_9)), (0, .ref (t.2.2.1 k0)), (1, .int (iI x1))] []) ?_ n x2_9 u10 _ h rfl
        intro go8 igo8 x2_9 u10 q h hq H locs ls hG hS hl
        subst hq
        unfold s_X7_withdraw_20 at h
        refine lv_iload_n X.1.1 X.1.2.1 dX7_withdraw_20 rfl (lv_at hl 0 rfl) ?_
        refine lv_aload_n X.1.1 X.1.2.1 dX7_withdraw_21 rfl (lv_at hl 1 rfl) ?_
        refine x_geti X hG 11 1 k0 1 (inC := iX7) rfl g1.1 g1.2 ⟨by decide, by decide, by decide, rfl, rfl⟩ w2 dX7_withdraw_22 ?_
        obtain ⟨g11, h⟩ := xgd_of h
        refine x_icmp_ge (tgt := 57) X g11.1 g11.2 dX7_withdraw_25 (by decide) (fun c12 => ?_) (fun c12 => ?_)
        · replace h := xif_t h c12
          cases h
          exact hret _ _ _ _ dX7_withdraw_57 hG hS
        · replace h := xif_f h c12
          refine lv_iload_n X.1.1 X.1.2.1 dX7_withdraw_28 rfl (lv_at hl 0 rfl) ?_
          refine x_bipush X dX7_withdraw_29 (by decide) ?_
          obtain ⟨g13, h⟩ := xgd_of h
          refine x_icmp_ge (tgt := 57) X g13 ⟨by decide, by decide⟩ dX7_withdraw_31 (by decide) (fun c14 => ?_) (fun c14 => ?_)
          · replace h := xif_t h c14
            cases h
            exact hret _ _ _ _ dX7_withdraw_57 hG hS
          · replace h := xif_f h c14
            refine lv_aload_n X.1.1 X.1.2.1 dX7_withdraw_34 rfl (lv_at hl 1 rfl) ?_
            refine x_getr X hG 11 13 k0 11 (inC := iX7) rfl g1.1 g1.2 ⟨by decide, by decide, by decide, rfl, by decide, by decide⟩ w3 dX7_withdraw_35 ?_
            refine lv_iload_n X.1.1 X.1.2.1 dX7_withdraw_38 rfl (lv_at hl 0 rfl) ?_
            obtain ⟨g15, h⟩ := xgd_of h
            refine x_iald X hG (fx_11_13 g1).1 (fx_11_13 g1).2.1 (n := 60) (fx_11_13 g1).2.2 g15 (by decide) dX7_withdraw_39 ?_
            refine lv_iload_n X.1.1 X.1.2.1 dX7_withdraw_40 rfl (lv_at hl 2 rfl) ?_
            obtain ⟨g16, h⟩ := xgd_of h
            refine x_icmp_ne (tgt := 51) X g16.1 g16.2 dX7_withdraw_41 (by decide) (fun c17 => ?_) (fun c17 => ?_)
            · replace h := xif_f h c17
              refine lv_iinc (v := (iI (x2_9 + 1))) (lv' := [(2, .int (iI (x2_9 + 1))), (0, .ref (t.2.2.1 k0)), (1, .int (iI x1))]) X.1.1 X.1.2.1 dX7_withdraw_51 hl (k := 0) rfl (iI_add _ _) (by decide) rfl (fun ls hl => ?_)
              refine lv_goto (tgt := 20) X.1.1 X.1.2.1 dX7_withdraw_54 (by decide) ?_
              exact igo8 _ _ _ h rfl _ _ _ hG hS (lv_sub hl [0, 1, 2] rfl)
            · replace h := xif_t h c17
              refine lv_aload_n X.1.1 X.1.2.1 dX7_withdraw_44 rfl (lv_at hl 1 rfl) ?_
              refine x_getr X hG 11 13 k0 11 (inC := iX7) rfl g1.1 g1.2 ⟨by decide, by decide, by decide, rfl, by decide, by decide⟩ w3 dX7_withdraw_45 ?_
              refine lv_iload_n X.1.1 X.1.2.1 dX7_withdraw_48 rfl (lv_at hl 0 rfl) ?_
              refine x_iconst X dX7_withdraw_49 ?_
              obtain ⟨g18, h⟩ := xgd_of h
              refine x_iast X hG hS (fx_11_13 g1).1 (fx_11_13 g1).2.1 (n := 60) (fx_11_13 g1).2.2 g18 (by decide) dX7_withdraw_50 (fun H locs hG hS => ?_)
              obtain ⟨u19, eu19, h⟩ := xlet_of h
              replace hG : G t u19 H := by rw [eu19]; exact hG
              refine lv_iinc (v := (iI (x2_9 + 1))) (lv' := [(2, .int (iI (x2_9 + 1))), (0, .ref (t.2.2.1 k0)), (1, .int (iI x1))]) X.1.1 X.1.2.1 dX7_withdraw_51 hl (k := 0) rfl (iI_add _ _) (by decide) rfl (fun ls hl => ?_)
              refine lv_goto (tgt := 20) X.1.1 X.1.2.1 dX7_withdraw_54 (by decide) ?_
              exact igo8 _ _ _ h rfl _ _ _ hG hS (lv_sub hl [0, 1, 2] rfl)
      exact Lgo8 FU _ _ h _ _ _ hG hS (lv_sub hl [0, 1, 2] rfl)
    · replace h := xif_f h c5
      cases h
      exact hret _ _ _ _ dX7_withdraw_10 hG hS
theorem hd_X7_withdraw : yX7_withdraw.cls = RX7 ∧ yX7_withdraw.cls ≠ "java/lang/invoke/MethodHandle" ∧ yX7_withdraw.cls ≠ "java/lang/invoke/VarHandle" ∧ (parseMethodDescriptor yX7_withdraw.desc).map (fun d => d.parameters.length) = some 1 := by decide +kernel
abbrev rX7_silence : Room := { frames := 1, cells := 0, slots := 0, locals := 23 }
set_option maxRecDepth 100000 in
set_option maxHeartbeats 8000000 in
theorem c_X7_silence (l : Launch) (t : gP) (k0 : Nat) (k1 : Nat) (x2 : Int) (u : uS) (r : Int) (u' : uS) (h : f_X7_silence k0 k1 x2 u = some (r, u')) : xMi l yX7_silence wsX7_silence rX7_silence t [.ref (t.2.2.1 k0), .ref (t.2.2.1 k1), .int (iI x2)] u r u' 0 0 := by
  refine x_ofWi (cc := cX7_silence) (maxL := 5) (ret := .int) (own := RX7) (by decide) rfl rfl (Nat.le_of_ble_eq_true rfl) ?_
  intro p e s m args below meth c Q X hret H locs ls hG hS hl
  replace hl : lv_has ls 5 [(0, .ref (t.2.2.1 k0)), (1, .ref (t.2.2.1 k1)), (2, .int (iI x2))] := hl
  have iX7 : ∀ w ∈ wsX70, w ∈ wsX7_silence := by decide +kernel
  have w1 : Cond.fieldLink RX7 27 "TriggerNetwork$Situation" "muted" "[I" ∈ wsX7_silence := x_w 1 rfl
  have w2 : Cond.fieldLink RX7 24 "TriggerNetwork$Situation" "triggered" "[I" ∈ wsX7_silence := x_w 2 rfl
  have w7 : Cond.fieldLink RX7 61 "TriggerNetwork$Situation" "eventCount" "I" ∈ wsX7_silence := x_w 7 rfl
  have w8 : Cond.fieldLink RX7 51 "TriggerNetwork$Situation" "retracted" "[I" ∈ wsX7_silence := x_w 8 rfl
  have iX5 : ∀ w ∈ wsX50, w ∈ wsX7_silence := by decide +kernel
  have w9 : Cond.fieldLink RX7 101 "TriggerNetwork$Network" "votes" "I" ∈ wsX7_silence := x_w 9 rfl
  have w3 : Cond.fieldLink RX7 58 "TriggerNetwork$Situation" "pickCount" "I" ∈ wsX7_silence := x_w 3 rfl
  have w4 : Cond.fieldLink RX7 33 "TriggerNetwork$Situation" "pickStations" "[I" ∈ wsX7_silence := x_w 4 rfl
  have w5 : Cond.fieldLink RX7 45 "TriggerNetwork$Situation" "removed" "[I" ∈ wsX7_silence := x_w 5 rfl
  have w6 : Cond.fieldLink RX7 42 "TriggerNetwork$Situation" "pickEvents" "[I" ∈ wsX7_silence := x_w 6 rfl
  unfold f_X7_silence at h
  obtain ⟨g1, h⟩ := xgd_of h
  refine lv_iload_n X.1.1 X.1.2.1 dX7_silence_0 rfl (lv_at hl 2 rfl) ?_
  obtain ⟨g2, h⟩ := xgd_of h
  refine x_if_lt (tgt := 10) X g2 dX7_silence_1 (by decide) (fun c3 => ?_) (fun c3 => ?_)
  · replace h := xif_t h c3
    refine x_iconst X dX7_silence_10 ?_
    cases h
    exact hret _ _ _ _ dX7_silence_11 rfl hG hS
  · replace h := xif_f h c3
    refine lv_iload_n X.1.1 X.1.2.1 dX7_silence_4 rfl (lv_at hl 2 rfl) ?_
    refine x_bipush X dX7_silence_5 (by decide) ?_
    obtain ⟨g4, h⟩ := xgd_of h
    refine x_icmp_lt (tgt := 12) X g4 ⟨by decide, by decide⟩ dX7_silence_7 (by decide) (fun c5 => ?_) (fun c5 => ?_)
    · replace h := xif_t h c5
      refine lv_aload_n X.1.1 X.1.2.1 dX7_silence_12 rfl (lv_at hl 0 rfl) ?_
      refine x_getr X hG 11 8 k0 6 (inC := iX7) rfl g1.1.1 g1.1.2 ⟨by decide, by decide, by decide, rfl, by decide, by decide⟩ w1 dX7_silence_13 ?_
      refine lv_iload_n X.1.1 X.1.2.1 dX7_silence_16 rfl (lv_at hl 2 rfl) ?_
      refine x_iconst X dX7_silence_17 ?_
      obtain ⟨g6, h⟩ := xgd_of h
      refine x_iast X hG hS (fx_11_8 g1.1).1 (fx_11_8 g1.1).2.1 (n := 8) (fx_11_8 g1.1).2.2 g6 (by decide) dX7_silence_18 (fun H locs hG hS => ?_)
      obtain ⟨u7, eu7, h⟩ := xlet_of h
      replace hG : G t u7 H := by rw [eu7]; exact hG
      refine lv_aload_n X.1.1 X.1.2.1 dX7_silence_19 rfl (lv_at hl 0 rfl) ?_
      refine x_getr X hG 11 7 k0 5 (inC := iX7) rfl g1.1.1 g1.1.2 ⟨by decide, by decide, by decide, rfl, by decide, by decide⟩ w2 dX7_silence_20 ?_
      refine lv_iload_n X.1.1 X.1.2.1 dX7_silence_23 rfl (lv_at hl 2 rfl) ?_
      refine x_iconst X dX7_silence_24 ?_
      obtain ⟨g8, h⟩ := xgd_of h
      refine x_iast X hG hS (fx_11_7 g1.1).1 (fx_11_7 g1.1).2.1 (n := 8) (fx_11_7 g1.1).2.2 g8 (by decide) dX7_silence_25 (fun H locs hG hS => ?_)
      obtain ⟨u9, eu9, h⟩ := xlet_of h
      replace hG : G t u9 H := by rw [eu9]; exact hG
      refine x_iconst X dX7_silence_26 ?_
      refine lv_istore_n (lv' := [(3, .int (iI 0)), (0, .ref (t.2.2.1 k0)), (1, .ref (t.2.2.1 k1)), (2, .int (iI x2))]) X.1.1 X.1.2.1 dX7_silence_27 rfl hl (by decide) rfl (fun ls hl => ?_)
      obtain ⟨j10, ej10, h⟩ := xlet_of h
      have Jj10 : ∀ (u11 : uS), j10 u11 = some (r, u') → xG p l e rX7_silence s m args below meth c t Q 5 0 0 72 u11 [(0, .ref (t.2.2.1 k0)), (1, .ref (t.2.2.1 k1))] [] := by
          intro u11 h H locs ls hG hS hl
          replace h := (congrFun ej10 u11).symm.trans h
          refine x_iconst X dX7_silence_72 ?_
          refine lv_istore_n (lv' := [(3, .int (iI 0)), (0, .ref (t.2.2.1 k0)), (1, .ref (t.2.2.1 k1))]) X.1.1 X.1.2.1 dX7_silence_73 rfl hl (by decide) rfl (fun ls hl => ?_)
          refine x_iconst X dX7_silence_74 ?_
          refine lv_istore (lv' := [(4, .int (iI 0)), (3, .int (iI 0)), (0, .ref (t.2.2.1 k0)), (1, .ref (t.2.2.1 k1))]) X.1.1 X.1.2.1 dX7_silence_75 hl (by decide) rfl (fun ls hl => ?_)
          have Lgo12 : ∀ (n : Nat) (x3_13 : Int) (x4_14 : Int) (u15 : uS), xl3 (s_X7_silence_77 k0 k1) n x3_13 x4_14 u15 = some (r, u') → xG p l e rX7_silence s m args below meth c t Q 5 0 0 77 u15 [(3, .int (iI x3_13)), (4, .int (iI x4_14)), (0, .ref (t.2.2.1 k0)), (1, .ref (t.2.2.1 k1))] [] := by
            intro n x3_13 x4_14 u15 h
            refine xl3_W (F := s_X7_silence_77 k0 k1) (fun x3_13 x4_14 u15 q => q = (r, u') → xG p l e rX7_silence s m args below meth c t Q 5 0 0 77 u15 [(3, .int (iI x3_13)), (4, .int (iI x4_14)), (0, .ref (t.2.2.1 k0)), (1, .ref (t.2.2.1 k1))] []) ?_ n x3_13 x4_14 u15 _ h rfl
            intro go12 igo12 x3_13 x4_14 u15 q h hq H locs ls hG hS hl
            subst hq
            unfold s_X7_silence_77 at h
            refine lv_iload X.1.1 X.1.2.1 dX7_silence_77 (lv_at hl 1 rfl) ?_
            refine lv_aload_n X.1.1 X.1.2.1 dX7_silence_79 rfl (lv_at hl 2 rfl) ?_
            refine x_geti X hG 11 2 k0 2 (inC := iX7) rfl g1.1.1 g1.1.2 ⟨by decide, by decide, by decide, rfl, rfl⟩ w7 dX7_silence_80 ?_
            obtain ⟨g16, h⟩ := xgd_of h
            refine x_icmp_ge (tgt := 131) X g16.1 g16.2 dX7_silence_83 (by decide) (fun c17 => ?_) (fun c17 => ?_)
            · replace h := xif_t h c17
              refine lv_iload_n X.1.1 X.1.2.1 dX7_silence_131 rfl (lv_at hl 0 rfl) ?_
              cases h
              exact hret _ _ _ _ dX7_silence_132 rfl hG hS
            · replace h := xif_f h c17
              refine lv_iload X.1.1 X.1.2.1 dX7_silence_86 (lv_at hl 1 rfl) ?_
              refine x_bipush X dX7_silence_88 (by decide) ?_
              obtain ⟨g18, h⟩ := xgd_of h
              refine x_icmp_ge (tgt := 131) X g18 ⟨by decide, by decide⟩ dX7_silence_90 (by decide) (fun c19 => ?_) (fun c19 => ?_)
              · replace h := xif_t h c19
                refine lv_iload_n X.1.1 X.1.2.1 dX7_silence_131 rfl (lv_at hl 0 rfl) ?_
                cases h
                exact hret _ _ _ _ dX7_silence_132 rfl hG hS
              · replace h := xif_f h c19
                refine lv_aload_n X.1.1 X.1.2.1 dX7_silence_93 rfl (lv_at hl 2 rfl) ?_
                refine x_getr X hG 11 16 k0 14 (inC := iX7) rfl g1.1.1 g1.1.2 ⟨by decide, by decide, by decide, rfl, by decide, by decide⟩ w8 dX7_silence_94 ?_
                refine lv_iload X.1.1 X.1.2.1 dX7_silence_97 (lv_at hl 1 rfl) ?_
                obtain ⟨g20, h⟩ := xgd_of h
                refine x_iald X hG (fx_11_16 g1.1).1 (fx_11_16 g1.1).2.1 (n := 20) (fx_11_16 g1.1).2.2 g20 (by decide) dX7_silence_99 ?_
                obtain ⟨g21, h⟩ := xgd_of h
                refine x_if_ne (tgt := 125) X g21 dX7_silence_100 (by decide) (fun c22 => ?_) (fun c22 => ?_)
                · replace h := xif_f h c22
                  refine lv_iinc (v := (iI (x4_14 + 1))) (lv' := [(4, .int (iI (x4_14 + 1))), (3, .int (iI x3_13)), (0, .ref (t.2.2.1 k0)), (1, .ref (t.2.2.1 k1))]) X.1.1 X.1.2.1 dX7_silence_125 hl (k := 1) rfl (iI_add _ _) (by decide) rfl (fun ls hl => ?_)
                  refine lv_goto (tgt := 77) X.1.1 X.1.2.1 dX7_silence_128 (by decide) ?_
                  exact igo12 _ _ _ _ h rfl _ _ _ hG hS (lv_sub hl [1, 0, 2, 3] rfl)
                · replace h := xif_t h c22
                  refine lv_aload_n X.1.1 X.1.2.1 dX7_silence_103 rfl (lv_at hl 2 rfl) ?_
                  refine lv_iload X.1.1 X.1.2.1 dX7_silence_104 (lv_at hl 1 rfl) ?_
                  obtain ⟨v23, u24, hf, h⟩ := xbd_of h
                  refine x_callVi0 X hG hS (c_X7_picksOf l t _ _ _ _ _ hf) (cwV 1 X.1.2.2.2.2 gX7_silence_X7_picksOf rfl rfl rfl hd_X7_picksOf ⟨Nat.le_of_ble_eq_true rfl, Nat.le_of_ble_eq_true rfl⟩) g1.1.1 g1.1.2 rfl (by decide) (by rfl) hl.1 (Nat.le_of_ble_eq_true rfl) dX7_silence_106 ⟨by decide, by decide⟩ rfl (fun H locs hG hS => ?_)
                  refine lv_aload_n X.1.1 X.1.2.1 dX7_silence_109 rfl (lv_at hl 3 rfl) ?_
                  refine x_geti X hG 9 7 k1 7 (inC := iX5) rfl g1.2.1 g1.2.2 ⟨by decide, by decide, by decide, rfl, rfl⟩ w9 dX7_silence_110 ?_
                  obtain ⟨g25, h⟩ := xgd_of h
                  refine x_icmp_ge (tgt := 125) X g25.1 g25.2 dX7_silence_113 (by decide) (fun c26 => ?_) (fun c26 => ?_)
                  · replace h := xif_t h c26
                    refine lv_iinc (v := (iI (x4_14 + 1))) (lv' := [(4, .int (iI (x4_14 + 1))), (3, .int (iI x3_13)), (0, .ref (t.2.2.1 k0)), (1, .ref (t.2.2.1 k1))]) X.1.1 X.1.2.1 dX7_silence_125 hl (k := 1) rfl (iI_add _ _) (by decide) rfl (fun ls hl => ?_)
                    refine lv_goto (tgt := 77) X.1.1 X.1.2.1 dX7_silence_128 (by decide) ?_
                    exact igo12 _ _ _ _ h rfl _ _ _ hG hS (lv_sub hl [1, 0, 2, 3] rfl)
                  · replace h := xif_f h c26
                    refine lv_aload_n X.1.1 X.1.2.1 dX7_silence_116 rfl (lv_at hl 2 rfl) ?_
                    refine lv_iload X.1.1 X.1.2.1 dX7_silence_117 (lv_at hl 1 rfl) ?_
                    obtain ⟨v27, u28, hf, h⟩ := xbd_of h
                    refine x_callVv0 X hG hS (c_X7_withdraw l t _ _ _ _ _ hf) (cwV 1 X.1.2.2.2.2 gX7_silence_X7_withdraw rfl rfl rfl hd_X7_withdraw ⟨Nat.le_of_ble_eq_true rfl, Nat.le_of_ble_eq_true rfl⟩) g1.1.1 g1.1.2 rfl (by decide) (by rfl) hl.1 (Nat.le_of_ble_eq_true rfl) dX7_silence_119 ⟨by decide, by decide⟩ rfl (fun H locs hG hS => ?_)
                    refine lv_iinc (v := (iI (x3_13 + 1))) (lv' := [(3, .int (iI (x3_13 + 1))), (4, .int (iI x4_14)), (0, .ref (t.2.2.1 k0)), (1, .ref (t.2.2.1 k1))]) X.1.1 X.1.2.1 dX7_silence_122 hl (k := 0) rfl (iI_add _ _) (by decide) rfl (fun ls hl => ?_)
                    refine lv_iinc (v := (iI (x4_14 + 1))) (lv' := [(4, .int (iI (x4_14 + 1))), (3, .int (iI (x3_13 + 1))), (0, .ref (t.2.2.1 k0)), (1, .ref (t.2.2.1 k1))]) X.1.1 X.1.2.1 dX7_silence_125 hl (k := 1) rfl (iI_add _ _) (by decide) rfl (fun ls hl => ?_)
                    refine lv_goto (tgt := 77) X.1.1 X.1.2.1 dX7_silence_128 (by decide) ?_
                    exact igo12 _ _ _ _ h rfl _ _ _ hG hS (lv_sub hl [1, 0, 2, 3] rfl)
          exact Lgo12 FU _ _ _ h _ _ _ hG hS (lv_sub hl [1, 0, 2, 3] rfl)
      have Lgo29 : ∀ (n : Nat) (x3_30 : Int) (u31 : uS), xl2 (s_X7_silence_28 k0 j10 x2) n x3_30 u31 = some (r, u') → xG p l e rX7_silence s m args below meth c t Q 5 0 0 28 u31 [(3, .int (iI x3_30)), (0, .ref (t.2.2.1 k0)), (1, .ref (t.2.2.1 k1)), (2, .int (iI x2))] [] := by
        intro n x3_30 u31 h
        refine xl2_W (F := s_X7_silence_28 k0 j10 x2) (fun x3_30 u31 q => q = (r, u') → xG p l e rX7_silence s m args below meth c t Q 5 0 0 28 u31 [(3, .int (iI x3_30)), (0, .ref (t.2.2.1 k0)), (1, .ref (t.2.2.1 k1)), (2, .int (iI x2))] []) ?_ n x3_30 u31 _ h rfl
        intro go29 igo29 x3_30 u31 q h hq H locs ls hG hS hl
        subst hq
        unfold s_X7_silence_28 at h
        refine lv_iload_n X.1.1 X.1.2.1 dX7_silence_28 rfl (lv_at hl 0 rfl) ?_
        refine lv_aload_n X.1.1 X.1.2.1 dX7_silence_29 rfl (lv_at hl 1 rfl) ?_
        refine x_geti X hG 11 1 k0 1 (inC := iX7) rfl g1.1.1 g1.1.2 ⟨by decide, by decide, by decide, rfl, rfl⟩ w3 dX7_silence_30 ?_
        obtain ⟨g32, h⟩ := xgd_of h
        refine x_icmp_ge (tgt := 72) X g32.1 g32.2 dX7_silence_33 (by decide) (fun c33 => ?_) (fun c33 => ?_)
        · replace h := xif_t h c33
          exact Jj10 _ h _ _ _ hG hS (lv_sub hl [1, 2] rfl)
        · replace h := xif_f h c33
          refine lv_iload_n X.1.1 X.1.2.1 dX7_silence_36 rfl (lv_at hl 0 rfl) ?_
          refine x_bipush X dX7_silence_37 (by decide) ?_
          obtain ⟨g34, h⟩ := xgd_of h
          refine x_icmp_ge (tgt := 72) X g34 ⟨by decide, by decide⟩ dX7_silence_39 (by decide) (fun c35 => ?_) (fun c35 => ?_)
          · replace h := xif_t h c35
            exact Jj10 _ h _ _ _ hG hS (lv_sub hl [1, 2] rfl)
          · replace h := xif_f h c35
            refine lv_aload_n X.1.1 X.1.2.1 dX7_silence_42 rfl (lv_at hl 1 rfl) ?_
            refine x_getr X hG 11 10 k0 8 (inC := iX7) rfl g1.1.1 g1.1.2 ⟨by decide, by decide, by decide, rfl, by decide, by decide⟩ w4 dX7_silence_43 ?_
            refine lv_iload_n X.1.1 X.1.2.1 dX7_silence_46 rfl (lv_at hl 0 rfl) ?_
            obtain ⟨g36, h⟩ := xgd_of h
            refine x_iald X hG (fx_11_10 g1.1).1 (fx_11_10 g1.1).2.1 (n := 60) (fx_11_10 g1.1).2.2 g36 (by decide) dX7_silence_47 ?_
            refine lv_iload_n X.1.1 X.1.2.1 dX7_silence_48 rfl (lv_at hl 3 rfl) ?_
            obtain ⟨g37, h⟩ := xgd_of h
            refine x_icmp_ne (tgt := 66) X g37.1 g37.2 dX7_silence_49 (by decide) (fun c38 => ?_) (fun c38 => ?_)
            · replace h := xif_f h c38
              refine lv_iinc (v := (iI (x3_30 + 1))) (lv' := [(3, .int (iI (x3_30 + 1))), (0, .ref (t.2.2.1 k0)), (1, .ref (t.2.2.1 k1)), (2, .int (iI x2))]) X.1.1 X.1.2.1 dX7_silence_66 hl (k := 0) rfl (iI_add _ _) (by decide) rfl (fun ls hl => ?_)
              refine lv_goto (tgt := 28) X.1.1 X.1.2.1 dX7_silence_69 (by decide) ?_
              exact igo29 _ _ _ h rfl _ _ _ hG hS (lv_sub hl [0, 1, 2, 3] rfl)
            · replace h := xif_t h c38
              refine lv_aload_n X.1.1 X.1.2.1 dX7_silence_52 rfl (lv_at hl 1 rfl) ?_
              refine x_getr X hG 11 14 k0 12 (inC := iX7) rfl g1.1.1 g1.1.2 ⟨by decide, by decide, by decide, rfl, by decide, by decide⟩ w5 dX7_silence_53 ?_
              refine lv_iload_n X.1.1 X.1.2.1 dX7_silence_56 rfl (lv_at hl 0 rfl) ?_
              refine x_iconst X dX7_silence_57 ?_
              obtain ⟨g39, h⟩ := xgd_of h
              refine x_iast X hG hS (fx_11_14 g1.1).1 (fx_11_14 g1.1).2.1 (n := 60) (fx_11_14 g1.1).2.2 g39 (by decide) dX7_silence_58 (fun H locs hG hS => ?_)
              obtain ⟨u40, eu40, h⟩ := xlet_of h
              replace hG : G t u40 H := by rw [eu40]; exact hG
              refine lv_aload_n X.1.1 X.1.2.1 dX7_silence_59 rfl (lv_at hl 1 rfl) ?_
              refine x_getr X hG 11 13 k0 11 (inC := iX7) rfl g1.1.1 g1.1.2 ⟨by decide, by decide, by decide, rfl, by decide, by decide⟩ w6 dX7_silence_60 ?_
              refine lv_iload_n X.1.1 X.1.2.1 dX7_silence_63 rfl (lv_at hl 0 rfl) ?_
              refine x_iconst X dX7_silence_64 ?_
              obtain ⟨g41, h⟩ := xgd_of h
              refine x_iast X hG hS (fx_11_13 g1.1).1 (fx_11_13 g1.1).2.1 (n := 60) (fx_11_13 g1.1).2.2 g41 (by decide) dX7_silence_65 (fun H locs hG hS => ?_)
              obtain ⟨u42, eu42, h⟩ := xlet_of h
              replace hG : G t u42 H := by rw [eu42]; exact hG
              refine lv_iinc (v := (iI (x3_30 + 1))) (lv' := [(3, .int (iI (x3_30 + 1))), (0, .ref (t.2.2.1 k0)), (1, .ref (t.2.2.1 k1)), (2, .int (iI x2))]) X.1.1 X.1.2.1 dX7_silence_66 hl (k := 0) rfl (iI_add _ _) (by decide) rfl (fun ls hl => ?_)
              refine lv_goto (tgt := 28) X.1.1 X.1.2.1 dX7_silence_69 (by decide) ?_
              exact igo29 _ _ _ h rfl _ _ _ hG hS (lv_sub hl [0, 1, 2, 3] rfl)
      exact Lgo29 FU _ _ h _ _ _ hG hS (lv_sub hl [0, 1, 2, 3] rfl)
    · replace h := xif_f h c5
      refine x_iconst X dX7_silence_10 ?_
      cases h
      exact hret _ _ _ _ dX7_silence_11 rfl hG hS
theorem hd_X7_silence : yX7_silence.cls = RX7 ∧ yX7_silence.cls ≠ "java/lang/invoke/MethodHandle" ∧ yX7_silence.cls ≠ "java/lang/invoke/VarHandle" ∧ (parseMethodDescriptor yX7_silence.desc).map (fun d => d.parameters.length) = some 2 := by decide +kernel
