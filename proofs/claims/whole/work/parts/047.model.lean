abbrev rX10_begins : Room := { frames := 0, cells := 0, slots := 0, locals := 0 }
set_option maxRecDepth 100000 in
set_option maxHeartbeats 8000000 in
theorem c_X10_begins (l : Launch) (t : gP) (u : uS) (r : Int) (u' : uS) (h : f_X10_begins u = some (r, u')) : xMv l yX10_begins wsX10_begins rX10_begins t [.ref (t.2.2.1 40)] u u' 0 0 := by
  refine x_ofWv (cc := cX10_begins) (maxL := 2) (own := RX10) (by decide) rfl rfl (Nat.le_of_ble_eq_true rfl) ?_
  intro p e s m args below meth c Q X hret H locs ls hG hS hl
  replace hl : lv_has ls 2 [(0, .ref (t.2.2.1 40))] := hl
  have q40 : 40 < NN ∧ sT 40 = 14 := by decide
  have iX10 : ∀ w ∈ wsX100, w ∈ wsX10_begins := by decide +kernel
  have w2 : Cond.fieldLink RX10 187 "TriggerNetworkModel" "undos" "I" ∈ wsX10_begins := x_w 2 rfl
  have w3 : Cond.fieldLink RX10 51 "TriggerNetworkModel" "isSaved" "[Z" ∈ wsX10_begins := x_w 3 rfl
  have q53 : 53 < NN ∧ sT 53 = 101 ∧ sN 53 = 2 := by decide
  have w1 : Cond.fieldLink RX10 7 "TriggerNetworkModel" "now" "[I" ∈ wsX10_begins := x_w 1 rfl
  have q41 : 41 < NN ∧ sT 41 = 100 ∧ sN 41 = 1167 := by decide
  unfold f_X10_begins at h
  refine x_iconst X dX10_begins_0 ?_
  refine lv_istore_n (lv' := [(1, .int (iI 0)), (0, .ref (t.2.2.1 40))]) X.1.1 X.1.2.1 dX10_begins_1 rfl hl (by decide) rfl (fun ls hl => ?_)
  obtain ⟨j1, ej1, h⟩ := xlet_of h
  have Jj1 : ∀ (u2 : uS), j1 u2 = some (r, u') → xG p l e rX10_begins s m args below meth c t Q 2 0 0 22 u2 [(0, .ref (t.2.2.1 40))] [] := by
      intro u2 h H locs ls hG hS hl
      replace h := (congrFun ej1 u2).symm.trans h
      refine lv_aload_n X.1.1 X.1.2.1 dX10_begins_22 rfl (lv_at hl 0 rfl) ?_
      refine x_iconst X dX10_begins_23 ?_
      refine x_puti X hG hS 14 22 40 22 _ tyX10 tyX10_ok nmX10 (inC := iX10) rfl q40.1 q40.2 ⟨by decide, by decide, by decide, rfl, rfl⟩ rfl (by decide +kernel) w2 dX10_begins_24 (fun H locs hG hS => ?_)
      obtain ⟨u3, eu3, h⟩ := xlet_of h
      replace hG : G t u3 H := by rw [eu3]; exact hG
      refine lv_aload_n X.1.1 X.1.2.1 dX10_begins_27 rfl (lv_at hl 0 rfl) ?_
      refine x_getr X hG 14 25 40 13 (inC := iX10) rfl q40.1 q40.2 ⟨by decide, by decide, by decide, rfl, by decide, by decide⟩ w3 dX10_begins_28 ?_
      refine x_iconst X dX10_begins_31 ?_
      refine x_iconst X dX10_begins_32 ?_
      refine x_zast X hG hS q53.1 q53.2.1 (n := 2) q53.2.2 ⟨by decide, by decide⟩ (by decide) (by decide) dX10_begins_33 (fun H locs hG hS => ?_)
      obtain ⟨u4, eu4, h⟩ := xlet_of h
      replace hG : G t u4 H := by rw [eu4]; exact hG
      refine lv_aload_n X.1.1 X.1.2.1 dX10_begins_34 rfl (lv_at hl 0 rfl) ?_
      refine x_getr X hG 14 25 40 13 (inC := iX10) rfl q40.1 q40.2 ⟨by decide, by decide, by decide, rfl, by decide, by decide⟩ w3 dX10_begins_35 ?_
      refine x_iconst X dX10_begins_38 ?_
      refine x_iconst X dX10_begins_39 ?_
      refine x_zast X hG hS q53.1 q53.2.1 (n := 2) q53.2.2 ⟨by decide, by decide⟩ (by decide) (by decide) dX10_begins_40 (fun H locs hG hS => ?_)
      obtain ⟨u5, eu5, h⟩ := xlet_of h
      replace hG : G t u5 H := by rw [eu5]; exact hG
      cases h
      exact hret _ _ _ _ dX10_begins_41 hG hS
  have Lgo6 : ∀ (n : Nat) (x1_7 : Int) (u8 : uS), xl2 (s_X10_begins_2 j1) n x1_7 u8 = some (r, u') → xG p l e rX10_begins s m args below meth c t Q 2 0 0 2 u8 [(1, .int (iI x1_7)), (0, .ref (t.2.2.1 40))] [] := by
    intro n x1_7 u8 h
    refine xl2_W (F := s_X10_begins_2 j1) (fun x1_7 u8 q => q = (r, u') → xG p l e rX10_begins s m args below meth c t Q 2 0 0 2 u8 [(1, .int (iI x1_7)), (0, .ref (t.2.2.1 40))] []) ?_ n x1_7 u8 _ h rfl
    intro go6 igo6 x1_7 u8 q h hq H locs ls hG hS hl
    subst hq
    unfold s_X10_begins_2 at h
    refine lv_iload_n X.1.1 X.1.2.1 dX10_begins_2 rfl (lv_at hl 0 rfl) ?_
    refine x_sipush X dX10_begins_3 (by decide) ?_
    obtain ⟨g9, h⟩ := xgd_of h
    refine x_icmp_ge (tgt := 22) X g9 ⟨by decide, by decide⟩ dX10_begins_6 (by decide) (fun c10 => ?_) (fun c10 => ?_)
    · replace h := xif_t h c10
      exact Jj1 _ h _ _ _ hG hS (lv_sub hl [1] rfl)
    · replace h := xif_f h c10
      refine lv_aload_n X.1.1 X.1.2.1 dX10_begins_9 rfl (lv_at hl 1 rfl) ?_
      refine x_getr X hG 14 1 40 1 (inC := iX10) rfl q40.1 q40.2 ⟨by decide, by decide, by decide, rfl, by decide, by decide⟩ w1 dX10_begins_10 ?_
      refine lv_iload_n X.1.1 X.1.2.1 dX10_begins_13 rfl (lv_at hl 0 rfl) ?_
      refine x_iconst X dX10_begins_14 ?_
      obtain ⟨g11, h⟩ := xgd_of h
      refine x_iast X hG hS q41.1 q41.2.1 (n := 1167) q41.2.2 g11 (by decide) dX10_begins_15 (fun H locs hG hS => ?_)
      obtain ⟨u12, eu12, h⟩ := xlet_of h
      replace hG : G t u12 H := by rw [eu12]; exact hG
      refine lv_iinc (v := (iI (x1_7 + 1))) (lv' := [(1, .int (iI (x1_7 + 1))), (0, .ref (t.2.2.1 40))]) X.1.1 X.1.2.1 dX10_begins_16 hl (k := 0) rfl (iI_add _ _) (by decide) rfl (fun ls hl => ?_)
      refine lv_goto (tgt := 2) X.1.1 X.1.2.1 dX10_begins_19 (by decide) ?_
      exact igo6 _ _ _ h rfl _ _ _ hG hS (lv_sub hl [0, 1] rfl)
  exact Lgo6 FU _ _ h _ _ _ hG hS (lv_sub hl [0, 1] rfl)
theorem hd_X10_begins : yX10_begins.cls = RX10 ∧ yX10_begins.cls ≠ "java/lang/invoke/MethodHandle" ∧ yX10_begins.cls ≠ "java/lang/invoke/VarHandle" ∧ (parseMethodDescriptor yX10_begins.desc).map (fun d => d.parameters.length) = some 0 := by decide +kernel
abbrev rX10_draft : Room := { frames := 0, cells := 0, slots := 0, locals := 0 }
set_option maxRecDepth 100000 in
set_option maxHeartbeats 8000000 in
theorem c_X10_draft (l : Launch) (t : gP) (x1 : Int) (x2 : Int) (u : uS) (r : Int) (u' : uS) (h : f_X10_draft x1 x2 u = some (r, u')) : xMv l yX10_draft wsX10_draft rX10_draft t [.ref (t.2.2.1 40), .int (iI x1), .int (iI x2)] u u' 0 0 := by
  refine x_ofWv (cc := cX10_draft) (maxL := 3) (own := RX10) (by decide) rfl rfl (Nat.le_of_ble_eq_true rfl) ?_
  intro p e s m args below meth c Q X hret H locs ls hG hS hl
  replace hl : lv_has ls 3 [(0, .ref (t.2.2.1 40)), (1, .int (iI x1)), (2, .int (iI x2))] := hl
  have q40 : 40 < NN ∧ sT 40 = 14 := by decide
  have iX10 : ∀ w ∈ wsX100, w ∈ wsX10_draft := by decide +kernel
  have w1 : Cond.fieldLink RX10 13 "TriggerNetworkModel" "told" "[I" ∈ wsX10_draft := x_w 1 rfl
  have q42 : 42 < NN ∧ sT 42 = 100 ∧ sN 42 = 30 := by decide
  unfold f_X10_draft at h
  refine lv_aload_n X.1.1 X.1.2.1 dX10_draft_0 rfl (lv_at hl 0 rfl) ?_
  refine x_getr X hG 14 2 40 2 (inC := iX10) rfl q40.1 q40.2 ⟨by decide, by decide, by decide, rfl, by decide, by decide⟩ w1 dX10_draft_1 ?_
  refine x_bipush X dX10_draft_4 (by decide) ?_
  refine lv_iload_n X.1.1 X.1.2.1 dX10_draft_6 rfl (lv_at hl 1 rfl) ?_
  refine x_iadd X dX10_draft_7 ?_
  refine lv_iload_n X.1.1 X.1.2.1 dX10_draft_8 rfl (lv_at hl 2 rfl) ?_
  obtain ⟨g1, h⟩ := xgd_of h
  refine x_iast X hG hS q42.1 q42.2.1 (n := 30) q42.2.2 g1 (by decide) dX10_draft_9 (fun H locs hG hS => ?_)
  obtain ⟨u2, eu2, h⟩ := xlet_of h
  replace hG : G t u2 H := by rw [eu2]; exact hG
  cases h
  exact hret _ _ _ _ dX10_draft_10 hG hS
theorem hd_X10_draft : yX10_draft.cls = RX10 ∧ yX10_draft.cls ≠ "java/lang/invoke/MethodHandle" ∧ yX10_draft.cls ≠ "java/lang/invoke/VarHandle" ∧ (parseMethodDescriptor yX10_draft.desc).map (fun d => d.parameters.length) = some 2 := by decide +kernel
abbrev rX10_clearDraft : Room := { frames := 1, cells := 0, slots := 0, locals := 22 }
set_option maxRecDepth 100000 in
set_option maxHeartbeats 8000000 in
theorem c_X10_clearDraft (l : Launch) (t : gP) (u : uS) (r : Int) (u' : uS) (h : f_X10_clearDraft u = some (r, u')) : xMv l yX10_clearDraft wsX10_clearDraft rX10_clearDraft t [.ref (t.2.2.1 40)] u u' 0 0 := by
  refine x_ofWv (cc := cX10_clearDraft) (maxL := 1) (own := RX10) (by decide) rfl rfl (Nat.le_of_ble_eq_true rfl) ?_
  intro p e s m args below meth c Q X hret H locs ls hG hS hl
  replace hl : lv_has ls 1 [(0, .ref (t.2.2.1 40))] := hl
  have q40 : 40 < NN ∧ sT 40 = 14 := by decide
  unfold f_X10_clearDraft at h
  refine lv_aload_n X.1.1 X.1.2.1 dX10_clearDraft_0 rfl (lv_at hl 0 rfl) ?_
  refine x_iconst X dX10_clearDraft_1 ?_
  refine x_iconst X dX10_clearDraft_2 ?_
  obtain ⟨v1, u2, hf, h⟩ := xbd_of h
  refine x_callVv0 X hG hS (c_X10_draft l t _ _ _ _ _ hf) (cwV 2 X.1.2.2.2.2 gX10_clearDraft_X10_draft rfl rfl rfl hd_X10_draft ⟨Nat.le_of_ble_eq_true rfl, Nat.le_of_ble_eq_true rfl⟩) q40.1 q40.2 rfl (by decide) (by rfl) hl.1 (Nat.le_of_ble_eq_true rfl) dX10_clearDraft_3 ⟨by decide, by decide⟩ rfl (fun H locs hG hS => ?_)
  refine lv_aload_n X.1.1 X.1.2.1 dX10_clearDraft_6 rfl (lv_at hl 0 rfl) ?_
  refine x_iconst X dX10_clearDraft_7 ?_
  refine x_iconst X dX10_clearDraft_8 ?_
  obtain ⟨v3, u4, hf, h⟩ := xbd_of h
  refine x_callVv0 X hG hS (c_X10_draft l t _ _ _ _ _ hf) (cwV 2 X.1.2.2.2.2 gX10_clearDraft_X10_draft rfl rfl rfl hd_X10_draft ⟨Nat.le_of_ble_eq_true rfl, Nat.le_of_ble_eq_true rfl⟩) q40.1 q40.2 rfl (by decide) (by rfl) hl.1 (Nat.le_of_ble_eq_true rfl) dX10_clearDraft_9 ⟨by decide, by decide⟩ rfl (fun H locs hG hS => ?_)
  refine lv_aload_n X.1.1 X.1.2.1 dX10_clearDraft_12 rfl (lv_at hl 0 rfl) ?_
  refine x_iconst X dX10_clearDraft_13 ?_
  refine x_iconst X dX10_clearDraft_14 ?_
  obtain ⟨v5, u6, hf, h⟩ := xbd_of h
  refine x_callVv0 X hG hS (c_X10_draft l t _ _ _ _ _ hf) (cwV 2 X.1.2.2.2.2 gX10_clearDraft_X10_draft rfl rfl rfl hd_X10_draft ⟨Nat.le_of_ble_eq_true rfl, Nat.le_of_ble_eq_true rfl⟩) q40.1 q40.2 rfl (by decide) (by rfl) hl.1 (Nat.le_of_ble_eq_true rfl) dX10_clearDraft_15 ⟨by decide, by decide⟩ rfl (fun H locs hG hS => ?_)
  refine lv_aload_n X.1.1 X.1.2.1 dX10_clearDraft_18 rfl (lv_at hl 0 rfl) ?_
  refine x_iconst X dX10_clearDraft_19 ?_
  refine x_iconst X dX10_clearDraft_20 ?_
  obtain ⟨v7, u8, hf, h⟩ := xbd_of h
  refine x_callVv0 X hG hS (c_X10_draft l t _ _ _ _ _ hf) (cwV 2 X.1.2.2.2.2 gX10_clearDraft_X10_draft rfl rfl rfl hd_X10_draft ⟨Nat.le_of_ble_eq_true rfl, Nat.le_of_ble_eq_true rfl⟩) q40.1 q40.2 rfl (by decide) (by rfl) hl.1 (Nat.le_of_ble_eq_true rfl) dX10_clearDraft_21 ⟨by decide, by decide⟩ rfl (fun H locs hG hS => ?_)
  refine lv_aload_n X.1.1 X.1.2.1 dX10_clearDraft_24 rfl (lv_at hl 0 rfl) ?_
  refine x_iconst X dX10_clearDraft_25 ?_
  refine x_iconst X dX10_clearDraft_26 ?_
  obtain ⟨v9, u10, hf, h⟩ := xbd_of h
  refine x_callVv0 X hG hS (c_X10_draft l t _ _ _ _ _ hf) (cwV 2 X.1.2.2.2.2 gX10_clearDraft_X10_draft rfl rfl rfl hd_X10_draft ⟨Nat.le_of_ble_eq_true rfl, Nat.le_of_ble_eq_true rfl⟩) q40.1 q40.2 rfl (by decide) (by rfl) hl.1 (Nat.le_of_ble_eq_true rfl) dX10_clearDraft_27 ⟨by decide, by decide⟩ rfl (fun H locs hG hS => ?_)
  refine lv_aload_n X.1.1 X.1.2.1 dX10_clearDraft_30 rfl (lv_at hl 0 rfl) ?_
  refine x_iconst X dX10_clearDraft_31 ?_
  refine x_iconst X dX10_clearDraft_32 ?_
  obtain ⟨v11, u12, hf, h⟩ := xbd_of h
  refine x_callVv0 X hG hS (c_X10_draft l t _ _ _ _ _ hf) (cwV 2 X.1.2.2.2.2 gX10_clearDraft_X10_draft rfl rfl rfl hd_X10_draft ⟨Nat.le_of_ble_eq_true rfl, Nat.le_of_ble_eq_true rfl⟩) q40.1 q40.2 rfl (by decide) (by rfl) hl.1 (Nat.le_of_ble_eq_true rfl) dX10_clearDraft_33 ⟨by decide, by decide⟩ rfl (fun H locs hG hS => ?_)
  refine lv_aload_n X.1.1 X.1.2.1 dX10_clearDraft_36 rfl (lv_at hl 0 rfl) ?_
  refine x_bipush X dX10_clearDraft_37 (by decide) ?_
  refine x_bipush X dX10_clearDraft_39 (by decide) ?_
  obtain ⟨v13, u14, hf, h⟩ := xbd_of h
  refine x_callVv0 X hG hS (c_X10_draft l t _ _ _ _ _ hf) (cwV 2 X.1.2.2.2.2 gX10_clearDraft_X10_draft rfl rfl rfl hd_X10_draft ⟨Nat.le_of_ble_eq_true rfl, Nat.le_of_ble_eq_true rfl⟩) q40.1 q40.2 rfl (by decide) (by rfl) hl.1 (Nat.le_of_ble_eq_true rfl) dX10_clearDraft_41 ⟨by decide, by decide⟩ rfl (fun H locs hG hS => ?_)
  refine lv_aload_n X.1.1 X.1.2.1 dX10_clearDraft_44 rfl (lv_at hl 0 rfl) ?_
  refine x_bipush X dX10_clearDraft_45 (by decide) ?_
  refine x_bipush X dX10_clearDraft_47 (by decide) ?_
  obtain ⟨v15, u16, hf, h⟩ := xbd_of h
  refine x_callVv0 X hG hS (c_X10_draft l t _ _ _ _ _ hf) (cwV 2 X.1.2.2.2.2 gX10_clearDraft_X10_draft rfl rfl rfl hd_X10_draft ⟨Nat.le_of_ble_eq_true rfl, Nat.le_of_ble_eq_true rfl⟩) q40.1 q40.2 rfl (by decide) (by rfl) hl.1 (Nat.le_of_ble_eq_true rfl) dX10_clearDraft_49 ⟨by decide, by decide⟩ rfl (fun H locs hG hS => ?_)
  refine lv_aload_n X.1.1 X.1.2.1 dX10_clearDraft_52 rfl (lv_at hl 0 rfl) ?_
  refine x_bipush X dX10_clearDraft_53 (by decide) ?_
  refine x_iconst X dX10_clearDraft_55 ?_
  obtain ⟨v17, u18, hf, h⟩ := xbd_of h
  refine x_callVv0 X hG hS (c_X10_draft l t _ _ _ _ _ hf) (cwV 2 X.1.2.2.2.2 gX10_clearDraft_X10_draft rfl rfl rfl hd_X10_draft ⟨Nat.le_of_ble_eq_true rfl, Nat.le_of_ble_eq_true rfl⟩) q40.1 q40.2 rfl (by decide) (by rfl) hl.1 (Nat.le_of_ble_eq_true rfl) dX10_clearDraft_56 ⟨by decide, by decide⟩ rfl (fun H locs hG hS => ?_)
  refine lv_aload_n X.1.1 X.1.2.1 dX10_clearDraft_59 rfl (lv_at hl 0 rfl) ?_
  refine x_bipush X dX10_clearDraft_60 (by decide) ?_
  refine x_bipush X dX10_clearDraft_62 (by decide) ?_
  obtain ⟨v19, u20, hf, h⟩ := xbd_of h
  refine x_callVv0 X hG hS (c_X10_draft l t _ _ _ _ _ hf) (cwV 2 X.1.2.2.2.2 gX10_clearDraft_X10_draft rfl rfl rfl hd_X10_draft ⟨Nat.le_of_ble_eq_true rfl, Nat.le_of_ble_eq_true rfl⟩) q40.1 q40.2 rfl (by decide) (by rfl) hl.1 (Nat.le_of_ble_eq_true rfl) dX10_clearDraft_64 ⟨by decide, by decide⟩ rfl (fun H locs hG hS => ?_)
  refine lv_aload_n X.1.1 X.1.2.1 dX10_clearDraft_67 rfl (lv_at hl 0 rfl) ?_
  refine x_bipush X dX10_clearDraft_68 (by decide) ?_
  refine x_sipush X dX10_clearDraft_70 (by decide) ?_
  obtain ⟨v21, u22, hf, h⟩ := xbd_of h
  refine x_callVv0 X hG hS (c_X10_draft l t _ _ _ _ _ hf) (cwV 2 X.1.2.2.2.2 gX10_clearDraft_X10_draft rfl rfl rfl hd_X10_draft ⟨Nat.le_of_ble_eq_true rfl, Nat.le_of_ble_eq_true rfl⟩) q40.1 q40.2 rfl (by decide) (by rfl) hl.1 (Nat.le_of_ble_eq_true rfl) dX10_clearDraft_73 ⟨by decide, by decide⟩ rfl (fun H locs hG hS => ?_)
  refine lv_aload_n X.1.1 X.1.2.1 dX10_clearDraft_76 rfl (lv_at hl 0 rfl) ?_
  refine x_bipush X dX10_clearDraft_77 (by decide) ?_
  refine x_sipush X dX10_clearDraft_79 (by decide) ?_
  obtain ⟨v23, u24, hf, h⟩ := xbd_of h
  refine x_callVv0 X hG hS (c_X10_draft l t _ _ _ _ _ hf) (cwV 2 X.1.2.2.2.2 gX10_clearDraft_X10_draft rfl rfl rfl hd_X10_draft ⟨Nat.le_of_ble_eq_true rfl, Nat.le_of_ble_eq_true rfl⟩) q40.1 q40.2 rfl (by decide) (by rfl) hl.1 (Nat.le_of_ble_eq_true rfl) dX10_clearDraft_82 ⟨by decide, by decide⟩ rfl (fun H locs hG hS => ?_)
  refine lv_aload_n X.1.1 X.1.2.1 dX10_clearDraft_85 rfl (lv_at hl 0 rfl) ?_
  refine x_bipush X dX10_clearDraft_86 (by decide) ?_
  refine x_iconst X dX10_clearDraft_88 ?_
  obtain ⟨v25, u26, hf, h⟩ := xbd_of h
  refine x_callVv0 X hG hS (c_X10_draft l t _ _ _ _ _ hf) (cwV 2 X.1.2.2.2.2 gX10_clearDraft_X10_draft rfl rfl rfl hd_X10_draft ⟨Nat.le_of_ble_eq_true rfl, Nat.le_of_ble_eq_true rfl⟩) q40.1 q40.2 rfl (by decide) (by rfl) hl.1 (Nat.le_of_ble_eq_true rfl) dX10_clearDraft_89 ⟨by decide, by decide⟩ rfl (fun H locs hG hS => ?_)
  refine lv_aload_n X.1.1 X.1.2.1 dX10_clearDraft_92 rfl (lv_at hl 0 rfl) ?_
  refine x_bipush X dX10_clearDraft_93 (by decide) ?_
  refine x_iconst X dX10_clearDraft_95 ?_
  obtain ⟨v27, u28, hf, h⟩ := xbd_of h
  refine x_callVv0 X hG hS (c_X10_draft l t _ _ _ _ _ hf) (cwV 2 X.1.2.2.2.2 gX10_clearDraft_X10_draft rfl rfl rfl hd_X10_draft ⟨Nat.le_of_ble_eq_true rfl, Nat.le_of_ble_eq_true rfl⟩) q40.1 q40.2 rfl (by decide) (by rfl) hl.1 (Nat.le_of_ble_eq_true rfl) dX10_clearDraft_96 ⟨by decide, by decide⟩ rfl (fun H locs hG hS => ?_)
  refine lv_aload_n X.1.1 X.1.2.1 dX10_clearDraft_99 rfl (lv_at hl 0 rfl) ?_
  refine x_bipush X dX10_clearDraft_100 (by decide) ?_
  refine x_iconst X dX10_clearDraft_102 ?_
  obtain ⟨v29, u30, hf, h⟩ := xbd_of h
  refine x_callVv0 X hG hS (c_X10_draft l t _ _ _ _ _ hf) (cwV 2 X.1.2.2.2.2 gX10_clearDraft_X10_draft rfl rfl rfl hd_X10_draft ⟨Nat.le_of_ble_eq_true rfl, Nat.le_of_ble_eq_true rfl⟩) q40.1 q40.2 rfl (by decide) (by rfl) hl.1 (Nat.le_of_ble_eq_true rfl) dX10_clearDraft_103 ⟨by decide, by decide⟩ rfl (fun H locs hG hS => ?_)
  cases h
  exact hret _ _ _ _ dX10_clearDraft_106 hG hS
theorem hd_X10_clearDraft : yX10_clearDraft.cls = RX10 ∧ yX10_clearDraft.cls ≠ "java/lang/invoke/MethodHandle" ∧ yX10_clearDraft.cls ≠ "java/lang/invoke/VarHandle" ∧ (parseMethodDescriptor yX10_clearDraft.desc).map (fun d => d.parameters.length) = some 0 := by decide +kernel
abbrev rX10_lifts : Room := { frames := 0, cells := 0, slots := 0, locals := 0 }
set_option maxRecDepth 100000 in
set_option maxHeartbeats 8000000 in
theorem c_X10_lifts (l : Launch) (t : gP) (k0 : Nat) (u : uS) (r : Int) (u' : uS) (h : f_X10_lifts k0 u = some (r, u')) : xMv l yX10_lifts wsX10_lifts rX10_lifts t [.ref (t.2.2.1 k0)] u u' 0 0 := by
  refine x_ofWv (cc := cX10_lifts) (maxL := 2) (own := RX10) (by decide) rfl rfl (Nat.le_of_ble_eq_true rfl) ?_
  intro p e s m args below meth c Q X hret H locs ls hG hS hl
  replace hl : lv_has ls 2 [(0, .ref (t.2.2.1 k0))] := hl
  unfold f_X10_lifts at h
  obtain ⟨g1, h⟩ := xgd_of h
  refine x_iconst X dX10_lifts_0 ?_
  refine lv_istore_n (lv' := [(1, .int (iI 0)), (0, .ref (t.2.2.1 k0))]) X.1.1 X.1.2.1 dX10_lifts_1 rfl hl (by decide) rfl (fun ls hl => ?_)
  have Lgo2 : ∀ (n : Nat) (x1_3 : Int) (u4 : uS), xl2 (s_X10_lifts_2 k0) n x1_3 u4 = some (r, u') → xG p l e rX10_lifts s m args below meth c t Q 2 0 0 2 u4 [(1, .int (iI x1_3)), (0, .ref (t.2.2.1 k0))] [] := by
    intro n x1_3 u4 h
    refine xl2_W (F := s_X10_lifts_2 k0) (fun x1_3 u4 q => q = (r, u') → xG p l e rX10_lifts s m args below meth c t Q 2 0 0 2 u4 [(1, .int (iI x1_3)), (0, .ref (t.2.2.1 k0))] []) ?_ n x1_3 u4 _ h rfl
    intro go2 igo2 x1_3 u4 q h hq H locs ls hG hS hl
    subst hq
    unfold s_X10_lifts_2 at h
    refine lv_iload_n X.1.1 X.1.2.1 dX10_lifts_2 rfl (lv_at hl 0 rfl) ?_
    refine lv_aload_n X.1.1 X.1.2.1 dX10_lifts_3 rfl (lv_at hl 1 rfl) ?_
    refine x_alen X hG (arr_f g1).1 (arr_f g1).2.1 (arr_f g1).2.2 dX10_lifts_4 ?_
    refine x_iconst X dX10_lifts_5 ?_
    obtain ⟨g5, h⟩ := xgd_of h
    refine x_idiv X g5 ⟨by decide, by decide⟩ (by decide) dX10_lifts_6 ?_
    obtain ⟨g6, h⟩ := xgd_of h
    refine x_icmp_ge (tgt := 27) X g6.1 g6.2 dX10_lifts_7 (by decide) (fun c7 => ?_) (fun c7 => ?_)
    · replace h := xif_t h c7
      cases h
      exact hret _ _ _ _ dX10_lifts_27 hG hS
    · replace h := xif_f h c7
      refine lv_aload_n X.1.1 X.1.2.1 dX10_lifts_10 rfl (lv_at hl 1 rfl) ?_
      refine lv_iload_n X.1.1 X.1.2.1 dX10_lifts_11 rfl (lv_at hl 0 rfl) ?_
      refine lv_aload_n X.1.1 X.1.2.1 dX10_lifts_12 rfl (lv_at hl 1 rfl) ?_
      refine lv_aload_n X.1.1 X.1.2.1 dX10_lifts_13 rfl (lv_at hl 1 rfl) ?_
      refine x_alen X hG (arr_f g1).1 (arr_f g1).2.1 (arr_f g1).2.2 dX10_lifts_14 ?_
      refine x_iconst X dX10_lifts_15 ?_
      obtain ⟨g8, h⟩ := xgd_of h
      refine x_idiv X g8 ⟨by decide, by decide⟩ (by decide) dX10_lifts_16 ?_
      refine lv_iload_n X.1.1 X.1.2.1 dX10_lifts_17 rfl (lv_at hl 0 rfl) ?_
      refine x_iadd X dX10_lifts_18 ?_
      obtain ⟨g9, h⟩ := xgd_of h
      refine x_iald X hG (arr_f g1).1 (arr_f g1).2.1 (arr_f g1).2.2 g9 (sN_lt _) dX10_lifts_19 ?_
      obtain ⟨g10, h⟩ := xgd_of h
      refine x_iast X hG hS (arr_f g1).1 (arr_f g1).2.1 (arr_f g1).2.2 g10 (sN_lt _) dX10_lifts_20 (fun H locs hG hS => ?_)
      obtain ⟨u11, eu11, h⟩ := xlet_of h
      replace hG : G t u11 H := by rw [eu11]; exact hG
      refine lv_iinc (v := (iI (x1_3 + 1))) (lv' := [(1, .int (iI (x1_3 + 1))), (0, .ref (t.2.2.1 k0))]) X.1.1 X.1.2.1 dX10_lifts_21 hl (k := 0) rfl (iI_add _ _) (by decide) rfl (fun ls hl => ?_)
      refine lv_goto (tgt := 2) X.1.1 X.1.2.1 dX10_lifts_24 (by decide) ?_
      exact igo2 _ _ _ h rfl _ _ _ hG hS (lv_sub hl [0, 1] rfl)
  exact Lgo2 FU _ _ h _ _ _ hG hS (lv_sub hl [0, 1] rfl)
theorem hds_X10_lifts : yX10_lifts.cls ≠ "java/lang/invoke/MethodHandle" ∧ yX10_lifts.cls ≠ "java/lang/invoke/VarHandle" ∧ (parseMethodDescriptor yX10_lifts.desc).map (fun d => d.parameters.length) = some 1 := by decide +kernel
abbrev rX10_liftsAll : Room := { frames := 1, cells := 0, slots := 0, locals := 21 }
set_option maxRecDepth 100000 in
set_option maxHeartbeats 8000000 in
theorem c_X10_liftsAll (l : Launch) (t : gP) (u : uS) (r : Int) (u' : uS) (h : f_X10_liftsAll u = some (r, u')) : xMv l yX10_liftsAll wsX10_liftsAll rX10_liftsAll t [.ref (t.2.2.1 40)] u u' 0 0 := by
  refine x_ofWv (cc := cX10_liftsAll) (maxL := 1) (own := RX10) (by decide) rfl rfl (Nat.le_of_ble_eq_true rfl) ?_
  intro p e s m args below meth c Q X hret H locs ls hG hS hl
  replace hl : lv_has ls 1 [(0, .ref (t.2.2.1 40))] := hl
  have q40 : 40 < NN ∧ sT 40 = 14 := by decide
  have iX10 : ∀ w ∈ wsX100, w ∈ wsX10_liftsAll := by decide +kernel
  have w1 : Cond.fieldLink RX10 13 "TriggerNetworkModel" "told" "[I" ∈ wsX10_liftsAll := x_w 1 rfl
  have q42 : 42 < NN ∧ sT 42 = 100 ∧ sN 42 = 30 := by decide
  have w2 : Cond.fieldLink RX10 16 "TriggerNetworkModel" "xs" "[I" ∈ wsX10_liftsAll := x_w 2 rfl
  have q43 : 43 < NN ∧ sT 43 = 100 ∧ sN 43 = 16 := by decide
  have w3 : Cond.fieldLink RX10 19 "TriggerNetworkModel" "ys" "[I" ∈ wsX10_liftsAll := x_w 3 rfl
  have q44 : 44 < NN ∧ sT 44 = 100 ∧ sN 44 = 16 := by decide
  have w4 : Cond.fieldLink RX10 22 "TriggerNetworkModel" "amplitude" "[I" ∈ wsX10_liftsAll := x_w 4 rfl
  have q45 : 45 < NN ∧ sT 45 = 100 ∧ sN 45 = 16 := by decide
  have w5 : Cond.fieldLink RX10 25 "TriggerNetworkModel" "magnitude" "[I" ∈ wsX10_liftsAll := x_w 5 rfl
  have q46 : 46 < NN ∧ sT 46 = 100 ∧ sN 46 = 16 := by decide
  unfold f_X10_liftsAll at h
  refine lv_aload_n X.1.1 X.1.2.1 dX10_liftsAll_0 rfl (lv_at hl 0 rfl) ?_
  refine x_getr X hG 14 2 40 2 (inC := iX10) rfl q40.1 q40.2 ⟨by decide, by decide, by decide, rfl, by decide, by decide⟩ w1 dX10_liftsAll_1 ?_
  obtain ⟨v1, u2, hf, h⟩ := xbd_of h
  refine x_callSv0 X hG hS (c_X10_lifts l t _ _ _ _ hf) (va_cwS 1 X.1.2.2.2.2 gX10_liftsAll_X10_lifts rfl rfl rfl hds_X10_lifts ⟨Nat.le_of_ble_eq_true rfl, Nat.le_of_ble_eq_true rfl⟩) (by rfl) hl.1 (Nat.le_of_ble_eq_true rfl) dX10_liftsAll_4 ⟨by decide, by decide⟩ rfl (fun H locs hG hS => ?_)
  refine lv_aload_n X.1.1 X.1.2.1 dX10_liftsAll_7 rfl (lv_at hl 0 rfl) ?_
  refine x_getr X hG 14 3 40 3 (inC := iX10) rfl q40.1 q40.2 ⟨by decide, by decide, by decide, rfl, by decide, by decide⟩ w2 dX10_liftsAll_8 ?_
  obtain ⟨v3, u4, hf, h⟩ := xbd_of h
  refine x_callSv0 X hG hS (c_X10_lifts l t _ _ _ _ hf) (va_cwS 1 X.1.2.2.2.2 gX10_liftsAll_X10_lifts rfl rfl rfl hds_X10_lifts ⟨Nat.le_of_ble_eq_true rfl, Nat.le_of_ble_eq_true rfl⟩) (by rfl) hl.1 (Nat.le_of_ble_eq_true rfl) dX10_liftsAll_11 ⟨by decide, by decide⟩ rfl (fun H locs hG hS => ?_)
  refine lv_aload_n X.1.1 X.1.2.1 dX10_liftsAll_14 rfl (lv_at hl 0 rfl) ?_
  refine x_getr X hG 14 4 40 4 (inC := iX10) rfl q40.1 q40.2 ⟨by decide, by decide, by decide, rfl, by decide, by decide⟩ w3 dX10_liftsAll_15 ?_
  obtain ⟨v5, u6, hf, h⟩ := xbd_of h
  refine x_callSv0 X hG hS (c_X10_lifts l t _ _ _ _ hf) (va_cwS 1 X.1.2.2.2.2 gX10_liftsAll_X10_lifts rfl rfl rfl hds_X10_lifts ⟨Nat.le_of_ble_eq_true rfl, Nat.le_of_ble_eq_true rfl⟩) (by rfl) hl.1 (Nat.le_of_ble_eq_true rfl) dX10_liftsAll_18 ⟨by decide, by decide⟩ rfl (fun H locs hG hS => ?_)
  refine lv_aload_n X.1.1 X.1.2.1 dX10_liftsAll_21 rfl (lv_at hl 0 rfl) ?_
  refine x_getr X hG 14 5 40 5 (inC := iX10) rfl q40.1 q40.2 ⟨by decide, by decide, by decide, rfl, by decide, by decide⟩ w4 dX10_liftsAll_22 ?_
  obtain ⟨v7, u8, hf, h⟩ := xbd_of h
  refine x_callSv0 X hG hS (c_X10_lifts l t _ _ _ _ hf) (va_cwS 1 X.1.2.2.2.2 gX10_liftsAll_X10_lifts rfl rfl rfl hds_X10_lifts ⟨Nat.le_of_ble_eq_true rfl, Nat.le_of_ble_eq_true rfl⟩) (by rfl) hl.1 (Nat.le_of_ble_eq_true rfl) dX10_liftsAll_25 ⟨by decide, by decide⟩ rfl (fun H locs hG hS => ?_)
  refine lv_aload_n X.1.1 X.1.2.1 dX10_liftsAll_28 rfl (lv_at hl 0 rfl) ?_
  refine x_getr X hG 14 6 40 6 (inC := iX10) rfl q40.1 q40.2 ⟨by decide, by decide, by decide, rfl, by decide, by decide⟩ w5 dX10_liftsAll_29 ?_
  obtain ⟨v9, u10, hf, h⟩ := xbd_of h
  refine x_callSv0 X hG hS (c_X10_lifts l t _ _ _ _ hf) (va_cwS 1 X.1.2.2.2.2 gX10_liftsAll_X10_lifts rfl rfl rfl hds_X10_lifts ⟨Nat.le_of_ble_eq_true rfl, Nat.le_of_ble_eq_true rfl⟩) (by rfl) hl.1 (Nat.le_of_ble_eq_true rfl) dX10_liftsAll_32 ⟨by decide, by decide⟩ rfl (fun H locs hG hS => ?_)
  cases h
  exact hret _ _ _ _ dX10_liftsAll_35 hG hS
theorem hd_X10_liftsAll : yX10_liftsAll.cls = RX10 ∧ yX10_liftsAll.cls ≠ "java/lang/invoke/MethodHandle" ∧ yX10_liftsAll.cls ≠ "java/lang/invoke/VarHandle" ∧ (parseMethodDescriptor yX10_liftsAll.desc).map (fun d => d.parameters.length) = some 0 := by decide +kernel
abbrev rX10_thrown : Room := { frames := 0, cells := 0, slots := 0, locals := 0 }
set_option maxRecDepth 100000 in
set_option maxHeartbeats 8000000 in
theorem c_X10_thrown (l : Launch) (t : gP) (u : uS) (r : Int) (u' : uS) (h : f_X10_thrown u = some (r, u')) : xMi l yX10_thrown wsX10_thrown rX10_thrown t [.ref (t.2.2.1 40)] u r u' 0 0 := by
  refine x_ofWi (cc := cX10_thrown) (maxL := 1) (ret := .int) (own := RX10) (by decide) rfl rfl (Nat.le_of_ble_eq_true rfl) ?_
  intro p e s m args below meth c Q X hret H locs ls hG hS hl
  replace hl : lv_has ls 1 [(0, .ref (t.2.2.1 40))] := hl
  have q40 : 40 < NN ∧ sT 40 = 14 := by decide
  have iX10 : ∀ w ∈ wsX100, w ∈ wsX10_thrown := by decide +kernel
  have w1 : Cond.fieldLink RX10 64 "TriggerNetworkModel" "thrown" "I" ∈ wsX10_thrown := x_w 1 rfl
  unfold f_X10_thrown at h
  refine lv_aload_n X.1.1 X.1.2.1 dX10_thrown_0 rfl (lv_at hl 0 rfl) ?_
  refine x_geti X hG 14 0 40 0 (inC := iX10) rfl q40.1 q40.2 ⟨by decide, by decide, by decide, rfl, rfl⟩ w1 dX10_thrown_1 ?_
  cases h
  exact hret _ _ _ _ dX10_thrown_4 rfl hG hS
theorem hd_X10_thrown : yX10_thrown.cls = RX10 ∧ yX10_thrown.cls ≠ "java/lang/invoke/MethodHandle" ∧ yX10_thrown.cls ≠ "java/lang/invoke/VarHandle" ∧ (parseMethodDescriptor yX10_thrown.desc).map (fun d => d.parameters.length) = some 0 := by decide +kernel
abbrev rX10_within : Room := { frames := 0, cells := 0, slots := 0, locals := 0 }
set_option maxRecDepth 100000 in
set_option maxHeartbeats 8000000 in
theorem c_X10_within (l : Launch) (t : gP) (x0 : Int) (x1 : Int) (x2 : Int) (u : uS) (r : Int) (u' : uS) (h : f_X10_within x0 x1 x2 u = some (r, u')) : xMi l yX10_within wsX10_within rX10_within t [.int (iI x0), .int (iI x1), .int (iI x2)] u r u' 0 0 := by
  refine x_ofWi (cc := cX10_within) (maxL := 3) (ret := .boolean) (own := RX10) (by decide) rfl rfl (Nat.le_of_ble_eq_true rfl) ?_
  intro p e s m args below meth c Q X hret H locs ls hG hS hl
  replace hl : lv_has ls 3 [(0, .int (iI x0)), (1, .int (iI x1)), (2, .int (iI x2))] := hl
  unfold f_X10_within at h
  refine lv_iload_n X.1.1 X.1.2.1 dX10_within_0 rfl (lv_at hl 0 rfl) ?_
  refine lv_iload_n X.1.1 X.1.2.1 dX10_within_1 rfl (lv_at hl 1 rfl) ?_
  obtain ⟨g1, h⟩ := xgd_of h
  refine x_icmp_lt (tgt := 14) X g1.1 g1.2 dX10_within_2 (by decide) (fun c2 => ?_) (fun c2 => ?_)
  · replace h := xif_t h c2
    refine x_iconst X dX10_within_14 ?_
    cases h
    exact hret _ _ _ _ dX10_within_15 (by decide) hG hS
  · replace h := xif_f h c2
    refine lv_iload_n X.1.1 X.1.2.1 dX10_within_5 rfl (lv_at hl 0 rfl) ?_
    refine lv_iload_n X.1.1 X.1.2.1 dX10_within_6 rfl (lv_at hl 2 rfl) ?_
    obtain ⟨g3, h⟩ := xgd_of h
    refine x_icmp_gt (tgt := 14) X g3.1 g3.2 dX10_within_7 (by decide) (fun c4 => ?_) (fun c4 => ?_)
    · replace h := xif_t h c4
      refine x_iconst X dX10_within_14 ?_
      cases h
      exact hret _ _ _ _ dX10_within_15 (by decide) hG hS
    · replace h := xif_f h c4
      refine x_iconst X dX10_within_10 ?_
      refine lv_goto (tgt := 15) X.1.1 X.1.2.1 dX10_within_11 (by decide) ?_
      cases h
      exact hret _ _ _ _ dX10_within_15 (by decide) hG hS
theorem hds_X10_within : yX10_within.cls ≠ "java/lang/invoke/MethodHandle" ∧ yX10_within.cls ≠ "java/lang/invoke/VarHandle" ∧ (parseMethodDescriptor yX10_within.desc).map (fun d => d.parameters.length) = some 3 := by decide +kernel
abbrev rX10_throwsIf : Room := { frames := 0, cells := 0, slots := 0, locals := 0 }
set_option maxRecDepth 100000 in
set_option maxHeartbeats 8000000 in
theorem c_X10_throwsIf (l : Launch) (t : gP) (x1 : Int) (x2 : Int) (u : uS) (r : Int) (u' : uS) (h : f_X10_throwsIf x1 x2 u = some (r, u')) : xMi l yX10_throwsIf wsX10_throwsIf rX10_throwsIf t [.ref (t.2.2.1 40), .int (iI x1), .int (iI x2)] u r u' 0 0 := by
  refine x_ofWi (cc := cX10_throwsIf) (maxL := 3) (ret := .boolean) (own := RX10) (by decide) rfl rfl (Nat.le_of_ble_eq_true rfl) ?_
  intro p e s m args below meth c Q X hret H locs ls hG hS hl
  replace hl : lv_has ls 3 [(0, .ref (t.2.2.1 40)), (1, .int (iI x1)), (2, .int (iI x2))] := hl
  have q40 : 40 < NN ∧ sT 40 = 14 := by decide
  have iX10 : ∀ w ∈ wsX100, w ∈ wsX10_throwsIf := by decide +kernel
  have w1 : Cond.fieldLink RX10 64 "TriggerNetworkModel" "thrown" "I" ∈ wsX10_throwsIf := x_w 1 rfl
  unfold f_X10_throwsIf at h
  refine lv_aload_n X.1.1 X.1.2.1 dX10_throwsIf_0 rfl (lv_at hl 0 rfl) ?_
  refine x_geti X hG 14 0 40 0 (inC := iX10) rfl q40.1 q40.2 ⟨by decide, by decide, by decide, rfl, rfl⟩ w1 dX10_throwsIf_1 ?_
  obtain ⟨g1, h⟩ := xgd_of h
  obtain ⟨j2, ej2, h⟩ := xlet_of h
  have Jj2 : ∀ (u3 : uS), j2 u3 = some (r, u') → xG p l e rX10_throwsIf s m args below meth c t Q 3 0 0 16 u3 [(0, .ref (t.2.2.1 40))] [] := by
      intro u3 h H locs ls hG hS hl
      replace h := (congrFun ej2 u3).symm.trans h
      refine lv_aload_n X.1.1 X.1.2.1 dX10_throwsIf_16 rfl (lv_at hl 0 rfl) ?_
      refine x_geti X hG 14 0 40 0 (inC := iX10) rfl q40.1 q40.2 ⟨by decide, by decide, by decide, rfl, rfl⟩ w1 dX10_throwsIf_17 ?_
      obtain ⟨g4, h⟩ := xgd_of h
      refine x_if_le (tgt := 27) X g4 dX10_throwsIf_20 (by decide) (fun c5 => ?_) (fun c5 => ?_)
      · replace h := xif_t h c5
        refine x_iconst X dX10_throwsIf_27 ?_
        cases h
        exact hret _ _ _ _ dX10_throwsIf_28 (by decide) hG hS
      · replace h := xif_f h c5
        refine x_iconst X dX10_throwsIf_23 ?_
        refine lv_goto (tgt := 28) X.1.1 X.1.2.1 dX10_throwsIf_24 (by decide) ?_
        cases h
        exact hret _ _ _ _ dX10_throwsIf_28 (by decide) hG hS
  refine x_if_ne (tgt := 16) X g1 dX10_throwsIf_4 (by decide) (fun c6 => ?_) (fun c6 => ?_)
  · replace h := xif_f h c6
    exact Jj2 _ h _ _ _ hG hS (lv_sub hl [0] rfl)
  · replace h := xif_t h c6
    refine lv_iload_n X.1.1 X.1.2.1 dX10_throwsIf_7 rfl (lv_at hl 1 rfl) ?_
    obtain ⟨g7, h⟩ := xgd_of h
    refine x_if_eq (tgt := 16) X g7 dX10_throwsIf_8 (by decide) (fun c8 => ?_) (fun c8 => ?_)
    · replace h := xif_t h c8
      exact Jj2 _ h _ _ _ hG hS (lv_sub hl [0] rfl)
    · replace h := xif_f h c8
      refine lv_aload_n X.1.1 X.1.2.1 dX10_throwsIf_11 rfl (lv_at hl 0 rfl) ?_
      refine lv_iload_n X.1.1 X.1.2.1 dX10_throwsIf_12 rfl (lv_at hl 2 rfl) ?_
      refine x_puti X hG hS 14 0 40 0 _ tyX10 tyX10_ok nmX10 (inC := iX10) rfl q40.1 q40.2 ⟨by decide, by decide, by decide, rfl, rfl⟩ rfl (by decide +kernel) w1 dX10_throwsIf_13 (fun H locs hG hS => ?_)
      obtain ⟨u9, eu9, h⟩ := xlet_of h
      replace hG : G t u9 H := by rw [eu9]; exact hG
      exact Jj2 _ h _ _ _ hG hS (lv_sub hl [0] rfl)
theorem hd_X10_throwsIf : yX10_throwsIf.cls = RX10 ∧ yX10_throwsIf.cls ≠ "java/lang/invoke/MethodHandle" ∧ yX10_throwsIf.cls ≠ "java/lang/invoke/VarHandle" ∧ (parseMethodDescriptor yX10_throwsIf.desc).map (fun d => d.parameters.length) = some 2 := by decide +kernel
abbrev rX10_bytesOf : Room := { frames := 0, cells := 0, slots := 0, locals := 0 }
set_option maxRecDepth 100000 in
set_option maxHeartbeats 8000000 in
theorem c_X10_bytesOf (l : Launch) (t : gP) (x1 : Int) (u : uS) (r : Int) (u' : uS) (h : f_X10_bytesOf x1 u = some (r, u')) : xMv l yX10_bytesOf wsX10_bytesOf rX10_bytesOf t [.ref (t.2.2.1 40), .int (iI x1)] u u' 0 0 := by
  refine x_ofWv (cc := cX10_bytesOf) (maxL := 3) (own := RX10) (by decide) rfl rfl (Nat.le_of_ble_eq_true rfl) ?_
  intro p e s m args below meth c Q X hret H locs ls hG hS hl
  replace hl : lv_has ls 3 [(0, .ref (t.2.2.1 40)), (1, .int (iI x1))] := hl
  have q40 : 40 < NN ∧ sT 40 = 14 := by decide
  have iX10 : ∀ w ∈ wsX100, w ∈ wsX10_bytesOf := by decide +kernel
  have w1 : Cond.fieldLink RX10 28 "TriggerNetworkModel" "text" "[B" ∈ wsX10_bytesOf := x_w 1 rfl
  have q47 : 47 < NN ∧ sT 47 = 102 ∧ sN 47 = 500 := by decide
  have w2 : Cond.fieldLink RX10 75 "TriggerNetworkModel" "length" "I" ∈ wsX10_bytesOf := x_w 2 rfl
  unfold f_X10_bytesOf at h
  refine x_bipush X dX10_bytesOf_0 (by decide) ?_
  refine lv_istore_n (lv' := [(2, .int (iI 24)), (0, .ref (t.2.2.1 40)), (1, .int (iI x1))]) X.1.1 X.1.2.1 dX10_bytesOf_2 rfl hl (by decide) rfl (fun ls hl => ?_)
  have Lgo1 : ∀ (n : Nat) (x2_2 : Int) (u3 : uS), xl2 (s_X10_bytesOf_3 x1) n x2_2 u3 = some (r, u') → xG p l e rX10_bytesOf s m args below meth c t Q 3 0 0 3 u3 [(2, .int (iI x2_2)), (0, .ref (t.2.2.1 40)), (1, .int (iI x1))] [] := by
    intro n x2_2 u3 h
    refine xl2_W (F := s_X10_bytesOf_3 x1) (fun x2_2 u3 q => q = (r, u') → xG p l e rX10_bytesOf s m args below meth c t Q 3 0 0 3 u3 [(2, .int (iI x2_2)), (0, .ref (t.2.2.1 40)), (1, .int (iI x1))] []) ?_ n x2_2 u3 _ h rfl
    intro go1 igo1 x2_2 u3 q h hq H locs ls hG hS hl
    subst hq
    unfold s_X10_bytesOf_3 at h
    refine lv_iload_n X.1.1 X.1.2.1 dX10_bytesOf_3 rfl (lv_at hl 0 rfl) ?_
    obtain ⟨g4, h⟩ := xgd_of h
    refine x_if_lt (tgt := 36) X g4 dX10_bytesOf_4 (by decide) (fun c5 => ?_) (fun c5 => ?_)
    · replace h := xif_t h c5
      cases h
      exact hret _ _ _ _ dX10_bytesOf_36 hG hS
    · replace h := xif_f h c5
      refine lv_aload_n X.1.1 X.1.2.1 dX10_bytesOf_7 rfl (lv_at hl 1 rfl) ?_
      refine x_getr X hG 14 7 40 7 (inC := iX10) rfl q40.1 q40.2 ⟨by decide, by decide, by decide, rfl, by decide, by decide⟩ w1 dX10_bytesOf_8 ?_
      refine lv_aload_n X.1.1 X.1.2.1 dX10_bytesOf_11 rfl (lv_at hl 1 rfl) ?_
      refine x_geti X hG 14 8 40 8 (inC := iX10) rfl q40.1 q40.2 ⟨by decide, by decide, by decide, rfl, rfl⟩ w2 dX10_bytesOf_12 ?_
      refine lv_iload_n X.1.1 X.1.2.1 dX10_bytesOf_15 rfl (lv_at hl 2 rfl) ?_
      refine lv_iload_n X.1.1 X.1.2.1 dX10_bytesOf_16 rfl (lv_at hl 0 rfl) ?_
      obtain ⟨g6, h⟩ := xgd_of h
      refine x_ishr X g6.1 g6.2 dX10_bytesOf_17 ?_
      refine x_i2b X dX10_bytesOf_18 ?_
      obtain ⟨g7, h⟩ := xgd_of h
      refine x_bast X hG hS q47.1 q47.2.1 (n := 500) q47.2.2 g7.1 (by decide) g7.2 dX10_bytesOf_19 (fun H locs hG hS => ?_)
      obtain ⟨u8, eu8, h⟩ := xlet_of h
      replace hG : G t u8 H := by rw [eu8]; exact hG
      refine lv_aload_n X.1.1 X.1.2.1 dX10_bytesOf_20 rfl (lv_at hl 1 rfl) ?_
      refine lv_dup X.1.1 X.1.2.1 dX10_bytesOf_21 rfl ?_
      refine x_geti X hG 14 8 40 8 (inC := iX10) rfl q40.1 q40.2 ⟨by decide, by decide, by decide, rfl, rfl⟩ w2 dX10_bytesOf_22 ?_
      refine x_iconst X dX10_bytesOf_25 ?_
      refine x_iadd X dX10_bytesOf_26 ?_
      refine x_puti X hG hS 14 8 40 8 _ tyX10 tyX10_ok nmX10 (inC := iX10) rfl q40.1 q40.2 ⟨by decide, by decide, by decide, rfl, rfl⟩ rfl (by decide +kernel) w2 dX10_bytesOf_27 (fun H locs hG hS => ?_)
      obtain ⟨u9, eu9, h⟩ := xlet_of h
      replace hG : G t u9 H := by rw [eu9]; exact hG
      refine lv_iinc (v := (iI (x2_2 + (-8)))) (lv' := [(2, .int (iI (x2_2 + (-8)))), (0, .ref (t.2.2.1 40)), (1, .int (iI x1))]) X.1.1 X.1.2.1 dX10_bytesOf_30 hl (k := 0) rfl (iI_add _ _) (by decide) rfl (fun ls hl => ?_)
      refine lv_goto (tgt := 3) X.1.1 X.1.2.1 dX10_bytesOf_33 (by decide) ?_
      exact igo1 _ _ _ h rfl _ _ _ hG hS (lv_sub hl [0, 1, 2] rfl)
  exact Lgo1 FU _ _ h _ _ _ hG hS (lv_sub hl [0, 1, 2] rfl)
theorem hd_X10_bytesOf : yX10_bytesOf.cls = RX10 ∧ yX10_bytesOf.cls ≠ "java/lang/invoke/MethodHandle" ∧ yX10_bytesOf.cls ≠ "java/lang/invoke/VarHandle" ∧ (parseMethodDescriptor yX10_bytesOf.desc).map (fun d => d.parameters.length) = some 1 := by decide +kernel
abbrev rX10_append : Room := { frames := 1, cells := 0, slots := 0, locals := 22 }
set_option maxRecDepth 100000 in
set_option maxHeartbeats 8000000 in
theorem c_X10_append (l : Launch) (t : gP) (x1 : Int) (x2 : Int) (x3 : Int) (x4 : Int) (x5 : Int) (u : uS) (r : Int) (u' : uS) (h : f_X10_append x1 x2 x3 x4 x5 u = some (r, u')) : xMi l yX10_append wsX10_append rX10_append t [.ref (t.2.2.1 40), .int (iI x1), .int (iI x2), .int (iI x3), .int (iI x4), .int (iI x5)] u r u' 0 0 := by
  refine x_ofWi (cc := cX10_append) (maxL := 6) (ret := .int) (own := RX10) (by decide) rfl rfl (Nat.le_of_ble_eq_true rfl) ?_
  intro p e s m args below meth c Q X hret H locs ls hG hS hl
  replace hl : lv_has ls 6 [(0, .ref (t.2.2.1 40)), (1, .int (iI x1)), (2, .int (iI x2)), (3, .int (iI x3)), (4, .int (iI x4)), (5, .int (iI x5))] := hl
  have q40 : 40 < NN ∧ sT 40 = 14 := by decide
  have iX10 : ∀ w ∈ wsX100, w ∈ wsX10_append := by decide +kernel
  have w1 : Cond.fieldLink RX10 64 "TriggerNetworkModel" "thrown" "I" ∈ wsX10_append := x_w 1 rfl
  have w2 : Cond.fieldLink RX10 75 "TriggerNetworkModel" "length" "I" ∈ wsX10_append := x_w 2 rfl
  unfold f_X10_append at h
  refine lv_aload_n X.1.1 X.1.2.1 dX10_append_0 rfl (lv_at hl 0 rfl) ?_
  refine x_iconst X dX10_append_1 ?_
  refine x_puti X hG hS 14 0 40 0 _ tyX10 tyX10_ok nmX10 (inC := iX10) rfl q40.1 q40.2 ⟨by decide, by decide, by decide, rfl, rfl⟩ rfl (by decide +kernel) w1 dX10_append_2 (fun H locs hG hS => ?_)
  obtain ⟨u1, eu1, h⟩ := xlet_of h
  replace hG : G t u1 H := by rw [eu1]; exact hG
  refine lv_aload_n X.1.1 X.1.2.1 dX10_append_5 rfl (lv_at hl 0 rfl) ?_
  refine x_geti X hG 14 8 40 8 (inC := iX10) rfl q40.1 q40.2 ⟨by decide, by decide, by decide, rfl, rfl⟩ w2 dX10_append_6 ?_
  refine x_bipush X dX10_append_9 (by decide) ?_
  refine x_iadd X dX10_append_11 ?_
  refine x_sipush X dX10_append_12 (by decide) ?_
  obtain ⟨g2, h⟩ := xgd_of h
  refine x_icmp_le (tgt := 20) X g2 ⟨by decide, by decide⟩ dX10_append_15 (by decide) (fun c3 => ?_) (fun c3 => ?_)
  · replace h := xif_t h c3
    refine lv_aload_n X.1.1 X.1.2.1 dX10_append_20 rfl (lv_at hl 0 rfl) ?_
    refine lv_iload_n X.1.1 X.1.2.1 dX10_append_21 rfl (lv_at hl 1 rfl) ?_
    obtain ⟨v4, u5, hf, h⟩ := xbd_of h
    refine x_callVv0 X hG hS (c_X10_bytesOf l t _ _ _ _ hf) (cwV 1 X.1.2.2.2.2 gX10_append_X10_bytesOf rfl rfl rfl hd_X10_bytesOf ⟨Nat.le_of_ble_eq_true rfl, Nat.le_of_ble_eq_true rfl⟩) q40.1 q40.2 rfl (by decide) (by rfl) hl.1 (Nat.le_of_ble_eq_true rfl) dX10_append_22 ⟨by decide, by decide⟩ rfl (fun H locs hG hS => ?_)
    refine lv_aload_n X.1.1 X.1.2.1 dX10_append_25 rfl (lv_at hl 0 rfl) ?_
    refine lv_iload_n X.1.1 X.1.2.1 dX10_append_26 rfl (lv_at hl 2 rfl) ?_
    obtain ⟨v6, u7, hf, h⟩ := xbd_of h
    refine x_callVv0 X hG hS (c_X10_bytesOf l t _ _ _ _ hf) (cwV 1 X.1.2.2.2.2 gX10_append_X10_bytesOf rfl rfl rfl hd_X10_bytesOf ⟨Nat.le_of_ble_eq_true rfl, Nat.le_of_ble_eq_true rfl⟩) q40.1 q40.2 rfl (by decide) (by rfl) hl.1 (Nat.le_of_ble_eq_true rfl) dX10_append_27 ⟨by decide, by decide⟩ rfl (fun H locs hG hS => ?_)
    refine lv_aload_n X.1.1 X.1.2.1 dX10_append_30 rfl (lv_at hl 0 rfl) ?_
    refine lv_iload_n X.1.1 X.1.2.1 dX10_append_31 rfl (lv_at hl 3 rfl) ?_
    obtain ⟨v8, u9, hf, h⟩ := xbd_of h
    refine x_callVv0 X hG hS (c_X10_bytesOf l t _ _ _ _ hf) (cwV 1 X.1.2.2.2.2 gX10_append_X10_bytesOf rfl rfl rfl hd_X10_bytesOf ⟨Nat.le_of_ble_eq_true rfl, Nat.le_of_ble_eq_true rfl⟩) q40.1 q40.2 rfl (by decide) (by rfl) hl.1 (Nat.le_of_ble_eq_true rfl) dX10_append_32 ⟨by decide, by decide⟩ rfl (fun H locs hG hS => ?_)
    refine lv_aload_n X.1.1 X.1.2.1 dX10_append_35 rfl (lv_at hl 0 rfl) ?_
    refine lv_iload X.1.1 X.1.2.1 dX10_append_36 (lv_at hl 4 rfl) ?_
    obtain ⟨v10, u11, hf, h⟩ := xbd_of h
    refine x_callVv0 X hG hS (c_X10_bytesOf l t _ _ _ _ hf) (cwV 1 X.1.2.2.2.2 gX10_append_X10_bytesOf rfl rfl rfl hd_X10_bytesOf ⟨Nat.le_of_ble_eq_true rfl, Nat.le_of_ble_eq_true rfl⟩) q40.1 q40.2 rfl (by decide) (by rfl) hl.1 (Nat.le_of_ble_eq_true rfl) dX10_append_38 ⟨by decide, by decide⟩ rfl (fun H locs hG hS => ?_)
    refine lv_aload_n X.1.1 X.1.2.1 dX10_append_41 rfl (lv_at hl 0 rfl) ?_
    refine lv_iload X.1.1 X.1.2.1 dX10_append_42 (lv_at hl 5 rfl) ?_
    obtain ⟨v12, u13, hf, h⟩ := xbd_of h
    refine x_callVv0 X hG hS (c_X10_bytesOf l t _ _ _ _ hf) (cwV 1 X.1.2.2.2.2 gX10_append_X10_bytesOf rfl rfl rfl hd_X10_bytesOf ⟨Nat.le_of_ble_eq_true rfl, Nat.le_of_ble_eq_true rfl⟩) q40.1 q40.2 rfl (by decide) (by rfl) hl.1 (Nat.le_of_ble_eq_true rfl) dX10_append_44 ⟨by decide, by decide⟩ rfl (fun H locs hG hS => ?_)
    refine lv_aload_n X.1.1 X.1.2.1 dX10_append_47 rfl (lv_at hl 0 rfl) ?_
    refine x_geti X hG 14 8 40 8 (inC := iX10) rfl q40.1 q40.2 ⟨by decide, by decide, by decide, rfl, rfl⟩ w2 dX10_append_48 ?_
    cases h
    exact hret _ _ _ _ dX10_append_51 rfl hG hS
  · replace h := xif_f h c3
    refine x_iconst X dX10_append_18 ?_
    cases h
    exact hret _ _ _ _ dX10_append_19 rfl hG hS
theorem hd_X10_append : yX10_append.cls = RX10 ∧ yX10_append.cls ≠ "java/lang/invoke/MethodHandle" ∧ yX10_append.cls ≠ "java/lang/invoke/VarHandle" ∧ (parseMethodDescriptor yX10_append.desc).map (fun d => d.parameters.length) = some 5 := by decide +kernel
abbrev rX10_byteAt : Room := { frames := 0, cells := 0, slots := 0, locals := 0 }
set_option maxRecDepth 100000 in
set_option maxHeartbeats 8000000 in
theorem c_X10_byteAt (l : Launch) (t : gP) (x1 : Int) (u : uS) (r : Int) (u' : uS) (h : f_X10_byteAt x1 u = some (r, u')) : xMi l yX10_byteAt wsX10_byteAt rX10_byteAt t [.ref (t.2.2.1 40), .int (iI x1)] u r u' 0 0 := by
  refine x_ofWi (cc := cX10_byteAt) (maxL := 2) (ret := .int) (own := RX10) (by decide) rfl rfl (Nat.le_of_ble_eq_true rfl) ?_
  intro p e s m args below meth c Q X hret H locs ls hG hS hl
  replace hl : lv_has ls 2 [(0, .ref (t.2.2.1 40)), (1, .int (iI x1))] := hl
  have q40 : 40 < NN ∧ sT 40 = 14 := by decide
  have iX10 : ∀ w ∈ wsX100, w ∈ wsX10_byteAt := by decide +kernel
  have w1 : Cond.fieldLink RX10 82 "TriggerNetworkModel" "textSize" "I" ∈ wsX10_byteAt := x_w 1 rfl
  have w2 : Cond.fieldLink RX10 28 "TriggerNetworkModel" "text" "[B" ∈ wsX10_byteAt := x_w 2 rfl
  have q47 : 47 < NN ∧ sT 47 = 102 ∧ sN 47 = 500 := by decide
  unfold f_X10_byteAt at h
  refine lv_iload_n X.1.1 X.1.2.1 dX10_byteAt_0 rfl (lv_at hl 1 rfl) ?_
  refine lv_aload_n X.1.1 X.1.2.1 dX10_byteAt_1 rfl (lv_at hl 0 rfl) ?_
  refine x_geti X hG 14 9 40 9 (inC := iX10) rfl q40.1 q40.2 ⟨by decide, by decide, by decide, rfl, rfl⟩ w1 dX10_byteAt_2 ?_
  obtain ⟨g1, h⟩ := xgd_of h
  refine x_icmp_ge (tgt := 21) X g1.1 g1.2 dX10_byteAt_5 (by decide) (fun c2 => ?_) (fun c2 => ?_)
  · replace h := xif_t h c2
    refine x_iconst X dX10_byteAt_21 ?_
    cases h
    exact hret _ _ _ _ dX10_byteAt_22 rfl hG hS
  · replace h := xif_f h c2
    refine lv_aload_n X.1.1 X.1.2.1 dX10_byteAt_8 rfl (lv_at hl 0 rfl) ?_
    refine x_getr X hG 14 7 40 7 (inC := iX10) rfl q40.1 q40.2 ⟨by decide, by decide, by decide, rfl, by decide, by decide⟩ w2 dX10_byteAt_9 ?_
    refine lv_iload_n X.1.1 X.1.2.1 dX10_byteAt_12 rfl (lv_at hl 1 rfl) ?_
    obtain ⟨g3, h⟩ := xgd_of h
    refine x_bald X hG q47.1 q47.2.1 (n := 500) q47.2.2 g3 (by decide) dX10_byteAt_13 ?_
    refine x_sipush X dX10_byteAt_14 (by decide) ?_
    refine x_and X (k := 8) (by decide) (by decide) dX10_byteAt_17 ?_
    refine lv_goto (tgt := 22) X.1.1 X.1.2.1 dX10_byteAt_18 (by decide) ?_
    cases h
    exact hret _ _ _ _ dX10_byteAt_22 rfl hG hS
theorem hd_X10_byteAt : yX10_byteAt.cls = RX10 ∧ yX10_byteAt.cls ≠ "java/lang/invoke/MethodHandle" ∧ yX10_byteAt.cls ≠ "java/lang/invoke/VarHandle" ∧ (parseMethodDescriptor yX10_byteAt.desc).map (fun d => d.parameters.length) = some 1 := by decide +kernel
abbrev rX10_advance : Room := { frames := 1, cells := 0, slots := 0, locals := 22 }
set_option maxRecDepth 100000 in
set_option maxHeartbeats 8000000 in
theorem c_X10_advance (l : Launch) (t : gP) (u : uS) (r : Int) (u' : uS) (h : f_X10_advance u = some (r, u')) : xMv l yX10_advance wsX10_advance rX10_advance t [.ref (t.2.2.1 40)] u u' 0 0 := by
  refine x_ofWv (cc := cX10_advance) (maxL := 2) (own := RX10) (by decide) rfl rfl (Nat.le_of_ble_eq_true rfl) ?_
  intro p e s m args below meth c Q X hret H locs ls hG hS hl
  replace hl : lv_has ls 2 [(0, .ref (t.2.2.1 40))] := hl
  have q40 : 40 < NN ∧ sT 40 = 14 := by decide
  have iX10 : ∀ w ∈ wsX100, w ∈ wsX10_advance := by decide +kernel
  have w1 : Cond.fieldLink RX10 85 "TriggerNetworkModel" "next" "I" ∈ wsX10_advance := x_w 1 rfl
  have w2 : Cond.fieldLink RX10 92 "TriggerNetworkModel" "start" "I" ∈ wsX10_advance := x_w 2 rfl
  have w3 : Cond.fieldLink RX10 95 "TriggerNetworkModel" "value" "I" ∈ wsX10_advance := x_w 3 rfl
  have w4 : Cond.fieldLink RX10 98 "TriggerNetworkModel" "token" "I" ∈ wsX10_advance := x_w 4 rfl
  unfold f_X10_advance at h
  obtain ⟨j1, ej1, h⟩ := xlet_of h
  have Jj1 : ∀ (u2 : uS), j1 u2 = some (r, u') → xG p l e rX10_advance s m args below meth c t Q 2 0 0 39 u2 [(0, .ref (t.2.2.1 40))] [] := by
      intro u2 h H locs ls hG hS hl
      replace h := (congrFun ej1 u2).symm.trans h
      refine lv_aload_n X.1.1 X.1.2.1 dX10_advance_39 rfl (lv_at hl 0 rfl) ?_
      refine lv_aload_n X.1.1 X.1.2.1 dX10_advance_40 rfl (lv_at hl 0 rfl) ?_
      refine x_geti X hG 14 11 40 11 (inC := iX10) rfl q40.1 q40.2 ⟨by decide, by decide, by decide, rfl, rfl⟩ w1 dX10_advance_41 ?_
      refine x_puti X hG hS 14 10 40 10 _ tyX10 tyX10_ok nmX10 (inC := iX10) rfl q40.1 q40.2 ⟨by decide, by decide, by decide, rfl, rfl⟩ rfl (by decide +kernel) w2 dX10_advance_44 (fun H locs hG hS => ?_)
      obtain ⟨u3, eu3, h⟩ := xlet_of h
      replace hG : G t u3 H := by rw [eu3]; exact hG
      refine lv_aload_n X.1.1 X.1.2.1 dX10_advance_47 rfl (lv_at hl 0 rfl) ?_
      refine x_iconst X dX10_advance_48 ?_
      refine x_puti X hG hS 14 13 40 13 _ tyX10 tyX10_ok nmX10 (inC := iX10) rfl q40.1 q40.2 ⟨by decide, by decide, by decide, rfl, rfl⟩ rfl (by decide +kernel) w3 dX10_advance_49 (fun H locs hG hS => ?_)
      obtain ⟨u4, eu4, h⟩ := xlet_of h
      replace hG : G t u4 H := by rw [eu4]; exact hG
      refine lv_aload_n X.1.1 X.1.2.1 dX10_advance_52 rfl (lv_at hl 0 rfl) ?_
      refine lv_aload_n X.1.1 X.1.2.1 dX10_advance_53 rfl (lv_at hl 0 rfl) ?_
      refine x_geti X hG 14 11 40 11 (inC := iX10) rfl q40.1 q40.2 ⟨by decide, by decide, by decide, rfl, rfl⟩ w1 dX10_advance_54 ?_
      obtain ⟨v5, u6, hf, h⟩ := xbd_of h
      refine x_callVi0 X hG hS (c_X10_byteAt l t _ _ _ _ hf) (cwV 1 X.1.2.2.2.2 gX10_advance_X10_byteAt rfl rfl rfl hd_X10_byteAt ⟨Nat.le_of_ble_eq_true rfl, Nat.le_of_ble_eq_true rfl⟩) q40.1 q40.2 rfl (by decide) (by rfl) hl.1 (Nat.le_of_ble_eq_true rfl) dX10_advance_57 ⟨by decide, by decide⟩ rfl (fun H locs hG hS => ?_)
      refine lv_istore_n (lv' := [(1, .int (iI v5)), (0, .ref (t.2.2.1 40))]) X.1.1 X.1.2.1 dX10_advance_60 rfl hl (by decide) rfl (fun ls hl => ?_)
      refine lv_iload_n X.1.1 X.1.2.1 dX10_advance_61 rfl (lv_at hl 0 rfl) ?_
      refine x_iconst X dX10_advance_62 ?_
      obtain ⟨g7, h⟩ := xgd_of h
      refine x_icmp_ne (tgt := 74) X g7 ⟨by decide, by decide⟩ dX10_advance_63 (by decide) (fun c8 => ?_) (fun c8 => ?_)
      · replace h := xif_f h c8
        refine lv_iload_n X.1.1 X.1.2.1 dX10_advance_74 rfl (lv_at hl 0 rfl) ?_
        refine x_bipush X dX10_advance_75 (by decide) ?_
        refine x_bipush X dX10_advance_77 (by decide) ?_
        obtain ⟨v9, u10, hf, h⟩ := xbd_of h
        refine x_callSi0 X hG hS (c_X10_within l t _ _ _ _ _ _ hf) (va_cwS 3 X.1.2.2.2.2 gX10_advance_X10_within rfl rfl rfl hds_X10_within ⟨Nat.le_of_ble_eq_true rfl, Nat.le_of_ble_eq_true rfl⟩) (by rfl) hl.1 (Nat.le_of_ble_eq_true rfl) dX10_advance_79 ⟨by decide, by decide⟩ rfl (fun H locs hG hS => ?_)
        obtain ⟨g11, h⟩ := xgd_of h
        refine x_if_eq (tgt := 142) X g11 dX10_advance_82 (by decide) (fun c12 => ?_) (fun c12 => ?_)
        · replace h := xif_t h c12
          refine lv_iload_n X.1.1 X.1.2.1 dX10_advance_142 rfl (lv_at hl 0 rfl) ?_
          refine x_bipush X dX10_advance_143 (by decide) ?_
          refine x_bipush X dX10_advance_145 (by decide) ?_
          obtain ⟨v13, u14, hf, h⟩ := xbd_of h
          refine x_callSi0 X hG hS (c_X10_within l t _ _ _ _ _ _ hf) (va_cwS 3 X.1.2.2.2.2 gX10_advance_X10_within rfl rfl rfl hds_X10_within ⟨Nat.le_of_ble_eq_true rfl, Nat.le_of_ble_eq_true rfl⟩) (by rfl) hl.1 (Nat.le_of_ble_eq_true rfl) dX10_advance_147 ⟨by decide, by decide⟩ rfl (fun H locs hG hS => ?_)
          obtain ⟨g15, h⟩ := xgd_of h
          refine x_if_eq (tgt := 252) X g15 dX10_advance_150 (by decide) (fun c16 => ?_) (fun c16 => ?_)
          · replace h := xif_t h c16
            refine lv_aload_n X.1.1 X.1.2.1 dX10_advance_252 rfl (lv_at hl 1 rfl) ?_
            refine lv_dup X.1.1 X.1.2.1 dX10_advance_253 rfl ?_
            refine x_geti X hG 14 11 40 11 (inC := iX10) rfl q40.1 q40.2 ⟨by decide, by decide, by decide, rfl, rfl⟩ w1 dX10_advance_254 ?_
            refine x_iconst X dX10_advance_257 ?_
            refine x_iadd X dX10_advance_258 ?_
            refine x_puti X hG hS 14 11 40 11 _ tyX10 tyX10_ok nmX10 (inC := iX10) rfl q40.1 q40.2 ⟨by decide, by decide, by decide, rfl, rfl⟩ rfl (by decide +kernel) w1 dX10_advance_259 (fun H locs hG hS => ?_)
            obtain ⟨u17, eu17, h⟩ := xlet_of h
            replace hG : G t u17 H := by rw [eu17]; exact hG
            refine lv_aload_n X.1.1 X.1.2.1 dX10_advance_262 rfl (lv_at hl 1 rfl) ?_
            refine lv_iload_n X.1.1 X.1.2.1 dX10_advance_263 rfl (lv_at hl 0 rfl) ?_
            refine x_bipush X dX10_advance_264 (by decide) ?_
            obtain ⟨g18, h⟩ := xgd_of h
            obtain ⟨j19, ej19, h⟩ := xlet_of h
            have Jj19 : ∀ (s20 : Int) (u21 : uS), j19 s20 u21 = some (r, u') → xG p l e rX10_advance s m args below meth c t Q 2 0 0 274 u21 [] [.int (iI s20), .ref (t.2.2.1 40)] := by
                intro s20 u21 h H locs ls hG hS hl
                replace h := (congrFun (congrFun ej19 s20) u21).symm.trans h
                refine x_puti X hG hS 14 12 40 12 _ tyX10 tyX10_ok nmX10 (inC := iX10) rfl q40.1 q40.2 ⟨by decide, by decide, by decide, rfl, rfl⟩ rfl (by decide +kernel) w4 dX10_advance_274 (fun H locs hG hS => ?_)
                obtain ⟨u22, eu22, h⟩ := xlet_of h
                replace hG : G t u22 H := by rw [eu22]; exact hG
                cases h
                exact hret _ _ _ _ dX10_advance_277 hG hS
            refine x_icmp_ne (tgt := 273) X g18 ⟨by decide, by decide⟩ dX10_advance_266 (by decide) (fun c23 => ?_) (fun c23 => ?_)
            · replace h := xif_f h c23
              refine x_iconst X dX10_advance_273 ?_
              exact Jj19 _ _ h _ _ _ hG hS (lv_sub hl [] rfl)
            · replace h := xif_t h c23
              refine x_iconst X dX10_advance_269 ?_
              refine lv_goto (tgt := 274) X.1.1 X.1.2.1 dX10_advance_270 (by decide) ?_
              exact Jj19 _ _ h _ _ _ hG hS (lv_sub hl [] rfl)
          · replace h := xif_f h c16
            obtain ⟨j24, ej24, h⟩ := xlet_of h
            have Jj24 : ∀ (u25 : uS), j24 u25 = some (r, u') → xG p l e rX10_advance s m args below meth c t Q 2 0 0 227 u25 [(0, .ref (t.2.2.1 40))] [] := by
                intro u25 h H locs ls hG hS hl
                replace h := (congrFun ej24 u25).symm.trans h
                refine lv_aload_n X.1.1 X.1.2.1 dX10_advance_227 rfl (lv_at hl 0 rfl) ?_
                refine lv_aload_n X.1.1 X.1.2.1 dX10_advance_228 rfl (lv_at hl 0 rfl) ?_
                refine x_geti X hG 14 11 40 11 (inC := iX10) rfl q40.1 q40.2 ⟨by decide, by decide, by decide, rfl, rfl⟩ w1 dX10_advance_229 ?_
                refine lv_aload_n X.1.1 X.1.2.1 dX10_advance_232 rfl (lv_at hl 0 rfl) ?_
                refine x_geti X hG 14 10 40 10 (inC := iX10) rfl q40.1 q40.2 ⟨by decide, by decide, by decide, rfl, rfl⟩ w2 dX10_advance_233 ?_
                refine x_isub X dX10_advance_236 ?_
                refine x_iconst X dX10_advance_237 ?_
                obtain ⟨g26, h⟩ := xgd_of h
                obtain ⟨j27, ej27, h⟩ := xlet_of h
                have Jj27 : ∀ (s28 : Int) (u29 : uS), j27 s28 u29 = some (r, u') → xG p l e rX10_advance s m args below meth c t Q 2 0 0 246 u29 [] [.int (iI s28), .ref (t.2.2.1 40)] := by
                    intro s28 u29 h H locs ls hG hS hl
                    replace h := (congrFun (congrFun ej27 s28) u29).symm.trans h
                    refine x_puti X hG hS 14 12 40 12 _ tyX10 tyX10_ok nmX10 (inC := iX10) rfl q40.1 q40.2 ⟨by decide, by decide, by decide, rfl, rfl⟩ rfl (by decide +kernel) w4 dX10_advance_246 (fun H locs hG hS => ?_)
                    obtain ⟨u30, eu30, h⟩ := xlet_of h
                    replace hG : G t u30 H := by rw [eu30]; exact hG
                    refine lv_goto (tgt := 277) X.1.1 X.1.2.1 dX10_advance_249 (by decide) ?_
                    cases h
                    exact hret _ _ _ _ dX10_advance_277 hG hS
                refine x_icmp_le (tgt := 245) X g26 ⟨by decide, by decide⟩ dX10_advance_238 (by decide) (fun c31 => ?_) (fun c31 => ?_)
                · replace h := xif_t h c31
                  refine x_iconst X dX10_advance_245 ?_
                  exact Jj27 _ _ h _ _ _ hG hS (lv_sub hl [] rfl)
                · replace h := xif_f h c31
                  refine x_iconst X dX10_advance_241 ?_
                  refine lv_goto (tgt := 246) X.1.1 X.1.2.1 dX10_advance_242 (by decide) ?_
                  exact Jj27 _ _ h _ _ _ hG hS (lv_sub hl [] rfl)
            have Lgo32 : ∀ (n : Nat) (u33 : uS), xl1 (s_X10_advance_153 j24) n u33 = some (r, u') → xG p l e rX10_advance s m args below meth c t Q 2 0 0 153 u33 [(0, .ref (t.2.2.1 40))] [] := by
              intro n u33 h
              refine xl1_W (F := s_X10_advance_153 j24) (fun u33 q => q = (r, u') → xG p l e rX10_advance s m args below meth c t Q 2 0 0 153 u33 [(0, .ref (t.2.2.1 40))] []) ?_ n u33 _ h rfl
              intro go32 igo32 u33 q h hq H locs ls hG hS hl
              subst hq
              unfold s_X10_advance_153 at h
              refine lv_aload_n X.1.1 X.1.2.1 dX10_advance_153 rfl (lv_at hl 0 rfl) ?_
              refine lv_aload_n X.1.1 X.1.2.1 dX10_advance_154 rfl (lv_at hl 0 rfl) ?_
              refine x_geti X hG 14 11 40 11 (inC := iX10) rfl q40.1 q40.2 ⟨by decide, by decide, by decide, rfl, rfl⟩ w1 dX10_advance_155 ?_
              obtain ⟨v34, u35, hf, h⟩ := xbd_of h
              refine x_callVi0 X hG hS (c_X10_byteAt l t _ _ _ _ hf) (cwV 1 X.1.2.2.2.2 gX10_advance_X10_byteAt rfl rfl rfl hd_X10_byteAt ⟨Nat.le_of_ble_eq_true rfl, Nat.le_of_ble_eq_true rfl⟩) q40.1 q40.2 rfl (by decide) (by rfl) hl.1 (Nat.le_of_ble_eq_true rfl) dX10_advance_158 ⟨by decide, by decide⟩ rfl (fun H locs hG hS => ?_)
              refine x_bipush X dX10_advance_161 (by decide) ?_
              refine x_bipush X dX10_advance_163 (by decide) ?_
              obtain ⟨v36, u37, hf, h⟩ := xbd_of h
              refine x_callSi0 X hG hS (c_X10_within l t _ _ _ _ _ _ hf) (va_cwS 3 X.1.2.2.2.2 gX10_advance_X10_within rfl rfl rfl hds_X10_within ⟨Nat.le_of_ble_eq_true rfl, Nat.le_of_ble_eq_true rfl⟩) (by rfl) hl.1 (Nat.le_of_ble_eq_true rfl) dX10_advance_165 ⟨by decide, by decide⟩ rfl (fun H locs hG hS => ?_)
              obtain ⟨g38, h⟩ := xgd_of h
              refine x_if_eq (tgt := 227) X g38 dX10_advance_168 (by decide) (fun c39 => ?_) (fun c39 => ?_)
              · replace h := xif_t h c39
                exact Jj24 _ h _ _ _ hG hS (lv_sub hl [0] rfl)
              · replace h := xif_f h c39
                refine lv_aload_n X.1.1 X.1.2.1 dX10_advance_171 rfl (lv_at hl 0 rfl) ?_
                refine lv_aload_n X.1.1 X.1.2.1 dX10_advance_172 rfl (lv_at hl 0 rfl) ?_
                refine x_geti X hG 14 11 40 11 (inC := iX10) rfl q40.1 q40.2 ⟨by decide, by decide, by decide, rfl, rfl⟩ w1 dX10_advance_173 ?_
                refine lv_aload_n X.1.1 X.1.2.1 dX10_advance_176 rfl (lv_at hl 0 rfl) ?_
                refine x_geti X hG 14 10 40 10 (inC := iX10) rfl q40.1 q40.2 ⟨by decide, by decide, by decide, rfl, rfl⟩ w2 dX10_advance_177 ?_
                refine x_isub X dX10_advance_180 ?_
                refine x_iconst X dX10_advance_181 ?_
                obtain ⟨g40, h⟩ := xgd_of h
                obtain ⟨j41, ej41, h⟩ := xlet_of h
                have Jj41 : ∀ (s42 : Int) (u43 : uS), j41 s42 u43 = some (r, u') → xG p l e rX10_advance s m args below meth c t Q 2 0 0 211 u43 [(0, .ref (t.2.2.1 40))] [.int (iI s42), .ref (t.2.2.1 40)] := by
                    intro s42 u43 h H locs ls hG hS hl
                    replace h := (congrFun (congrFun ej41 s42) u43).symm.trans h
                    refine x_puti X hG hS 14 13 40 13 _ tyX10 tyX10_ok nmX10 (inC := iX10) rfl q40.1 q40.2 ⟨by decide, by decide, by decide, rfl, rfl⟩ rfl (by decide +kernel) w3 dX10_advance_211 (fun H locs hG hS => ?_)
                    obtain ⟨u44, eu44, h⟩ := xlet_of h
                    replace hG : G t u44 H := by rw [eu44]; exact hG
                    refine lv_aload_n X.1.1 X.1.2.1 dX10_advance_214 rfl (lv_at hl 0 rfl) ?_
                    refine lv_dup X.1.1 X.1.2.1 dX10_advance_215 rfl ?_
                    refine x_geti X hG 14 11 40 11 (inC := iX10) rfl q40.1 q40.2 ⟨by decide, by decide, by decide, rfl, rfl⟩ w1 dX10_advance_216 ?_
                    refine x_iconst X dX10_advance_219 ?_
                    refine x_iadd X dX10_advance_220 ?_
                    refine x_puti X hG hS 14 11 40 11 _ tyX10 tyX10_ok nmX10 (inC := iX10) rfl q40.1 q40.2 ⟨by decide, by decide, by decide, rfl, rfl⟩ rfl (by decide +kernel) w1 dX10_advance_221 (fun H locs hG hS => ?_)
                    obtain ⟨u45, eu45, h⟩ := xlet_of h
                    replace hG : G t u45 H := by rw [eu45]; exact hG
                    refine lv_goto (tgt := 153) X.1.1 X.1.2.1 dX10_advance_224 (by decide) ?_
                    exact igo32 _ _ h rfl _ _ _ hG hS (lv_sub hl [0] rfl)
                refine x_icmp_ge (tgt := 207) X g40 ⟨by decide, by decide⟩ dX10_advance_182 (by decide) (fun c46 => ?_) (fun c46 => ?_)
                · replace h := xif_t h c46
                  refine lv_aload_n X.1.1 X.1.2.1 dX10_advance_207 rfl (lv_at hl 0 rfl) ?_
                  refine x_geti X hG 14 13 40 13 (inC := iX10) rfl q40.1 q40.2 ⟨by decide, by decide, by decide, rfl, rfl⟩ w3 dX10_advance_208 ?_
                  exact Jj41 _ _ h _ _ _ hG hS (lv_sub hl [0] rfl)
                · replace h := xif_f h c46
                  refine x_bipush X dX10_advance_185 (by decide) ?_
                  refine lv_aload_n X.1.1 X.1.2.1 dX10_advance_187 rfl (lv_at hl 0 rfl) ?_
                  refine x_geti X hG 14 13 40 13 (inC := iX10) rfl q40.1 q40.2 ⟨by decide, by decide, by decide, rfl, rfl⟩ w3 dX10_advance_188 ?_
                  refine x_imul X dX10_advance_191 ?_
                  refine lv_aload_n X.1.1 X.1.2.1 dX10_advance_192 rfl (lv_at hl 0 rfl) ?_
                  refine lv_aload_n X.1.1 X.1.2.1 dX10_advance_193 rfl (lv_at hl 0 rfl) ?_
                  refine x_geti X hG 14 11 40 11 (inC := iX10) rfl q40.1 q40.2 ⟨by decide, by decide, by decide, rfl, rfl⟩ w1 dX10_advance_194 ?_
                  obtain ⟨v47, u48, hf, h⟩ := xbd_of h
                  refine x_callVi0 X hG hS (c_X10_byteAt l t _ _ _ _ hf) (cwV 1 X.1.2.2.2.2 gX10_advance_X10_byteAt rfl rfl rfl hd_X10_byteAt ⟨Nat.le_of_ble_eq_true rfl, Nat.le_of_ble_eq_true rfl⟩) q40.1 q40.2 rfl (by decide) (by rfl) hl.1 (Nat.le_of_ble_eq_true rfl) dX10_advance_197 ⟨by decide, by decide⟩ rfl (fun H locs hG hS => ?_)
                  refine x_iadd X dX10_advance_200 ?_
                  refine x_bipush X dX10_advance_201 (by decide) ?_
                  refine x_isub X dX10_advance_203 ?_
                  refine lv_goto (tgt := 211) X.1.1 X.1.2.1 dX10_advance_204 (by decide) ?_
                  exact Jj41 _ _ h _ _ _ hG hS (lv_sub hl [0] rfl)
            exact Lgo32 FU _ h _ _ _ hG hS (lv_sub hl [1] rfl)
        · replace h := xif_f h c12
          obtain ⟨j49, ej49, h⟩ := xlet_of h
          have Jj49 : ∀ (u50 : uS), j49 u50 = some (r, u') → xG p l e rX10_advance s m args below meth c t Q 2 0 0 116 u50 [(0, .ref (t.2.2.1 40))] [] := by
              intro u50 h H locs ls hG hS hl
              replace h := (congrFun ej49 u50).symm.trans h
              refine lv_aload_n X.1.1 X.1.2.1 dX10_advance_116 rfl (lv_at hl 0 rfl) ?_
              refine lv_aload_n X.1.1 X.1.2.1 dX10_advance_117 rfl (lv_at hl 0 rfl) ?_
              refine x_geti X hG 14 11 40 11 (inC := iX10) rfl q40.1 q40.2 ⟨by decide, by decide, by decide, rfl, rfl⟩ w1 dX10_advance_118 ?_
              refine lv_aload_n X.1.1 X.1.2.1 dX10_advance_121 rfl (lv_at hl 0 rfl) ?_
              refine x_geti X hG 14 10 40 10 (inC := iX10) rfl q40.1 q40.2 ⟨by decide, by decide, by decide, rfl, rfl⟩ w2 dX10_advance_122 ?_
              refine x_isub X dX10_advance_125 ?_
              refine x_bipush X dX10_advance_126 (by decide) ?_
              obtain ⟨g51, h⟩ := xgd_of h
              obtain ⟨j52, ej52, h⟩ := xlet_of h
              have Jj52 : ∀ (s53 : Int) (u54 : uS), j52 s53 u54 = some (r, u') → xG p l e rX10_advance s m args below meth c t Q 2 0 0 136 u54 [] [.int (iI s53), .ref (t.2.2.1 40)] := by
                  intro s53 u54 h H locs ls hG hS hl
                  replace h := (congrFun (congrFun ej52 s53) u54).symm.trans h
                  refine x_puti X hG hS 14 12 40 12 _ tyX10 tyX10_ok nmX10 (inC := iX10) rfl q40.1 q40.2 ⟨by decide, by decide, by decide, rfl, rfl⟩ rfl (by decide +kernel) w4 dX10_advance_136 (fun H locs hG hS => ?_)
                  obtain ⟨u55, eu55, h⟩ := xlet_of h
                  replace hG : G t u55 H := by rw [eu55]; exact hG
                  refine lv_goto (tgt := 277) X.1.1 X.1.2.1 dX10_advance_139 (by decide) ?_
                  cases h
                  exact hret _ _ _ _ dX10_advance_277 hG hS
              refine x_icmp_le (tgt := 135) X g51 ⟨by decide, by decide⟩ dX10_advance_128 (by decide) (fun c56 => ?_) (fun c56 => ?_)
              · replace h := xif_t h c56
                refine x_iconst X dX10_advance_135 ?_
                exact Jj52 _ _ h _ _ _ hG hS (lv_sub hl [] rfl)
              · replace h := xif_f h c56
                refine x_iconst X dX10_advance_131 ?_
                refine lv_goto (tgt := 136) X.1.1 X.1.2.1 dX10_advance_132 (by decide) ?_
                exact Jj52 _ _ h _ _ _ hG hS (lv_sub hl [] rfl)
          have Lgo57 : ∀ (n : Nat) (u58 : uS), xl1 (s_X10_advance_85 j49) n u58 = some (r, u') → xG p l e rX10_advance s m args below meth c t Q 2 0 0 85 u58 [(0, .ref (t.2.2.1 40))] [] := by
            intro n u58 h
            refine xl1_W (F := s_X10_advance_85 j49) (fun u58 q => q = (r, u') → xG p l e rX10_advance s m args below meth c t Q 2 0 0 85 u58 [(0, .ref (t.2.2.1 40))] []) ?_ n u58 _ h rfl
            intro go57 igo57 u58 q h hq H locs ls hG hS hl
            subst hq
            unfold s_X10_advance_85 at h
            refine lv_aload_n X.1.1 X.1.2.1 dX10_advance_85 rfl (lv_at hl 0 rfl) ?_
            refine lv_aload_n X.1.1 X.1.2.1 dX10_advance_86 rfl (lv_at hl 0 rfl) ?_
            refine x_geti X hG 14 11 40 11 (inC := iX10) rfl q40.1 q40.2 ⟨by decide, by decide, by decide, rfl, rfl⟩ w1 dX10_advance_87 ?_
            obtain ⟨v59, u60, hf, h⟩ := xbd_of h
            refine x_callVi0 X hG hS (c_X10_byteAt l t _ _ _ _ hf) (cwV 1 X.1.2.2.2.2 gX10_advance_X10_byteAt rfl rfl rfl hd_X10_byteAt ⟨Nat.le_of_ble_eq_true rfl, Nat.le_of_ble_eq_true rfl⟩) q40.1 q40.2 rfl (by decide) (by rfl) hl.1 (Nat.le_of_ble_eq_true rfl) dX10_advance_90 ⟨by decide, by decide⟩ rfl (fun H locs hG hS => ?_)
            refine x_bipush X dX10_advance_93 (by decide) ?_
            refine x_bipush X dX10_advance_95 (by decide) ?_
            obtain ⟨v61, u62, hf, h⟩ := xbd_of h
            refine x_callSi0 X hG hS (c_X10_within l t _ _ _ _ _ _ hf) (va_cwS 3 X.1.2.2.2.2 gX10_advance_X10_within rfl rfl rfl hds_X10_within ⟨Nat.le_of_ble_eq_true rfl, Nat.le_of_ble_eq_true rfl⟩) (by rfl) hl.1 (Nat.le_of_ble_eq_true rfl) dX10_advance_97 ⟨by decide, by decide⟩ rfl (fun H locs hG hS => ?_)
            obtain ⟨g63, h⟩ := xgd_of h
            refine x_if_eq (tgt := 116) X g63 dX10_advance_100 (by decide) (fun c64 => ?_) (fun c64 => ?_)
            · replace h := xif_t h c64
              exact Jj49 _ h _ _ _ hG hS (lv_sub hl [0] rfl)
            · replace h := xif_f h c64
              refine lv_aload_n X.1.1 X.1.2.1 dX10_advance_103 rfl (lv_at hl 0 rfl) ?_
              refine lv_dup X.1.1 X.1.2.1 dX10_advance_104 rfl ?_
              refine x_geti X hG 14 11 40 11 (inC := iX10) rfl q40.1 q40.2 ⟨by decide, by decide, by decide, rfl, rfl⟩ w1 dX10_advance_105 ?_
              refine x_iconst X dX10_advance_108 ?_
              refine x_iadd X dX10_advance_109 ?_
              refine x_puti X hG hS 14 11 40 11 _ tyX10 tyX10_ok nmX10 (inC := iX10) rfl q40.1 q40.2 ⟨by decide, by decide, by decide, rfl, rfl⟩ rfl (by decide +kernel) w1 dX10_advance_110 (fun H locs hG hS => ?_)
              obtain ⟨u65, eu65, h⟩ := xlet_of h
              replace hG : G t u65 H := by rw [eu65]; exact hG
              refine lv_goto (tgt := 85) X.1.1 X.1.2.1 dX10_advance_113 (by decide) ?_
              exact igo57 _ _ h rfl _ _ _ hG hS (lv_sub hl [0] rfl)
          exact Lgo57 FU _ h _ _ _ hG hS (lv_sub hl [1] rfl)
      · replace h := xif_t h c8
        refine lv_aload_n X.1.1 X.1.2.1 dX10_advance_66 rfl (lv_at hl 1 rfl) ?_
        refine x_iconst X dX10_advance_67 ?_
        refine x_puti X hG hS 14 12 40 12 _ tyX10 tyX10_ok nmX10 (inC := iX10) rfl q40.1 q40.2 ⟨by decide, by decide, by decide, rfl, rfl⟩ rfl (by decide +kernel) w4 dX10_advance_68 (fun H locs hG hS => ?_)
        obtain ⟨u66, eu66, h⟩ := xlet_of h
        replace hG : G t u66 H := by rw [eu66]; exact hG
        refine lv_goto (tgt := 277) X.1.1 X.1.2.1 dX10_advance_71 (by decide) ?_
        cases h
        exact hret _ _ _ _ dX10_advance_277 hG hS
  have Lgo67 : ∀ (n : Nat) (u68 : uS), xl1 (s_X10_advance_0 j1) n u68 = some (r, u') → xG p l e rX10_advance s m args below meth c t Q 2 0 0 0 u68 [(0, .ref (t.2.2.1 40))] [] := by
    intro n u68 h
    refine xl1_W (F := s_X10_advance_0 j1) (fun u68 q => q = (r, u') → xG p l e rX10_advance s m args below meth c t Q 2 0 0 0 u68 [(0, .ref (t.2.2.1 40))] []) ?_ n u68 _ h rfl
    intro go67 igo67 u68 q h hq H locs ls hG hS hl
    subst hq
    unfold s_X10_advance_0 at h
    refine lv_aload_n X.1.1 X.1.2.1 dX10_advance_0 rfl (lv_at hl 0 rfl) ?_
    refine lv_aload_n X.1.1 X.1.2.1 dX10_advance_1 rfl (lv_at hl 0 rfl) ?_
    refine x_geti X hG 14 11 40 11 (inC := iX10) rfl q40.1 q40.2 ⟨by decide, by decide, by decide, rfl, rfl⟩ w1 dX10_advance_2 ?_
    obtain ⟨v69, u70, hf, h⟩ := xbd_of h
    refine x_callVi0 X hG hS (c_X10_byteAt l t _ _ _ _ hf) (cwV 1 X.1.2.2.2.2 gX10_advance_X10_byteAt rfl rfl rfl hd_X10_byteAt ⟨Nat.le_of_ble_eq_true rfl, Nat.le_of_ble_eq_true rfl⟩) q40.1 q40.2 rfl (by decide) (by rfl) hl.1 (Nat.le_of_ble_eq_true rfl) dX10_advance_5 ⟨by decide, by decide⟩ rfl (fun H locs hG hS => ?_)
    refine x_bipush X dX10_advance_8 (by decide) ?_
    obtain ⟨g71, h⟩ := xgd_of h
    obtain ⟨j72, ej72, h⟩ := xlet_of h
    have Jj72 : ∀ (u73 : uS), j72 u73 = some (r, u') → xG p l e rX10_advance s m args below meth c t Q 2 0 0 26 u73 [(0, .ref (t.2.2.1 40))] [] := by
        intro u73 h H locs ls hG hS hl
        replace h := (congrFun ej72 u73).symm.trans h
        refine lv_aload_n X.1.1 X.1.2.1 dX10_advance_26 rfl (lv_at hl 0 rfl) ?_
        refine lv_dup X.1.1 X.1.2.1 dX10_advance_27 rfl ?_
        refine x_geti X hG 14 11 40 11 (inC := iX10) rfl q40.1 q40.2 ⟨by decide, by decide, by decide, rfl, rfl⟩ w1 dX10_advance_28 ?_
        refine x_iconst X dX10_advance_31 ?_
        refine x_iadd X dX10_advance_32 ?_
        refine x_puti X hG hS 14 11 40 11 _ tyX10 tyX10_ok nmX10 (inC := iX10) rfl q40.1 q40.2 ⟨by decide, by decide, by decide, rfl, rfl⟩ rfl (by decide +kernel) w1 dX10_advance_33 (fun H locs hG hS => ?_)
        obtain ⟨u74, eu74, h⟩ := xlet_of h
        replace hG : G t u74 H := by rw [eu74]; exact hG
        refine lv_goto (tgt := 0) X.1.1 X.1.2.1 dX10_advance_36 (by decide) ?_
        exact igo67 _ _ h rfl _ _ _ hG hS (lv_sub hl [0] rfl)
    refine x_icmp_eq (tgt := 26) X g71 ⟨by decide, by decide⟩ dX10_advance_10 (by decide) (fun c75 => ?_) (fun c75 => ?_)
    · replace h := xif_t h c75
      exact Jj72 _ h _ _ _ hG hS (lv_sub hl [0] rfl)
    · replace h := xif_f h c75
      refine lv_aload_n X.1.1 X.1.2.1 dX10_advance_13 rfl (lv_at hl 0 rfl) ?_
      refine lv_aload_n X.1.1 X.1.2.1 dX10_advance_14 rfl (lv_at hl 0 rfl) ?_
      refine x_geti X hG 14 11 40 11 (inC := iX10) rfl q40.1 q40.2 ⟨by decide, by decide, by decide, rfl, rfl⟩ w1 dX10_advance_15 ?_
      obtain ⟨v76, u77, hf, h⟩ := xbd_of h
      refine x_callVi0 X hG hS (c_X10_byteAt l t _ _ _ _ hf) (cwV 1 X.1.2.2.2.2 gX10_advance_X10_byteAt rfl rfl rfl hd_X10_byteAt ⟨Nat.le_of_ble_eq_true rfl, Nat.le_of_ble_eq_true rfl⟩) q40.1 q40.2 rfl (by decide) (by rfl) hl.1 (Nat.le_of_ble_eq_true rfl) dX10_advance_18 ⟨by decide, by decide⟩ rfl (fun H locs hG hS => ?_)
      refine x_bipush X dX10_advance_21 (by decide) ?_
      obtain ⟨g78, h⟩ := xgd_of h
      refine x_icmp_ne (tgt := 39) X g78 ⟨by decide, by decide⟩ dX10_advance_23 (by decide) (fun c79 => ?_) (fun c79 => ?_)
      · replace h := xif_f h c79
        exact Jj1 _ h _ _ _ hG hS (lv_sub hl [0] rfl)
      · replace h := xif_t h c79
        exact Jj72 _ h _ _ _ hG hS (lv_sub hl [0] rfl)
  exact Lgo67 FU _ h _ _ _ hG hS (lv_sub hl [0] rfl)
theorem hd_X10_advance : yX10_advance.cls = RX10 ∧ yX10_advance.cls ≠ "java/lang/invoke/MethodHandle" ∧ yX10_advance.cls ≠ "java/lang/invoke/VarHandle" ∧ (parseMethodDescriptor yX10_advance.desc).map (fun d => d.parameters.length) = some 0 := by decide +kernel
abbrev rX10_fails : Room := { frames := 0, cells := 0, slots := 0, locals := 0 }
set_option maxRecDepth 100000 in
set_option maxHeartbeats 8000000 in
theorem c_X10_fails (l : Launch) (t : gP) (x1 : Int) (u : uS) (r : Int) (u' : uS) (h : f_X10_fails x1 u = some (r, u')) : xMi l yX10_fails wsX10_fails rX10_fails t [.ref (t.2.2.1 40), .int (iI x1)] u r u' 0 0 := by
  refine x_ofWi (cc := cX10_fails) (maxL := 2) (ret := .boolean) (own := RX10) (by decide) rfl rfl (Nat.le_of_ble_eq_true rfl) ?_
  intro p e s m args below meth c Q X hret H locs ls hG hS hl
  replace hl : lv_has ls 2 [(0, .ref (t.2.2.1 40)), (1, .int (iI x1))] := hl
  have q40 : 40 < NN ∧ sT 40 = 14 := by decide
  have iX10 : ∀ w ∈ wsX100, w ∈ wsX10_fails := by decide +kernel
  have w1 : Cond.fieldLink RX10 114 "TriggerNetworkModel" "error" "I" ∈ wsX10_fails := x_w 1 rfl
  have w2 : Cond.fieldLink RX10 92 "TriggerNetworkModel" "start" "I" ∈ wsX10_fails := x_w 2 rfl
  have w3 : Cond.fieldLink RX10 32 "TriggerNetworkModel" "errorAt" "I" ∈ wsX10_fails := x_w 3 rfl
  unfold f_X10_fails at h
  refine lv_aload_n X.1.1 X.1.2.1 dX10_fails_0 rfl (lv_at hl 0 rfl) ?_
  refine x_geti X hG 14 14 40 14 (inC := iX10) rfl q40.1 q40.2 ⟨by decide, by decide, by decide, rfl, rfl⟩ w1 dX10_fails_1 ?_
  obtain ⟨g1, h⟩ := xgd_of h
  refine x_if_ne (tgt := 20) X g1 dX10_fails_4 (by decide) (fun c2 => ?_) (fun c2 => ?_)
  · replace h := xif_f h c2
    refine x_iconst X dX10_fails_20 ?_
    cases h
    exact hret _ _ _ _ dX10_fails_21 (by decide) hG hS
  · replace h := xif_t h c2
    refine lv_aload_n X.1.1 X.1.2.1 dX10_fails_7 rfl (lv_at hl 0 rfl) ?_
    refine lv_iload_n X.1.1 X.1.2.1 dX10_fails_8 rfl (lv_at hl 1 rfl) ?_
    refine x_puti X hG hS 14 14 40 14 _ tyX10 tyX10_ok nmX10 (inC := iX10) rfl q40.1 q40.2 ⟨by decide, by decide, by decide, rfl, rfl⟩ rfl (by decide +kernel) w1 dX10_fails_9 (fun H locs hG hS => ?_)
    obtain ⟨u3, eu3, h⟩ := xlet_of h
    replace hG : G t u3 H := by rw [eu3]; exact hG
    refine lv_aload_n X.1.1 X.1.2.1 dX10_fails_12 rfl (lv_at hl 0 rfl) ?_
    refine lv_aload_n X.1.1 X.1.2.1 dX10_fails_13 rfl (lv_at hl 0 rfl) ?_
    refine x_geti X hG 14 10 40 10 (inC := iX10) rfl q40.1 q40.2 ⟨by decide, by decide, by decide, rfl, rfl⟩ w2 dX10_fails_14 ?_
    refine x_puti X hG hS 14 15 40 15 _ tyX10 tyX10_ok nmX10 (inC := iX10) rfl q40.1 q40.2 ⟨by decide, by decide, by decide, rfl, rfl⟩ rfl (by decide +kernel) w3 dX10_fails_17 (fun H locs hG hS => ?_)
    obtain ⟨u4, eu4, h⟩ := xlet_of h
    replace hG : G t u4 H := by rw [eu4]; exact hG
    refine x_iconst X dX10_fails_20 ?_
    cases h
    exact hret _ _ _ _ dX10_fails_21 (by decide) hG hS
theorem hd_X10_fails : yX10_fails.cls = RX10 ∧ yX10_fails.cls ≠ "java/lang/invoke/MethodHandle" ∧ yX10_fails.cls ≠ "java/lang/invoke/VarHandle" ∧ (parseMethodDescriptor yX10_fails.desc).map (fun d => d.parameters.length) = some 1 := by decide +kernel
abbrev rX10_takes : Room := { frames := 2, cells := 0, slots := 0, locals := 43 }
set_option maxRecDepth 100000 in
set_option maxHeartbeats 8000000 in
theorem c_X10_takes (l : Launch) (t : gP) (x1 : Int) (x2 : Int) (u : uS) (r : Int) (u' : uS) (h : f_X10_takes x1 x2 u = some (r, u')) : xMi l yX10_takes wsX10_takes rX10_takes t [.ref (t.2.2.1 40), .int (iI x1), .int (iI x2)] u r u' 0 0 := by
  refine x_ofWi (cc := cX10_takes) (maxL := 3) (ret := .boolean) (own := RX10) (by decide) rfl rfl (Nat.le_of_ble_eq_true rfl) ?_
  intro p e s m args below meth c Q X hret H locs ls hG hS hl
  replace hl : lv_has ls 3 [(0, .ref (t.2.2.1 40)), (1, .int (iI x1)), (2, .int (iI x2))] := hl
  have q40 : 40 < NN ∧ sT 40 = 14 := by decide
  have iX10 : ∀ w ∈ wsX100, w ∈ wsX10_takes := by decide +kernel
  have w1 : Cond.fieldLink RX10 98 "TriggerNetworkModel" "token" "I" ∈ wsX10_takes := x_w 1 rfl
  have w2 : Cond.fieldLink RX10 95 "TriggerNetworkModel" "value" "I" ∈ wsX10_takes := x_w 2 rfl
  have w3 : Cond.fieldLink RX10 121 "TriggerNetworkModel" "number" "I" ∈ wsX10_takes := x_w 3 rfl
  unfold f_X10_takes at h
  refine lv_aload_n X.1.1 X.1.2.1 dX10_takes_0 rfl (lv_at hl 0 rfl) ?_
  refine x_geti X hG 14 12 40 12 (inC := iX10) rfl q40.1 q40.2 ⟨by decide, by decide, by decide, rfl, rfl⟩ w1 dX10_takes_1 ?_
  refine x_iconst X dX10_takes_4 ?_
  obtain ⟨g1, h⟩ := xgd_of h
  refine x_icmp_eq (tgt := 14) X g1 ⟨by decide, by decide⟩ dX10_takes_5 (by decide) (fun c2 => ?_) (fun c2 => ?_)
  · replace h := xif_t h c2
    refine lv_aload_n X.1.1 X.1.2.1 dX10_takes_14 rfl (lv_at hl 0 rfl) ?_
    refine x_geti X hG 14 13 40 13 (inC := iX10) rfl q40.1 q40.2 ⟨by decide, by decide, by decide, rfl, rfl⟩ w2 dX10_takes_15 ?_
    refine lv_iload_n X.1.1 X.1.2.1 dX10_takes_18 rfl (lv_at hl 1 rfl) ?_
    refine lv_iload_n X.1.1 X.1.2.1 dX10_takes_19 rfl (lv_at hl 2 rfl) ?_
    obtain ⟨v3, u4, hf, h⟩ := xbd_of h
    refine x_callSi0 X hG hS (c_X10_within l t _ _ _ _ _ _ hf) (va_cwS 3 X.1.2.2.2.2 gX10_takes_X10_within rfl rfl rfl hds_X10_within ⟨Nat.le_of_ble_eq_true rfl, Nat.le_of_ble_eq_true rfl⟩) (by rfl) hl.1 (Nat.le_of_ble_eq_true rfl) dX10_takes_20 ⟨by decide, by decide⟩ rfl (fun H locs hG hS => ?_)
    obtain ⟨g5, h⟩ := xgd_of h
    refine x_if_ne (tgt := 32) X g5 dX10_takes_23 (by decide) (fun c6 => ?_) (fun c6 => ?_)
    · replace h := xif_f h c6
      refine lv_aload_n X.1.1 X.1.2.1 dX10_takes_32 rfl (lv_at hl 0 rfl) ?_
      refine lv_aload_n X.1.1 X.1.2.1 dX10_takes_33 rfl (lv_at hl 0 rfl) ?_
      refine x_geti X hG 14 13 40 13 (inC := iX10) rfl q40.1 q40.2 ⟨by decide, by decide, by decide, rfl, rfl⟩ w2 dX10_takes_34 ?_
      refine x_puti X hG hS 14 16 40 16 _ tyX10 tyX10_ok nmX10 (inC := iX10) rfl q40.1 q40.2 ⟨by decide, by decide, by decide, rfl, rfl⟩ rfl (by decide +kernel) w3 dX10_takes_37 (fun H locs hG hS => ?_)
      obtain ⟨u7, eu7, h⟩ := xlet_of h
      replace hG : G t u7 H := by rw [eu7]; exact hG
      refine lv_aload_n X.1.1 X.1.2.1 dX10_takes_40 rfl (lv_at hl 0 rfl) ?_
      obtain ⟨v8, u9, hf, h⟩ := xbd_of h
      refine x_callVv0 X hG hS (c_X10_advance l t  _ _ _ hf) (cwV 0 X.1.2.2.2.2 gX10_takes_X10_advance rfl rfl rfl hd_X10_advance ⟨Nat.le_of_ble_eq_true rfl, Nat.le_of_ble_eq_true rfl⟩) q40.1 q40.2 rfl (by decide) (by rfl) hl.1 (Nat.le_of_ble_eq_true rfl) dX10_takes_41 ⟨by decide, by decide⟩ rfl (fun H locs hG hS => ?_)
      refine x_iconst X dX10_takes_44 ?_
      cases h
      exact hret _ _ _ _ dX10_takes_45 (by decide) hG hS
    · replace h := xif_t h c6
      refine lv_aload_n X.1.1 X.1.2.1 dX10_takes_26 rfl (lv_at hl 0 rfl) ?_
      refine x_iconst X dX10_takes_27 ?_
      obtain ⟨v10, u11, hf, h⟩ := xbd_of h
      refine x_callVi0 X hG hS (c_X10_fails l t _ _ _ _ hf) (cwV 1 X.1.2.2.2.2 gX10_takes_X10_fails rfl rfl rfl hd_X10_fails ⟨Nat.le_of_ble_eq_true rfl, Nat.le_of_ble_eq_true rfl⟩) q40.1 q40.2 rfl (by decide) (by rfl) hl.1 (Nat.le_of_ble_eq_true rfl) dX10_takes_28 ⟨by decide, by decide⟩ rfl (fun H locs hG hS => ?_)
      obtain ⟨g12, h⟩ := xgd_of h
      cases h
      exact hret _ _ _ _ dX10_takes_31 (nz_of g12) hG hS
  · replace h := xif_f h c2
    refine lv_aload_n X.1.1 X.1.2.1 dX10_takes_8 rfl (lv_at hl 0 rfl) ?_
    refine x_iconst X dX10_takes_9 ?_
    obtain ⟨v13, u14, hf, h⟩ := xbd_of h
    refine x_callVi0 X hG hS (c_X10_fails l t _ _ _ _ hf) (cwV 1 X.1.2.2.2.2 gX10_takes_X10_fails rfl rfl rfl hd_X10_fails ⟨Nat.le_of_ble_eq_true rfl, Nat.le_of_ble_eq_true rfl⟩) q40.1 q40.2 rfl (by decide) (by rfl) hl.1 (Nat.le_of_ble_eq_true rfl) dX10_takes_10 ⟨by decide, by decide⟩ rfl (fun H locs hG hS => ?_)
    obtain ⟨g15, h⟩ := xgd_of h
    cases h
    exact hret _ _ _ _ dX10_takes_13 (nz_of g15) hG hS
theorem hd_X10_takes : yX10_takes.cls = RX10 ∧ yX10_takes.cls ≠ "java/lang/invoke/MethodHandle" ∧ yX10_takes.cls ≠ "java/lang/invoke/VarHandle" ∧ (parseMethodDescriptor yX10_takes.desc).map (fun d => d.parameters.length) = some 2 := by decide +kernel
abbrev rX10_starts : Room := { frames := 2, cells := 0, slots := 0, locals := 43 }
set_option maxRecDepth 100000 in
set_option maxHeartbeats 8000000 in
theorem c_X10_starts (l : Launch) (t : gP) (x1 : Int) (x2 : Int) (u : uS) (r : Int) (u' : uS) (h : f_X10_starts x1 x2 u = some (r, u')) : xMi l yX10_starts wsX10_starts rX10_starts t [.ref (t.2.2.1 40), .int (iI x1), .int (iI x2)] u r u' 0 0 := by
  refine x_ofWi (cc := cX10_starts) (maxL := 3) (ret := .boolean) (own := RX10) (by decide) rfl rfl (Nat.le_of_ble_eq_true rfl) ?_
  intro p e s m args below meth c Q X hret H locs ls hG hS hl
  replace hl : lv_has ls 3 [(0, .ref (t.2.2.1 40)), (1, .int (iI x1)), (2, .int (iI x2))] := hl
  have q40 : 40 < NN ∧ sT 40 = 14 := by decide
  unfold f_X10_starts at h
  refine lv_iload_n X.1.1 X.1.2.1 dX10_starts_0 rfl (lv_at hl 2 rfl) ?_
  obtain ⟨g1, h⟩ := xgd_of h
  refine x_if_ne (tgt := 10) X g1 dX10_starts_1 (by decide) (fun c2 => ?_) (fun c2 => ?_)
  · replace h := xif_f h c2
    refine lv_aload_n X.1.1 X.1.2.1 dX10_starts_10 rfl (lv_at hl 0 rfl) ?_
    obtain ⟨v3, u4, hf, h⟩ := xbd_of h
    refine x_callVv0 X hG hS (c_X10_advance l t  _ _ _ hf) (cwV 0 X.1.2.2.2.2 gX10_starts_X10_advance rfl rfl rfl hd_X10_advance ⟨Nat.le_of_ble_eq_true rfl, Nat.le_of_ble_eq_true rfl⟩) q40.1 q40.2 rfl (by decide) (by rfl) hl.1 (Nat.le_of_ble_eq_true rfl) dX10_starts_11 ⟨by decide, by decide⟩ rfl (fun H locs hG hS => ?_)
    refine x_iconst X dX10_starts_14 ?_
    cases h
    exact hret _ _ _ _ dX10_starts_15 (by decide) hG hS
  · replace h := xif_t h c2
    refine lv_aload_n X.1.1 X.1.2.1 dX10_starts_4 rfl (lv_at hl 0 rfl) ?_
    refine lv_iload_n X.1.1 X.1.2.1 dX10_starts_5 rfl (lv_at hl 1 rfl) ?_
    obtain ⟨v5, u6, hf, h⟩ := xbd_of h
    refine x_callVi0 X hG hS (c_X10_fails l t _ _ _ _ hf) (cwV 1 X.1.2.2.2.2 gX10_starts_X10_fails rfl rfl rfl hd_X10_fails ⟨Nat.le_of_ble_eq_true rfl, Nat.le_of_ble_eq_true rfl⟩) q40.1 q40.2 rfl (by decide) (by rfl) hl.1 (Nat.le_of_ble_eq_true rfl) dX10_starts_6 ⟨by decide, by decide⟩ rfl (fun H locs hG hS => ?_)
    obtain ⟨g7, h⟩ := xgd_of h
    cases h
    exact hret _ _ _ _ dX10_starts_9 (nz_of g7) hG hS
theorem hd_X10_starts : yX10_starts.cls = RX10 ∧ yX10_starts.cls ≠ "java/lang/invoke/MethodHandle" ∧ yX10_starts.cls ≠ "java/lang/invoke/VarHandle" ∧ (parseMethodDescriptor yX10_starts.desc).map (fun d => d.parameters.length) = some 2 := by decide +kernel
abbrev rX10_once : Room := { frames := 3, cells := 0, slots := 0, locals := 65 }
set_option maxRecDepth 100000 in
set_option maxHeartbeats 8000000 in
theorem c_X10_once (l : Launch) (t : gP) (x1 : Int) (u : uS) (r : Int) (u' : uS) (h : f_X10_once x1 u = some (r, u')) : xMi l yX10_once wsX10_once rX10_once t [.ref (t.2.2.1 40), .int (iI x1)] u r u' 0 0 := by
  refine x_ofWi (cc := cX10_once) (maxL := 2) (ret := .boolean) (own := RX10) (by decide) rfl rfl (Nat.le_of_ble_eq_true rfl) ?_
  intro p e s m args below meth c Q X hret H locs ls hG hS hl
  replace hl : lv_has ls 2 [(0, .ref (t.2.2.1 40)), (1, .int (iI x1))] := hl
  have q40 : 40 < NN ∧ sT 40 = 14 := by decide
  have iX10 : ∀ w ∈ wsX100, w ∈ wsX10_once := by decide +kernel
  have w1 : Cond.fieldLink RX10 127 "TriggerNetworkModel" "seen" "I" ∈ wsX10_once := x_w 1 rfl
  unfold f_X10_once at h
  refine lv_aload_n X.1.1 X.1.2.1 dX10_once_0 rfl (lv_at hl 0 rfl) ?_
  refine x_iconst X dX10_once_1 ?_
  refine lv_aload_n X.1.1 X.1.2.1 dX10_once_2 rfl (lv_at hl 0 rfl) ?_
  refine x_geti X hG 14 17 40 17 (inC := iX10) rfl q40.1 q40.2 ⟨by decide, by decide, by decide, rfl, rfl⟩ w1 dX10_once_3 ?_
  refine lv_iload_n X.1.1 X.1.2.1 dX10_once_6 rfl (lv_at hl 1 rfl) ?_
  obtain ⟨g1, h⟩ := xgd_of h
  refine x_ishr X g1.1 g1.2 dX10_once_7 ?_
  refine x_iconst X dX10_once_8 ?_
  refine x_and X (k := 1) (by decide) (by decide) dX10_once_9 ?_
  obtain ⟨g2, h⟩ := xgd_of h
  obtain ⟨j3, ej3, h⟩ := xlet_of h
  have Jj3 : ∀ (s4 : Int) (u5 : uS), j3 s4 u5 = some (r, u') → xG p l e rX10_once s m args below meth c t Q 2 0 0 18 u5 [(0, .ref (t.2.2.1 40)), (1, .int (iI x1))] [.int (iI s4), .int (iI 2), .ref (t.2.2.1 40)] := by
      intro s4 u5 h H locs ls hG hS hl
      replace h := (congrFun (congrFun ej3 s4) u5).symm.trans h
      obtain ⟨v6, u7, hf, h⟩ := xbd_of h
      refine x_callVi0 X hG hS (c_X10_starts l t _ _ _ _ _ hf) (cwV 2 X.1.2.2.2.2 gX10_once_X10_starts rfl rfl rfl hd_X10_starts ⟨Nat.le_of_ble_eq_true rfl, Nat.le_of_ble_eq_true rfl⟩) q40.1 q40.2 rfl (by decide) (by rfl) hl.1 (Nat.le_of_ble_eq_true rfl) dX10_once_18 ⟨by decide, by decide⟩ rfl (fun H locs hG hS => ?_)
      obtain ⟨g8, h⟩ := xgd_of h
      refine x_if_ne (tgt := 26) X g8 dX10_once_21 (by decide) (fun c9 => ?_) (fun c9 => ?_)
      · replace h := xif_f h c9
        refine lv_aload_n X.1.1 X.1.2.1 dX10_once_26 rfl (lv_at hl 0 rfl) ?_
        refine lv_dup X.1.1 X.1.2.1 dX10_once_27 rfl ?_
        refine x_geti X hG 14 17 40 17 (inC := iX10) rfl q40.1 q40.2 ⟨by decide, by decide, by decide, rfl, rfl⟩ w1 dX10_once_28 ?_
        refine x_iconst X dX10_once_31 ?_
        refine lv_iload_n X.1.1 X.1.2.1 dX10_once_32 rfl (lv_at hl 1 rfl) ?_
        obtain ⟨g10, h⟩ := xgd_of h
        refine x_ishl X g10 dX10_once_33 ?_
        refine x_ior X dX10_once_34 ?_
        refine x_puti X hG hS 14 17 40 17 _ tyX10 tyX10_ok nmX10 (inC := iX10) rfl q40.1 q40.2 ⟨by decide, by decide, by decide, rfl, rfl⟩ rfl (by decide +kernel) w1 dX10_once_35 (fun H locs hG hS => ?_)
        obtain ⟨u11, eu11, h⟩ := xlet_of h
        replace hG : G t u11 H := by rw [eu11]; exact hG
        refine x_iconst X dX10_once_38 ?_
        cases h
        exact hret _ _ _ _ dX10_once_39 (by decide) hG hS
      · replace h := xif_t h c9
        refine x_iconst X dX10_once_24 ?_
        cases h
        exact hret _ _ _ _ dX10_once_25 (by decide) hG hS
  refine x_if_ne (tgt := 17) X g2 dX10_once_10 (by decide) (fun c12 => ?_) (fun c12 => ?_)
  · replace h := xif_f h c12
    refine x_iconst X dX10_once_17 ?_
    exact Jj3 _ _ h _ _ _ hG hS (lv_sub hl [0, 1] rfl)
  · replace h := xif_t h c12
    refine x_iconst X dX10_once_13 ?_
    refine lv_goto (tgt := 18) X.1.1 X.1.2.1 dX10_once_14 (by decide) ?_
    exact Jj3 _ _ h _ _ _ hG hS (lv_sub hl [0, 1] rfl)
theorem hd_X10_once : yX10_once.cls = RX10 ∧ yX10_once.cls ≠ "java/lang/invoke/MethodHandle" ∧ yX10_once.cls ≠ "java/lang/invoke/VarHandle" ∧ (parseMethodDescriptor yX10_once.desc).map (fun d => d.parameters.length) = some 1 := by decide +kernel
abbrev rX10_sets : Room := { frames := 3, cells := 0, slots := 0, locals := 65 }
set_option maxRecDepth 100000 in
set_option maxHeartbeats 8000000 in
theorem c_X10_sets (l : Launch) (t : gP) (x1 : Int) (x2 : Int) (x3 : Int) (u : uS) (r : Int) (u' : uS) (h : f_X10_sets x1 x2 x3 u = some (r, u')) : xMi l yX10_sets wsX10_sets rX10_sets t [.ref (t.2.2.1 40), .int (iI x1), .int (iI x2), .int (iI x3)] u r u' 0 0 := by
  refine x_ofWi (cc := cX10_sets) (maxL := 4) (ret := .boolean) (own := RX10) (by decide) rfl rfl (Nat.le_of_ble_eq_true rfl) ?_
  intro p e s m args below meth c Q X hret H locs ls hG hS hl
  replace hl : lv_has ls 4 [(0, .ref (t.2.2.1 40)), (1, .int (iI x1)), (2, .int (iI x2)), (3, .int (iI x3))] := hl
  have q40 : 40 < NN ∧ sT 40 = 14 := by decide
  have iX10 : ∀ w ∈ wsX100, w ∈ wsX10_sets := by decide +kernel
  have w1 : Cond.fieldLink RX10 121 "TriggerNetworkModel" "number" "I" ∈ wsX10_sets := x_w 1 rfl
  unfold f_X10_sets at h
  refine lv_aload_n X.1.1 X.1.2.1 dX10_sets_0 rfl (lv_at hl 0 rfl) ?_
  refine lv_iload_n X.1.1 X.1.2.1 dX10_sets_1 rfl (lv_at hl 2 rfl) ?_
  refine lv_iload_n X.1.1 X.1.2.1 dX10_sets_2 rfl (lv_at hl 3 rfl) ?_
  obtain ⟨v1, u2, hf, h⟩ := xbd_of h
  refine x_callVi0 X hG hS (c_X10_takes l t _ _ _ _ _ hf) (cwV 2 X.1.2.2.2.2 gX10_sets_X10_takes rfl rfl rfl hd_X10_takes ⟨Nat.le_of_ble_eq_true rfl, Nat.le_of_ble_eq_true rfl⟩) q40.1 q40.2 rfl (by decide) (by rfl) hl.1 (Nat.le_of_ble_eq_true rfl) dX10_sets_3 ⟨by decide, by decide⟩ rfl (fun H locs hG hS => ?_)
  obtain ⟨g3, h⟩ := xgd_of h
  refine x_if_ne (tgt := 11) X g3 dX10_sets_6 (by decide) (fun c4 => ?_) (fun c4 => ?_)
  · replace h := xif_f h c4
    refine lv_aload_n X.1.1 X.1.2.1 dX10_sets_11 rfl (lv_at hl 0 rfl) ?_
    refine lv_iload_n X.1.1 X.1.2.1 dX10_sets_12 rfl (lv_at hl 1 rfl) ?_
    refine lv_aload_n X.1.1 X.1.2.1 dX10_sets_13 rfl (lv_at hl 0 rfl) ?_
    refine x_geti X hG 14 16 40 16 (inC := iX10) rfl q40.1 q40.2 ⟨by decide, by decide, by decide, rfl, rfl⟩ w1 dX10_sets_14 ?_
    obtain ⟨v5, u6, hf, h⟩ := xbd_of h
    refine x_callVv0 X hG hS (c_X10_draft l t _ _ _ _ _ hf) (cwV 2 X.1.2.2.2.2 gX10_sets_X10_draft rfl rfl rfl hd_X10_draft ⟨Nat.le_of_ble_eq_true rfl, Nat.le_of_ble_eq_true rfl⟩) q40.1 q40.2 rfl (by decide) (by rfl) hl.1 (Nat.le_of_ble_eq_true rfl) dX10_sets_17 ⟨by decide, by decide⟩ rfl (fun H locs hG hS => ?_)
    refine x_iconst X dX10_sets_20 ?_
    cases h
    exact hret _ _ _ _ dX10_sets_21 (by decide) hG hS
  · replace h := xif_t h c4
    refine x_iconst X dX10_sets_9 ?_
    cases h
    exact hret _ _ _ _ dX10_sets_10 (by decide) hG hS
theorem hd_X10_sets : yX10_sets.cls = RX10 ∧ yX10_sets.cls ≠ "java/lang/invoke/MethodHandle" ∧ yX10_sets.cls ≠ "java/lang/invoke/VarHandle" ∧ (parseMethodDescriptor yX10_sets.desc).map (fun d => d.parameters.length) = some 3 := by decide +kernel
abbrev rX10_puts : Room := { frames := 3, cells := 0, slots := 0, locals := 65 }
set_option maxRecDepth 100000 in
set_option maxHeartbeats 8000000 in
theorem c_X10_puts (l : Launch) (t : gP) (k1 : Nat) (x2 : Int) (x3 : Int) (x4 : Int) (u : uS) (r : Int) (u' : uS) (h : f_X10_puts k1 x2 x3 x4 u = some (r, u')) : xMi l yX10_puts wsX10_puts rX10_puts t [.ref (t.2.2.1 40), .ref (t.2.2.1 k1), .int (iI x2), .int (iI x3), .int (iI x4)] u r u' 0 0 := by
  refine x_ofWi (cc := cX10_puts) (maxL := 5) (ret := .boolean) (own := RX10) (by decide) rfl rfl (Nat.le_of_ble_eq_true rfl) ?_
  intro p e s m args below meth c Q X hret H locs ls hG hS hl
  replace hl : lv_has ls 5 [(0, .ref (t.2.2.1 40)), (1, .ref (t.2.2.1 k1)), (2, .int (iI x2)), (3, .int (iI x3)), (4, .int (iI x4))] := hl
  have q40 : 40 < NN ∧ sT 40 = 14 := by decide
  have iX10 : ∀ w ∈ wsX100, w ∈ wsX10_puts := by decide +kernel
  have w1 : Cond.fieldLink RX10 121 "TriggerNetworkModel" "number" "I" ∈ wsX10_puts := x_w 1 rfl
  unfold f_X10_puts at h
  obtain ⟨g1, h⟩ := xgd_of h
  refine lv_aload_n X.1.1 X.1.2.1 dX10_puts_0 rfl (lv_at hl 0 rfl) ?_
  refine lv_iload_n X.1.1 X.1.2.1 dX10_puts_1 rfl (lv_at hl 3 rfl) ?_
  refine lv_iload X.1.1 X.1.2.1 dX10_puts_2 (lv_at hl 4 rfl) ?_
  obtain ⟨v2, u3, hf, h⟩ := xbd_of h
  refine x_callVi0 X hG hS (c_X10_takes l t _ _ _ _ _ hf) (cwV 2 X.1.2.2.2.2 gX10_puts_X10_takes rfl rfl rfl hd_X10_takes ⟨Nat.le_of_ble_eq_true rfl, Nat.le_of_ble_eq_true rfl⟩) q40.1 q40.2 rfl (by decide) (by rfl) hl.1 (Nat.le_of_ble_eq_true rfl) dX10_puts_4 ⟨by decide, by decide⟩ rfl (fun H locs hG hS => ?_)
  obtain ⟨g4, h⟩ := xgd_of h
  refine x_if_ne (tgt := 12) X g4 dX10_puts_7 (by decide) (fun c5 => ?_) (fun c5 => ?_)
  · replace h := xif_f h c5
    refine lv_aload_n X.1.1 X.1.2.1 dX10_puts_12 rfl (lv_at hl 1 rfl) ?_
    refine lv_aload_n X.1.1 X.1.2.1 dX10_puts_13 rfl (lv_at hl 1 rfl) ?_
    refine x_alen X hG (arr_f g1).1 (arr_f g1).2.1 (arr_f g1).2.2 dX10_puts_14 ?_
    refine x_iconst X dX10_puts_15 ?_
    obtain ⟨g6, h⟩ := xgd_of h
    refine x_idiv X g6 ⟨by decide, by decide⟩ (by decide) dX10_puts_16 ?_
    refine lv_iload_n X.1.1 X.1.2.1 dX10_puts_17 rfl (lv_at hl 2 rfl) ?_
    refine x_iadd X dX10_puts_18 ?_
    refine lv_aload_n X.1.1 X.1.2.1 dX10_puts_19 rfl (lv_at hl 0 rfl) ?_
    refine x_geti X hG 14 16 40 16 (inC := iX10) rfl q40.1 q40.2 ⟨by decide, by decide, by decide, rfl, rfl⟩ w1 dX10_puts_20 ?_
    obtain ⟨g7, h⟩ := xgd_of h
    refine x_iast X hG hS (arr_f g1).1 (arr_f g1).2.1 (arr_f g1).2.2 g7 (sN_lt _) dX10_puts_23 (fun H locs hG hS => ?_)
    obtain ⟨u8, eu8, h⟩ := xlet_of h
    replace hG : G t u8 H := by rw [eu8]; exact hG
    refine x_iconst X dX10_puts_24 ?_
    cases h
    exact hret _ _ _ _ dX10_puts_25 (by decide) hG hS
  · replace h := xif_t h c5
    refine x_iconst X dX10_puts_10 ?_
    cases h
    exact hret _ _ _ _ dX10_puts_11 (by decide) hG hS
theorem hd_X10_puts : yX10_puts.cls = RX10 ∧ yX10_puts.cls ≠ "java/lang/invoke/MethodHandle" ∧ yX10_puts.cls ≠ "java/lang/invoke/VarHandle" ∧ (parseMethodDescriptor yX10_puts.desc).map (fun d => d.parameters.length) = some 4 := by decide +kernel
abbrev rX10_stationLine : Room := { frames := 4, cells := 0, slots := 0, locals := 89 }
set_option maxRecDepth 100000 in
set_option maxHeartbeats 8000000 in
theorem c_X10_stationLine (l : Launch) (t : gP) (u : uS) (r : Int) (u' : uS) (h : f_X10_stationLine u = some (r, u')) : xMi l yX10_stationLine wsX10_stationLine rX10_stationLine t [.ref (t.2.2.1 40)] u r u' 0 0 := by
  refine x_ofWi (cc := cX10_stationLine) (maxL := 2) (ret := .boolean) (own := RX10) (by decide) rfl rfl (Nat.le_of_ble_eq_true rfl) ?_
  intro p e s m args below meth c Q X hret H locs ls hG hS hl
  replace hl : lv_has ls 2 [(0, .ref (t.2.2.1 40))] := hl
  have q40 : 40 < NN ∧ sT 40 = 14 := by decide
  have iX10 : ∀ w ∈ wsX100, w ∈ wsX10_stationLine := by decide +kernel
  have w1 : Cond.fieldLink RX10 13 "TriggerNetworkModel" "told" "[I" ∈ wsX10_stationLine := x_w 1 rfl
  have q42 : 42 < NN ∧ sT 42 = 100 ∧ sN 42 = 30 := by decide
  have w2 : Cond.fieldLink RX10 16 "TriggerNetworkModel" "xs" "[I" ∈ wsX10_stationLine := x_w 2 rfl
  have q43 : 43 < NN ∧ sT 43 = 100 ∧ sN 43 = 16 := by decide
  have w3 : Cond.fieldLink RX10 19 "TriggerNetworkModel" "ys" "[I" ∈ wsX10_stationLine := x_w 3 rfl
  have q44 : 44 < NN ∧ sT 44 = 100 ∧ sN 44 = 16 := by decide
  unfold f_X10_stationLine at h
  refine lv_aload_n X.1.1 X.1.2.1 dX10_stationLine_0 rfl (lv_at hl 0 rfl) ?_
  refine x_getr X hG 14 2 40 2 (inC := iX10) rfl q40.1 q40.2 ⟨by decide, by decide, by decide, rfl, by decide, by decide⟩ w1 dX10_stationLine_1 ?_
  refine x_bipush X dX10_stationLine_4 (by decide) ?_
  refine x_iald X hG q42.1 q42.2.1 (n := 30) q42.2.2 ⟨by decide, by decide⟩ (by decide) dX10_stationLine_6 ?_
  refine x_name (fun x1_1 ex1_1 => ?_)
  replace h := xlet_at ex1_1 h
  refine lv_istore_n (lv' := [(1, .int (iI x1_1)), (0, .ref (t.2.2.1 40))]) X.1.1 X.1.2.1 dX10_stationLine_7 rfl hl (by decide) rfl (fun ls hl => ?_)
  refine lv_aload_n X.1.1 X.1.2.1 dX10_stationLine_8 rfl (lv_at hl 1 rfl) ?_
  refine x_iconst X dX10_stationLine_9 ?_
  refine lv_iload_n X.1.1 X.1.2.1 dX10_stationLine_10 rfl (lv_at hl 0 rfl) ?_
  refine x_bipush X dX10_stationLine_11 (by decide) ?_
  obtain ⟨g2, h⟩ := xgd_of h
  obtain ⟨j3, ej3, h⟩ := xlet_of h
  have Jj3 : ∀ (s4 : Int) (u5 : uS), j3 s4 u5 = some (r, u') → xG p l e rX10_stationLine s m args below meth c t Q 2 0 0 21 u5 [(0, .ref (t.2.2.1 40)), (1, .int (iI x1_1))] [.int (iI s4), .int (iI 4), .ref (t.2.2.1 40)] := by
      intro s4 u5 h H locs ls hG hS hl
      replace h := (congrFun (congrFun ej3 s4) u5).symm.trans h
      obtain ⟨v6, u7, hf, h⟩ := xbd_of h
      refine x_callVi0 X hG hS (c_X10_starts l t _ _ _ _ _ hf) (cwV 2 X.1.2.2.2.2 gX10_stationLine_X10_starts rfl rfl rfl hd_X10_starts ⟨Nat.le_of_ble_eq_true rfl, Nat.le_of_ble_eq_true rfl⟩) q40.1 q40.2 rfl (by decide) (by rfl) hl.1 (Nat.le_of_ble_eq_true rfl) dX10_stationLine_21 ⟨by decide, by decide⟩ rfl (fun H locs hG hS => ?_)
      obtain ⟨g8, h⟩ := xgd_of h
      refine x_if_eq (tgt := 59) X g8 dX10_stationLine_24 (by decide) (fun c9 => ?_) (fun c9 => ?_)
      · replace h := xif_t h c9
        refine x_iconst X dX10_stationLine_59 ?_
        cases h
        exact hret _ _ _ _ dX10_stationLine_60 (by decide) hG hS
      · replace h := xif_f h c9
        refine lv_aload_n X.1.1 X.1.2.1 dX10_stationLine_27 rfl (lv_at hl 0 rfl) ?_
        refine lv_aload_n X.1.1 X.1.2.1 dX10_stationLine_28 rfl (lv_at hl 0 rfl) ?_
        refine x_getr X hG 14 3 40 3 (inC := iX10) rfl q40.1 q40.2 ⟨by decide, by decide, by decide, rfl, by decide, by decide⟩ w2 dX10_stationLine_29 ?_
        refine lv_iload_n X.1.1 X.1.2.1 dX10_stationLine_32 rfl (lv_at hl 1 rfl) ?_
        refine x_iconst X dX10_stationLine_33 ?_
        refine x_sipush X dX10_stationLine_34 (by decide) ?_
        obtain ⟨v10, u11, hf, h⟩ := xbd_of h
        refine x_callVi0 X hG hS (c_X10_puts l t _ _ _ _ _ _ _ hf) (cwV 4 X.1.2.2.2.2 gX10_stationLine_X10_puts rfl rfl rfl hd_X10_puts ⟨Nat.le_of_ble_eq_true rfl, Nat.le_of_ble_eq_true rfl⟩) q40.1 q40.2 rfl (by decide) (by rfl) hl.1 (Nat.le_of_ble_eq_true rfl) dX10_stationLine_37 ⟨by decide, by decide⟩ rfl (fun H locs hG hS => ?_)
        obtain ⟨g12, h⟩ := xgd_of h
        refine x_if_eq (tgt := 59) X g12 dX10_stationLine_40 (by decide) (fun c13 => ?_) (fun c13 => ?_)
        · replace h := xif_t h c13
          refine x_iconst X dX10_stationLine_59 ?_
          cases h
          exact hret _ _ _ _ dX10_stationLine_60 (by decide) hG hS
        · replace h := xif_f h c13
          refine lv_aload_n X.1.1 X.1.2.1 dX10_stationLine_43 rfl (lv_at hl 0 rfl) ?_
          refine lv_aload_n X.1.1 X.1.2.1 dX10_stationLine_44 rfl (lv_at hl 0 rfl) ?_
          refine x_getr X hG 14 4 40 4 (inC := iX10) rfl q40.1 q40.2 ⟨by decide, by decide, by decide, rfl, by decide, by decide⟩ w3 dX10_stationLine_45 ?_
          refine lv_iload_n X.1.1 X.1.2.1 dX10_stationLine_48 rfl (lv_at hl 1 rfl) ?_
          refine x_iconst X dX10_stationLine_49 ?_
          refine x_sipush X dX10_stationLine_50 (by decide) ?_
          obtain ⟨v14, u15, hf, h⟩ := xbd_of h
          refine x_callVi0 X hG hS (c_X10_puts l t _ _ _ _ _ _ _ hf) (cwV 4 X.1.2.2.2.2 gX10_stationLine_X10_puts rfl rfl rfl hd_X10_puts ⟨Nat.le_of_ble_eq_true rfl, Nat.le_of_ble_eq_true rfl⟩) q40.1 q40.2 rfl (by decide) (by rfl) hl.1 (Nat.le_of_ble_eq_true rfl) dX10_stationLine_53 ⟨by decide, by decide⟩ rfl (fun H locs hG hS => ?_)
          obtain ⟨g16, h⟩ := xgd_of h
          refine x_if_ne (tgt := 61) X g16 dX10_stationLine_56 (by decide) (fun c17 => ?_) (fun c17 => ?_)
          · replace h := xif_f h c17
            refine lv_aload_n X.1.1 X.1.2.1 dX10_stationLine_61 rfl (lv_at hl 0 rfl) ?_
            refine x_iconst X dX10_stationLine_62 ?_
            refine lv_iload_n X.1.1 X.1.2.1 dX10_stationLine_63 rfl (lv_at hl 1 rfl) ?_
            refine x_iconst X dX10_stationLine_64 ?_
            refine x_iadd X dX10_stationLine_65 ?_
            obtain ⟨v18, u19, hf, h⟩ := xbd_of h
            refine x_callVv0 X hG hS (c_X10_draft l t _ _ _ _ _ hf) (cwV 2 X.1.2.2.2.2 gX10_stationLine_X10_draft rfl rfl rfl hd_X10_draft ⟨Nat.le_of_ble_eq_true rfl, Nat.le_of_ble_eq_true rfl⟩) q40.1 q40.2 rfl (by decide) (by rfl) hl.1 (Nat.le_of_ble_eq_true rfl) dX10_stationLine_66 ⟨by decide, by decide⟩ rfl (fun H locs hG hS => ?_)
            refine x_iconst X dX10_stationLine_69 ?_
            cases h
            exact hret _ _ _ _ dX10_stationLine_70 (by decide) hG hS
          · replace h := xif_t h c17
            refine x_iconst X dX10_stationLine_59 ?_
            cases h
            exact hret _ _ _ _ dX10_stationLine_60 (by decide) hG hS
  refine x_icmp_ge (tgt := 20) X g2 ⟨by decide, by decide⟩ dX10_stationLine_13 (by decide) (fun c20 => ?_) (fun c20 => ?_)
  · replace h := xif_t h c20
    refine x_iconst X dX10_stationLine_20 ?_
    exact Jj3 _ _ h _ _ _ hG hS (lv_sub hl [1, 0] rfl)
  · replace h := xif_f h c20
    refine x_iconst X dX10_stationLine_16 ?_
    refine lv_goto (tgt := 21) X.1.1 X.1.2.1 dX10_stationLine_17 (by decide) ?_
    exact Jj3 _ _ h _ _ _ hG hS (lv_sub hl [1, 0] rfl)
theorem hd_X10_stationLine : yX10_stationLine.cls = RX10 ∧ yX10_stationLine.cls ≠ "java/lang/invoke/MethodHandle" ∧ yX10_stationLine.cls ≠ "java/lang/invoke/VarHandle" ∧ (parseMethodDescriptor yX10_stationLine.desc).map (fun d => d.parameters.length) = some 0 := by decide +kernel
abbrev rX10_rungLine : Room := { frames := 4, cells := 0, slots := 0, locals := 89 }
set_option maxRecDepth 100000 in
set_option maxHeartbeats 8000000 in
theorem c_X10_rungLine (l : Launch) (t : gP) (u : uS) (r : Int) (u' : uS) (h : f_X10_rungLine u = some (r, u')) : xMi l yX10_rungLine wsX10_rungLine rX10_rungLine t [.ref (t.2.2.1 40)] u r u' 0 0 := by
  refine x_ofWi (cc := cX10_rungLine) (maxL := 2) (ret := .boolean) (own := RX10) (by decide) rfl rfl (Nat.le_of_ble_eq_true rfl) ?_
  intro p e s m args below meth c Q X hret H locs ls hG hS hl
  replace hl : lv_has ls 2 [(0, .ref (t.2.2.1 40))] := hl
  have q40 : 40 < NN ∧ sT 40 = 14 := by decide
  have iX10 : ∀ w ∈ wsX100, w ∈ wsX10_rungLine := by decide +kernel
  have w1 : Cond.fieldLink RX10 13 "TriggerNetworkModel" "told" "[I" ∈ wsX10_rungLine := x_w 1 rfl
  have q42 : 42 < NN ∧ sT 42 = 100 ∧ sN 42 = 30 := by decide
  have w2 : Cond.fieldLink RX10 22 "TriggerNetworkModel" "amplitude" "[I" ∈ wsX10_rungLine := x_w 2 rfl
  have q45 : 45 < NN ∧ sT 45 = 100 ∧ sN 45 = 16 := by decide
  have w3 : Cond.fieldLink RX10 25 "TriggerNetworkModel" "magnitude" "[I" ∈ wsX10_rungLine := x_w 3 rfl
  have q46 : 46 < NN ∧ sT 46 = 100 ∧ sN 46 = 16 := by decide
  unfold f_X10_rungLine at h
  refine lv_aload_n X.1.1 X.1.2.1 dX10_rungLine_0 rfl (lv_at hl 0 rfl) ?_
  refine x_getr X hG 14 2 40 2 (inC := iX10) rfl q40.1 q40.2 ⟨by decide, by decide, by decide, rfl, by decide, by decide⟩ w1 dX10_rungLine_1 ?_
  refine x_bipush X dX10_rungLine_4 (by decide) ?_
  refine x_iald X hG q42.1 q42.2.1 (n := 30) q42.2.2 ⟨by decide, by decide⟩ (by decide) dX10_rungLine_6 ?_
  refine x_name (fun x1_1 ex1_1 => ?_)
  replace h := xlet_at ex1_1 h
  refine lv_istore_n (lv' := [(1, .int (iI x1_1)), (0, .ref (t.2.2.1 40))]) X.1.1 X.1.2.1 dX10_rungLine_7 rfl hl (by decide) rfl (fun ls hl => ?_)
  refine lv_aload_n X.1.1 X.1.2.1 dX10_rungLine_8 rfl (lv_at hl 1 rfl) ?_
  refine x_iconst X dX10_rungLine_9 ?_
  refine lv_iload_n X.1.1 X.1.2.1 dX10_rungLine_10 rfl (lv_at hl 0 rfl) ?_
  refine x_bipush X dX10_rungLine_11 (by decide) ?_
  obtain ⟨g2, h⟩ := xgd_of h
  obtain ⟨j3, ej3, h⟩ := xlet_of h
  have Jj3 : ∀ (s4 : Int) (u5 : uS), j3 s4 u5 = some (r, u') → xG p l e rX10_rungLine s m args below meth c t Q 2 0 0 21 u5 [(0, .ref (t.2.2.1 40)), (1, .int (iI x1_1))] [.int (iI s4), .int (iI 4), .ref (t.2.2.1 40)] := by
      intro s4 u5 h H locs ls hG hS hl
      replace h := (congrFun (congrFun ej3 s4) u5).symm.trans h
      obtain ⟨v6, u7, hf, h⟩ := xbd_of h
      refine x_callVi0 X hG hS (c_X10_starts l t _ _ _ _ _ hf) (cwV 2 X.1.2.2.2.2 gX10_rungLine_X10_starts rfl rfl rfl hd_X10_starts ⟨Nat.le_of_ble_eq_true rfl, Nat.le_of_ble_eq_true rfl⟩) q40.1 q40.2 rfl (by decide) (by rfl) hl.1 (Nat.le_of_ble_eq_true rfl) dX10_rungLine_21 ⟨by decide, by decide⟩ rfl (fun H locs hG hS => ?_)
      obtain ⟨g8, h⟩ := xgd_of h
      refine x_if_eq (tgt := 96) X g8 dX10_rungLine_24 (by decide) (fun c9 => ?_) (fun c9 => ?_)
      · replace h := xif_t h c9
        refine x_iconst X dX10_rungLine_96 ?_
        cases h
        exact hret _ _ _ _ dX10_rungLine_97 (by decide) hG hS
      · replace h := xif_f h c9
        refine lv_aload_n X.1.1 X.1.2.1 dX10_rungLine_27 rfl (lv_at hl 0 rfl) ?_
        refine lv_aload_n X.1.1 X.1.2.1 dX10_rungLine_28 rfl (lv_at hl 0 rfl) ?_
        refine x_getr X hG 14 5 40 5 (inC := iX10) rfl q40.1 q40.2 ⟨by decide, by decide, by decide, rfl, by decide, by decide⟩ w2 dX10_rungLine_29 ?_
        refine lv_iload_n X.1.1 X.1.2.1 dX10_rungLine_32 rfl (lv_at hl 1 rfl) ?_
        refine lv_iload_n X.1.1 X.1.2.1 dX10_rungLine_33 rfl (lv_at hl 1 rfl) ?_
        obtain ⟨g10, h⟩ := xgd_of h
        obtain ⟨j11, ej11, h⟩ := xlet_of h
        have Jj11 : ∀ (s12 : Int) (u13 : uS), j11 s12 u13 = some (r, u') → xG p l e rX10_rungLine s m args below meth c t Q 2 0 0 54 u13 [(0, .ref (t.2.2.1 40)), (1, .int (iI x1_1))] [.int (iI s12), .int (iI x1_1), .ref (t.2.2.1 45), .ref (t.2.2.1 40)] := by
            intro s12 u13 h H locs ls hG hS hl
            replace h := (congrFun (congrFun ej11 s12) u13).symm.trans h
            refine x_sipush X dX10_rungLine_54 (by decide) ?_
            obtain ⟨v14, u15, hf, h⟩ := xbd_of h
            refine x_callVi0 X hG hS (c_X10_puts l t _ _ _ _ _ _ _ hf) (cwV 4 X.1.2.2.2.2 gX10_rungLine_X10_puts rfl rfl rfl hd_X10_puts ⟨Nat.le_of_ble_eq_true rfl, Nat.le_of_ble_eq_true rfl⟩) q40.1 q40.2 rfl (by decide) (by rfl) hl.1 (Nat.le_of_ble_eq_true rfl) dX10_rungLine_57 ⟨by decide, by decide⟩ rfl (fun H locs hG hS => ?_)
            obtain ⟨g16, h⟩ := xgd_of h
            refine x_if_eq (tgt := 96) X g16 dX10_rungLine_60 (by decide) (fun c17 => ?_) (fun c17 => ?_)
            · replace h := xif_t h c17
              refine x_iconst X dX10_rungLine_96 ?_
              cases h
              exact hret _ _ _ _ dX10_rungLine_97 (by decide) hG hS
            · replace h := xif_f h c17
              refine lv_aload_n X.1.1 X.1.2.1 dX10_rungLine_63 rfl (lv_at hl 0 rfl) ?_
              refine lv_aload_n X.1.1 X.1.2.1 dX10_rungLine_64 rfl (lv_at hl 0 rfl) ?_
              refine x_getr X hG 14 6 40 6 (inC := iX10) rfl q40.1 q40.2 ⟨by decide, by decide, by decide, rfl, by decide, by decide⟩ w3 dX10_rungLine_65 ?_
              refine lv_iload_n X.1.1 X.1.2.1 dX10_rungLine_68 rfl (lv_at hl 1 rfl) ?_
              refine lv_iload_n X.1.1 X.1.2.1 dX10_rungLine_69 rfl (lv_at hl 1 rfl) ?_
              obtain ⟨g18, h⟩ := xgd_of h
              obtain ⟨j19, ej19, h⟩ := xlet_of h
              have Jj19 : ∀ (s20 : Int) (u21 : uS), j19 s20 u21 = some (r, u') → xG p l e rX10_rungLine s m args below meth c t Q 2 0 0 88 u21 [(0, .ref (t.2.2.1 40)), (1, .int (iI x1_1))] [.int (iI s20), .int (iI x1_1), .ref (t.2.2.1 46), .ref (t.2.2.1 40)] := by
                  intro s20 u21 h H locs ls hG hS hl
                  replace h := (congrFun (congrFun ej19 s20) u21).symm.trans h
                  refine x_bipush X dX10_rungLine_88 (by decide) ?_
                  obtain ⟨v22, u23, hf, h⟩ := xbd_of h
                  refine x_callVi0 X hG hS (c_X10_puts l t _ _ _ _ _ _ _ hf) (cwV 4 X.1.2.2.2.2 gX10_rungLine_X10_puts rfl rfl rfl hd_X10_puts ⟨Nat.le_of_ble_eq_true rfl, Nat.le_of_ble_eq_true rfl⟩) q40.1 q40.2 rfl (by decide) (by rfl) hl.1 (Nat.le_of_ble_eq_true rfl) dX10_rungLine_90 ⟨by decide, by decide⟩ rfl (fun H locs hG hS => ?_)
                  obtain ⟨g24, h⟩ := xgd_of h
                  refine x_if_ne (tgt := 98) X g24 dX10_rungLine_93 (by decide) (fun c25 => ?_) (fun c25 => ?_)
                  · replace h := xif_f h c25
                    refine lv_aload_n X.1.1 X.1.2.1 dX10_rungLine_98 rfl (lv_at hl 0 rfl) ?_
                    refine x_iconst X dX10_rungLine_99 ?_
                    refine lv_iload_n X.1.1 X.1.2.1 dX10_rungLine_100 rfl (lv_at hl 1 rfl) ?_
                    refine x_iconst X dX10_rungLine_101 ?_
                    refine x_iadd X dX10_rungLine_102 ?_
                    obtain ⟨v26, u27, hf, h⟩ := xbd_of h
                    refine x_callVv0 X hG hS (c_X10_draft l t _ _ _ _ _ hf) (cwV 2 X.1.2.2.2.2 gX10_rungLine_X10_draft rfl rfl rfl hd_X10_draft ⟨Nat.le_of_ble_eq_true rfl, Nat.le_of_ble_eq_true rfl⟩) q40.1 q40.2 rfl (by decide) (by rfl) hl.1 (Nat.le_of_ble_eq_true rfl) dX10_rungLine_103 ⟨by decide, by decide⟩ rfl (fun H locs hG hS => ?_)
                    refine x_iconst X dX10_rungLine_106 ?_
                    cases h
                    exact hret _ _ _ _ dX10_rungLine_107 (by decide) hG hS
                  · replace h := xif_t h c25
                    refine x_iconst X dX10_rungLine_96 ?_
                    cases h
                    exact hret _ _ _ _ dX10_rungLine_97 (by decide) hG hS
              refine x_if_ne (tgt := 77) X g18 dX10_rungLine_70 (by decide) (fun c28 => ?_) (fun c28 => ?_)
              · replace h := xif_f h c28
                refine lv_aload_n X.1.1 X.1.2.1 dX10_rungLine_77 rfl (lv_at hl 0 rfl) ?_
                refine x_getr X hG 14 6 40 6 (inC := iX10) rfl q40.1 q40.2 ⟨by decide, by decide, by decide, rfl, by decide, by decide⟩ w3 dX10_rungLine_78 ?_
                refine x_bipush X dX10_rungLine_81 (by decide) ?_
                refine lv_iload_n X.1.1 X.1.2.1 dX10_rungLine_83 rfl (lv_at hl 1 rfl) ?_
                refine x_iadd X dX10_rungLine_84 ?_
                refine x_iconst X dX10_rungLine_85 ?_
                refine x_isub X dX10_rungLine_86 ?_
                obtain ⟨g29, h⟩ := xgd_of h
                refine x_iald X hG q46.1 q46.2.1 (n := 16) q46.2.2 g29 (by decide) dX10_rungLine_87 ?_
                exact Jj19 _ _ h _ _ _ hG hS (lv_sub hl [0, 1] rfl)
              · replace h := xif_t h c28
                refine x_iconst X dX10_rungLine_73 ?_
                refine lv_goto (tgt := 88) X.1.1 X.1.2.1 dX10_rungLine_74 (by decide) ?_
                exact Jj19 _ _ h _ _ _ hG hS (lv_sub hl [0, 1] rfl)
        refine x_if_ne (tgt := 41) X g10 dX10_rungLine_34 (by decide) (fun c30 => ?_) (fun c30 => ?_)
        · replace h := xif_f h c30
          refine lv_aload_n X.1.1 X.1.2.1 dX10_rungLine_41 rfl (lv_at hl 0 rfl) ?_
          refine x_getr X hG 14 5 40 5 (inC := iX10) rfl q40.1 q40.2 ⟨by decide, by decide, by decide, rfl, by decide, by decide⟩ w2 dX10_rungLine_42 ?_
          refine x_bipush X dX10_rungLine_45 (by decide) ?_
          refine lv_iload_n X.1.1 X.1.2.1 dX10_rungLine_47 rfl (lv_at hl 1 rfl) ?_
          refine x_iadd X dX10_rungLine_48 ?_
          refine x_iconst X dX10_rungLine_49 ?_
          refine x_isub X dX10_rungLine_50 ?_
          obtain ⟨g31, h⟩ := xgd_of h
          refine x_iald X hG q45.1 q45.2.1 (n := 16) q45.2.2 g31 (by decide) dX10_rungLine_51 ?_
          refine x_iconst X dX10_rungLine_52 ?_
          refine x_iadd X dX10_rungLine_53 ?_
          exact Jj11 _ _ h _ _ _ hG hS (lv_sub hl [0, 1] rfl)
        · replace h := xif_t h c30
          refine x_iconst X dX10_rungLine_37 ?_
          refine lv_goto (tgt := 54) X.1.1 X.1.2.1 dX10_rungLine_38 (by decide) ?_
          exact Jj11 _ _ h _ _ _ hG hS (lv_sub hl [0, 1] rfl)
  refine x_icmp_ge (tgt := 20) X g2 ⟨by decide, by decide⟩ dX10_rungLine_13 (by decide) (fun c32 => ?_) (fun c32 => ?_)
  · replace h := xif_t h c32
    refine x_iconst X dX10_rungLine_20 ?_
    exact Jj3 _ _ h _ _ _ hG hS (lv_sub hl [1, 0] rfl)
  · replace h := xif_f h c32
    refine x_iconst X dX10_rungLine_16 ?_
    refine lv_goto (tgt := 21) X.1.1 X.1.2.1 dX10_rungLine_17 (by decide) ?_
    exact Jj3 _ _ h _ _ _ hG hS (lv_sub hl [1, 0] rfl)
theorem hd_X10_rungLine : yX10_rungLine.cls = RX10 ∧ yX10_rungLine.cls ≠ "java/lang/invoke/MethodHandle" ∧ yX10_rungLine.cls ≠ "java/lang/invoke/VarHandle" ∧ (parseMethodDescriptor yX10_rungLine.desc).map (fun d => d.parameters.length) = some 0 := by decide +kernel
abbrev rX10_closes : Room := { frames := 2, cells := 0, slots := 0, locals := 43 }
set_option maxRecDepth 100000 in
set_option maxHeartbeats 8000000 in
theorem c_X10_closes (l : Launch) (t : gP) (u : uS) (r : Int) (u' : uS) (h : f_X10_closes u = some (r, u')) : xMi l yX10_closes wsX10_closes rX10_closes t [.ref (t.2.2.1 40)] u r u' 0 0 := by
  refine x_ofWi (cc := cX10_closes) (maxL := 1) (ret := .boolean) (own := RX10) (by decide) rfl rfl (Nat.le_of_ble_eq_true rfl) ?_
  intro p e s m args below meth c Q X hret H locs ls hG hS hl
  replace hl : lv_has ls 1 [(0, .ref (t.2.2.1 40))] := hl
  have q40 : 40 < NN ∧ sT 40 = 14 := by decide
  have iX10 : ∀ w ∈ wsX100, w ∈ wsX10_closes := by decide +kernel
  have w1 : Cond.fieldLink RX10 98 "TriggerNetworkModel" "token" "I" ∈ wsX10_closes := x_w 1 rfl
  unfold f_X10_closes at h
  refine lv_aload_n X.1.1 X.1.2.1 dX10_closes_0 rfl (lv_at hl 0 rfl) ?_
  refine x_geti X hG 14 12 40 12 (inC := iX10) rfl q40.1 q40.2 ⟨by decide, by decide, by decide, rfl, rfl⟩ w1 dX10_closes_1 ?_
  refine x_iconst X dX10_closes_4 ?_
  obtain ⟨g1, h⟩ := xgd_of h
  refine x_icmp_eq (tgt := 14) X g1 ⟨by decide, by decide⟩ dX10_closes_5 (by decide) (fun c2 => ?_) (fun c2 => ?_)
  · replace h := xif_t h c2
    refine lv_aload_n X.1.1 X.1.2.1 dX10_closes_14 rfl (lv_at hl 0 rfl) ?_
    obtain ⟨v3, u4, hf, h⟩ := xbd_of h
    refine x_callVv0 X hG hS (c_X10_advance l t  _ _ _ hf) (cwV 0 X.1.2.2.2.2 gX10_closes_X10_advance rfl rfl rfl hd_X10_advance ⟨Nat.le_of_ble_eq_true rfl, Nat.le_of_ble_eq_true rfl⟩) q40.1 q40.2 rfl (by decide) (by rfl) hl.1 (Nat.le_of_ble_eq_true rfl) dX10_closes_15 ⟨by decide, by decide⟩ rfl (fun H locs hG hS => ?_)
    refine x_iconst X dX10_closes_18 ?_
    cases h
    exact hret _ _ _ _ dX10_closes_19 (by decide) hG hS
  · replace h := xif_f h c2
    refine lv_aload_n X.1.1 X.1.2.1 dX10_closes_8 rfl (lv_at hl 0 rfl) ?_
    refine x_iconst X dX10_closes_9 ?_
    obtain ⟨v5, u6, hf, h⟩ := xbd_of h
    refine x_callVi0 X hG hS (c_X10_fails l t _ _ _ _ hf) (cwV 1 X.1.2.2.2.2 gX10_closes_X10_fails rfl rfl rfl hd_X10_fails ⟨Nat.le_of_ble_eq_true rfl, Nat.le_of_ble_eq_true rfl⟩) q40.1 q40.2 rfl (by decide) (by rfl) hl.1 (Nat.le_of_ble_eq_true rfl) dX10_closes_10 ⟨by decide, by decide⟩ rfl (fun H locs hG hS => ?_)
    obtain ⟨g7, h⟩ := xgd_of h
    cases h
    exact hret _ _ _ _ dX10_closes_13 (nz_of g7) hG hS
theorem hd_X10_closes : yX10_closes.cls = RX10 ∧ yX10_closes.cls ≠ "java/lang/invoke/MethodHandle" ∧ yX10_closes.cls ≠ "java/lang/invoke/VarHandle" ∧ (parseMethodDescriptor yX10_closes.desc).map (fun d => d.parameters.length) = some 0 := by decide +kernel
abbrev rX10_errorPosition : Room := { frames := 0, cells := 0, slots := 0, locals := 0 }
set_option maxRecDepth 100000 in
set_option maxHeartbeats 8000000 in
theorem c_X10_errorPosition (l : Launch) (t : gP) (u : uS) (r : Int) (u' : uS) (h : f_X10_errorPosition u = some (r, u')) : xMi l yX10_errorPosition wsX10_errorPosition rX10_errorPosition t [.ref (t.2.2.1 40)] u r u' 0 0 := by
  refine x_ofWi (cc := cX10_errorPosition) (maxL := 1) (ret := .int) (own := RX10) (by decide) rfl rfl (Nat.le_of_ble_eq_true rfl) ?_
  intro p e s m args below meth c Q X hret H locs ls hG hS hl
  replace hl : lv_has ls 1 [(0, .ref (t.2.2.1 40))] := hl
  have q40 : 40 < NN ∧ sT 40 = 14 := by decide
  have iX10 : ∀ w ∈ wsX100, w ∈ wsX10_errorPosition := by decide +kernel
  have w1 : Cond.fieldLink RX10 64 "TriggerNetworkModel" "thrown" "I" ∈ wsX10_errorPosition := x_w 1 rfl
  have w2 : Cond.fieldLink RX10 32 "TriggerNetworkModel" "errorAt" "I" ∈ wsX10_errorPosition := x_w 2 rfl
  unfold f_X10_errorPosition at h
  refine lv_aload_n X.1.1 X.1.2.1 dX10_errorPosition_0 rfl (lv_at hl 0 rfl) ?_
  refine x_iconst X dX10_errorPosition_1 ?_
  refine x_puti X hG hS 14 0 40 0 _ tyX10 tyX10_ok nmX10 (inC := iX10) rfl q40.1 q40.2 ⟨by decide, by decide, by decide, rfl, rfl⟩ rfl (by decide +kernel) w1 dX10_errorPosition_2 (fun H locs hG hS => ?_)
  obtain ⟨u1, eu1, h⟩ := xlet_of h
  replace hG : G t u1 H := by rw [eu1]; exact hG
  refine lv_aload_n X.1.1 X.1.2.1 dX10_errorPosition_5 rfl (lv_at hl 0 rfl) ?_
  refine x_geti X hG 14 15 40 15 (inC := iX10) rfl q40.1 q40.2 ⟨by decide, by decide, by decide, rfl, rfl⟩ w2 dX10_errorPosition_6 ?_
  cases h
  exact hret _ _ _ _ dX10_errorPosition_9 rfl hG hS
theorem hd_X10_errorPosition : yX10_errorPosition.cls = RX10 ∧ yX10_errorPosition.cls ≠ "java/lang/invoke/MethodHandle" ∧ yX10_errorPosition.cls ≠ "java/lang/invoke/VarHandle" ∧ (parseMethodDescriptor yX10_errorPosition.desc).map (fun d => d.parameters.length) = some 0 := by decide +kernel
abbrev rX10_no : Room := { frames := 1, cells := 0, slots := 0, locals := 22 }
set_option maxRecDepth 100000 in
set_option maxHeartbeats 8000000 in
theorem c_X10_no (l : Launch) (t : gP) (x1 : Int) (x2 : Int) (u : uS) (r : Int) (u' : uS) (h : f_X10_no x1 x2 u = some (r, u')) : xMi l yX10_no wsX10_no rX10_no t [.ref (t.2.2.1 40), .int (iI x1), .int (iI x2)] u r u' 0 0 := by
  refine x_ofWi (cc := cX10_no) (maxL := 3) (ret := .boolean) (own := RX10) (by decide) rfl rfl (Nat.le_of_ble_eq_true rfl) ?_
  intro p e s m args below meth c Q X hret H locs ls hG hS hl
  replace hl : lv_has ls 3 [(0, .ref (t.2.2.1 40)), (1, .int (iI x1)), (2, .int (iI x2))] := hl
  have q40 : 40 < NN ∧ sT 40 = 14 := by decide
  unfold f_X10_no at h
  refine lv_aload_n X.1.1 X.1.2.1 dX10_no_0 rfl (lv_at hl 0 rfl) ?_
  refine lv_iload_n X.1.1 X.1.2.1 dX10_no_1 rfl (lv_at hl 1 rfl) ?_
  refine x_iconst X dX10_no_2 ?_
  refine lv_iload_n X.1.1 X.1.2.1 dX10_no_3 rfl (lv_at hl 2 rfl) ?_
  refine x_iconst X dX10_no_4 ?_
  refine x_isub X dX10_no_5 ?_
  obtain ⟨v1, u2, hf, h⟩ := xbd_of h
  refine x_callSi0 X hG hS (c_X10_within l t _ _ _ _ _ _ hf) (va_cwS 3 X.1.2.2.2.2 gX10_no_X10_within rfl rfl rfl hds_X10_within ⟨Nat.le_of_ble_eq_true rfl, Nat.le_of_ble_eq_true rfl⟩) (by rfl) hl.1 (Nat.le_of_ble_eq_true rfl) dX10_no_6 ⟨by decide, by decide⟩ rfl (fun H locs hG hS => ?_)
  obtain ⟨g3, h⟩ := xgd_of h
  obtain ⟨j4, ej4, h⟩ := xlet_of h
  have Jj4 : ∀ (s5 : Int) (u6 : uS), j4 s5 u6 = some (r, u') → xG p l e rX10_no s m args below meth c t Q 3 0 0 17 u6 [] [.int (iI s5), .ref (t.2.2.1 40)] := by
      intro s5 u6 h H locs ls hG hS hl
      replace h := (congrFun (congrFun ej4 s5) u6).symm.trans h
      refine x_iconst X dX10_no_17 ?_
      obtain ⟨v7, u8, hf, h⟩ := xbd_of h
      refine x_callVi0 X hG hS (c_X10_throwsIf l t _ _ _ _ _ hf) (cwV 2 X.1.2.2.2.2 gX10_no_X10_throwsIf rfl rfl rfl hd_X10_throwsIf ⟨Nat.le_of_ble_eq_true rfl, Nat.le_of_ble_eq_true rfl⟩) q40.1 q40.2 rfl (by decide) (by rfl) hl.1 (Nat.le_of_ble_eq_true rfl) dX10_no_18 ⟨by decide, by decide⟩ rfl (fun H locs hG hS => ?_)
      obtain ⟨g9, h⟩ := xgd_of h
      cases h
      exact hret _ _ _ _ dX10_no_21 (nz_of g9) hG hS
  refine x_if_ne (tgt := 16) X g3 dX10_no_9 (by decide) (fun c10 => ?_) (fun c10 => ?_)
  · replace h := xif_f h c10
    refine x_iconst X dX10_no_16 ?_
    exact Jj4 _ _ h _ _ _ hG hS (lv_sub hl [] rfl)
  · replace h := xif_t h c10
    refine x_iconst X dX10_no_12 ?_
    refine lv_goto (tgt := 17) X.1.1 X.1.2.1 dX10_no_13 (by decide) ?_
    exact Jj4 _ _ h _ _ _ hG hS (lv_sub hl [] rfl)
theorem hd_X10_no : yX10_no.cls = RX10 ∧ yX10_no.cls ≠ "java/lang/invoke/MethodHandle" ∧ yX10_no.cls ≠ "java/lang/invoke/VarHandle" ∧ (parseMethodDescriptor yX10_no.desc).map (fun d => d.parameters.length) = some 2 := by decide +kernel
abbrev rX10_noStation : Room := { frames := 2, cells := 0, slots := 0, locals := 44 }
set_option maxRecDepth 100000 in
set_option maxHeartbeats 8000000 in
theorem c_X10_noStation (l : Launch) (t : gP) (x1 : Int) (u : uS) (r : Int) (u' : uS) (h : f_X10_noStation x1 u = some (r, u')) : xMi l yX10_noStation wsX10_noStation rX10_noStation t [.ref (t.2.2.1 40), .int (iI x1)] u r u' 0 0 := by
  refine x_ofWi (cc := cX10_noStation) (maxL := 2) (ret := .boolean) (own := RX10) (by decide) rfl rfl (Nat.le_of_ble_eq_true rfl) ?_
  intro p e s m args below meth c Q X hret H locs ls hG hS hl
  replace hl : lv_has ls 2 [(0, .ref (t.2.2.1 40)), (1, .int (iI x1))] := hl
  have q40 : 40 < NN ∧ sT 40 = 14 := by decide
  have iX10 : ∀ w ∈ wsX100, w ∈ wsX10_noStation := by decide +kernel
  have w1 : Cond.fieldLink RX10 64 "TriggerNetworkModel" "thrown" "I" ∈ wsX10_noStation := x_w 1 rfl
  have w2 : Cond.fieldLink RX10 13 "TriggerNetworkModel" "told" "[I" ∈ wsX10_noStation := x_w 2 rfl
  have q42 : 42 < NN ∧ sT 42 = 100 ∧ sN 42 = 30 := by decide
  unfold f_X10_noStation at h
  refine lv_aload_n X.1.1 X.1.2.1 dX10_noStation_0 rfl (lv_at hl 0 rfl) ?_
  refine x_iconst X dX10_noStation_1 ?_
  refine x_puti X hG hS 14 0 40 0 _ tyX10 tyX10_ok nmX10 (inC := iX10) rfl q40.1 q40.2 ⟨by decide, by decide, by decide, rfl, rfl⟩ rfl (by decide +kernel) w1 dX10_noStation_2 (fun H locs hG hS => ?_)
  obtain ⟨u1, eu1, h⟩ := xlet_of h
  replace hG : G t u1 H := by rw [eu1]; exact hG
  refine lv_aload_n X.1.1 X.1.2.1 dX10_noStation_5 rfl (lv_at hl 0 rfl) ?_
  refine lv_iload_n X.1.1 X.1.2.1 dX10_noStation_6 rfl (lv_at hl 1 rfl) ?_
  refine lv_aload_n X.1.1 X.1.2.1 dX10_noStation_7 rfl (lv_at hl 0 rfl) ?_
  refine x_getr X hG 14 2 40 2 (inC := iX10) rfl q40.1 q40.2 ⟨by decide, by decide, by decide, rfl, by decide, by decide⟩ w2 dX10_noStation_8 ?_
  refine x_iconst X dX10_noStation_11 ?_
  refine x_iald X hG q42.1 q42.2.1 (n := 30) q42.2.2 ⟨by decide, by decide⟩ (by decide) dX10_noStation_12 ?_
  obtain ⟨v2, u3, hf, h⟩ := xbd_of h
  refine x_callVi0 X hG hS (c_X10_no l t _ _ _ _ _ hf) (cwV 2 X.1.2.2.2.2 gX10_noStation_X10_no rfl rfl rfl hd_X10_no ⟨Nat.le_of_ble_eq_true rfl, Nat.le_of_ble_eq_true rfl⟩) q40.1 q40.2 rfl (by decide) (by rfl) hl.1 (Nat.le_of_ble_eq_true rfl) dX10_noStation_13 ⟨by decide, by decide⟩ rfl (fun H locs hG hS => ?_)
  obtain ⟨g4, h⟩ := xgd_of h
  cases h
  exact hret _ _ _ _ dX10_noStation_16 (nz_of g4) hG hS
theorem hd_X10_noStation : yX10_noStation.cls = RX10 ∧ yX10_noStation.cls ≠ "java/lang/invoke/MethodHandle" ∧ yX10_noStation.cls ≠ "java/lang/invoke/VarHandle" ∧ (parseMethodDescriptor yX10_noStation.desc).map (fun d => d.parameters.length) = some 1 := by decide +kernel
abbrev rX10_noPick : Room := { frames := 2, cells := 0, slots := 0, locals := 44 }
set_option maxRecDepth 100000 in
set_option maxHeartbeats 8000000 in
theorem c_X10_noPick (l : Launch) (t : gP) (x1 : Int) (u : uS) (r : Int) (u' : uS) (h : f_X10_noPick x1 u = some (r, u')) : xMi l yX10_noPick wsX10_noPick rX10_noPick t [.ref (t.2.2.1 40), .int (iI x1)] u r u' 0 0 := by
  refine x_ofWi (cc := cX10_noPick) (maxL := 2) (ret := .boolean) (own := RX10) (by decide) rfl rfl (Nat.le_of_ble_eq_true rfl) ?_
  intro p e s m args below meth c Q X hret H locs ls hG hS hl
  replace hl : lv_has ls 2 [(0, .ref (t.2.2.1 40)), (1, .int (iI x1))] := hl
  have q40 : 40 < NN ∧ sT 40 = 14 := by decide
  have iX10 : ∀ w ∈ wsX100, w ∈ wsX10_noPick := by decide +kernel
  have w1 : Cond.fieldLink RX10 7 "TriggerNetworkModel" "now" "[I" ∈ wsX10_noPick := x_w 1 rfl
  have q41 : 41 < NN ∧ sT 41 = 100 ∧ sN 41 = 1167 := by decide
  unfold f_X10_noPick at h
  refine lv_aload_n X.1.1 X.1.2.1 dX10_noPick_0 rfl (lv_at hl 0 rfl) ?_
  refine lv_iload_n X.1.1 X.1.2.1 dX10_noPick_1 rfl (lv_at hl 1 rfl) ?_
  refine lv_aload_n X.1.1 X.1.2.1 dX10_noPick_2 rfl (lv_at hl 0 rfl) ?_
  refine x_getr X hG 14 1 40 1 (inC := iX10) rfl q40.1 q40.2 ⟨by decide, by decide, by decide, rfl, by decide, by decide⟩ w1 dX10_noPick_3 ?_
  refine x_iconst X dX10_noPick_6 ?_
  refine x_iald X hG q41.1 q41.2.1 (n := 1167) q41.2.2 ⟨by decide, by decide⟩ (by decide) dX10_noPick_7 ?_
  obtain ⟨v1, u2, hf, h⟩ := xbd_of h
  refine x_callVi0 X hG hS (c_X10_no l t _ _ _ _ _ hf) (cwV 2 X.1.2.2.2.2 gX10_noPick_X10_no rfl rfl rfl hd_X10_no ⟨Nat.le_of_ble_eq_true rfl, Nat.le_of_ble_eq_true rfl⟩) q40.1 q40.2 rfl (by decide) (by rfl) hl.1 (Nat.le_of_ble_eq_true rfl) dX10_noPick_8 ⟨by decide, by decide⟩ rfl (fun H locs hG hS => ?_)
  obtain ⟨g3, h⟩ := xgd_of h
  cases h
  exact hret _ _ _ _ dX10_noPick_11 (nz_of g3) hG hS
theorem hd_X10_noPick : yX10_noPick.cls = RX10 ∧ yX10_noPick.cls ≠ "java/lang/invoke/MethodHandle" ∧ yX10_noPick.cls ≠ "java/lang/invoke/VarHandle" ∧ (parseMethodDescriptor yX10_noPick.desc).map (fun d => d.parameters.length) = some 1 := by decide +kernel
abbrev rX10_noEvent : Room := { frames := 2, cells := 0, slots := 0, locals := 44 }
set_option maxRecDepth 100000 in
set_option maxHeartbeats 8000000 in
theorem c_X10_noEvent (l : Launch) (t : gP) (x1 : Int) (u : uS) (r : Int) (u' : uS) (h : f_X10_noEvent x1 u = some (r, u')) : xMi l yX10_noEvent wsX10_noEvent rX10_noEvent t [.ref (t.2.2.1 40), .int (iI x1)] u r u' 0 0 := by
  refine x_ofWi (cc := cX10_noEvent) (maxL := 2) (ret := .boolean) (own := RX10) (by decide) rfl rfl (Nat.le_of_ble_eq_true rfl) ?_
  intro p e s m args below meth c Q X hret H locs ls hG hS hl
  replace hl : lv_has ls 2 [(0, .ref (t.2.2.1 40)), (1, .int (iI x1))] := hl
  have q40 : 40 < NN ∧ sT 40 = 14 := by decide
  have iX10 : ∀ w ∈ wsX100, w ∈ wsX10_noEvent := by decide +kernel
  have w1 : Cond.fieldLink RX10 7 "TriggerNetworkModel" "now" "[I" ∈ wsX10_noEvent := x_w 1 rfl
  have q41 : 41 < NN ∧ sT 41 = 100 ∧ sN 41 = 1167 := by decide
  unfold f_X10_noEvent at h
  refine lv_aload_n X.1.1 X.1.2.1 dX10_noEvent_0 rfl (lv_at hl 0 rfl) ?_
  refine lv_iload_n X.1.1 X.1.2.1 dX10_noEvent_1 rfl (lv_at hl 1 rfl) ?_
  refine lv_aload_n X.1.1 X.1.2.1 dX10_noEvent_2 rfl (lv_at hl 0 rfl) ?_
  refine x_getr X hG 14 1 40 1 (inC := iX10) rfl q40.1 q40.2 ⟨by decide, by decide, by decide, rfl, by decide, by decide⟩ w1 dX10_noEvent_3 ?_
  refine x_iconst X dX10_noEvent_6 ?_
  refine x_iald X hG q41.1 q41.2.1 (n := 1167) q41.2.2 ⟨by decide, by decide⟩ (by decide) dX10_noEvent_7 ?_
  obtain ⟨v1, u2, hf, h⟩ := xbd_of h
  refine x_callVi0 X hG hS (c_X10_no l t _ _ _ _ _ hf) (cwV 2 X.1.2.2.2.2 gX10_noEvent_X10_no rfl rfl rfl hd_X10_no ⟨Nat.le_of_ble_eq_true rfl, Nat.le_of_ble_eq_true rfl⟩) q40.1 q40.2 rfl (by decide) (by rfl) hl.1 (Nat.le_of_ble_eq_true rfl) dX10_noEvent_8 ⟨by decide, by decide⟩ rfl (fun H locs hG hS => ?_)
  obtain ⟨g3, h⟩ := xgd_of h
  cases h
  exact hret _ _ _ _ dX10_noEvent_11 (nz_of g3) hG hS
theorem hd_X10_noEvent : yX10_noEvent.cls = RX10 ∧ yX10_noEvent.cls ≠ "java/lang/invoke/MethodHandle" ∧ yX10_noEvent.cls ≠ "java/lang/invoke/VarHandle" ∧ (parseMethodDescriptor yX10_noEvent.desc).map (fun d => d.parameters.length) = some 1 := by decide +kernel
abbrev rX10_nodes : Room := { frames := 0, cells := 0, slots := 0, locals := 0 }
set_option maxRecDepth 100000 in
set_option maxHeartbeats 8000000 in
theorem c_X10_nodes (l : Launch) (t : gP) (u : uS) (r : Int) (u' : uS) (h : f_X10_nodes u = some (r, u')) : xMi l yX10_nodes wsX10_nodes rX10_nodes t [.ref (t.2.2.1 40)] u r u' 0 0 := by
  refine x_ofWi (cc := cX10_nodes) (maxL := 1) (ret := .int) (own := RX10) (by decide) rfl rfl (Nat.le_of_ble_eq_true rfl) ?_
  intro p e s m args below meth c Q X hret H locs ls hG hS hl
  replace hl : lv_has ls 1 [(0, .ref (t.2.2.1 40))] := hl
  have q40 : 40 < NN ∧ sT 40 = 14 := by decide
  have iX10 : ∀ w ∈ wsX100, w ∈ wsX10_nodes := by decide +kernel
  have w1 : Cond.fieldLink RX10 13 "TriggerNetworkModel" "told" "[I" ∈ wsX10_nodes := x_w 1 rfl
  have q42 : 42 < NN ∧ sT 42 = 100 ∧ sN 42 = 30 := by decide
  unfold f_X10_nodes at h
  refine lv_aload_n X.1.1 X.1.2.1 dX10_nodes_0 rfl (lv_at hl 0 rfl) ?_
  refine x_getr X hG 14 2 40 2 (inC := iX10) rfl q40.1 q40.2 ⟨by decide, by decide, by decide, rfl, by decide, by decide⟩ w1 dX10_nodes_1 ?_
  refine x_iconst X dX10_nodes_4 ?_
  refine x_iald X hG q42.1 q42.2.1 (n := 30) q42.2.2 ⟨by decide, by decide⟩ (by decide) dX10_nodes_5 ?_
  refine lv_aload_n X.1.1 X.1.2.1 dX10_nodes_6 rfl (lv_at hl 0 rfl) ?_
  refine x_getr X hG 14 2 40 2 (inC := iX10) rfl q40.1 q40.2 ⟨by decide, by decide, by decide, rfl, by decide, by decide⟩ w1 dX10_nodes_7 ?_
  refine x_iconst X dX10_nodes_10 ?_
  refine x_iald X hG q42.1 q42.2.1 (n := 30) q42.2.2 ⟨by decide, by decide⟩ (by decide) dX10_nodes_11 ?_
  refine x_imul X dX10_nodes_12 ?_
  cases h
  exact hret _ _ _ _ dX10_nodes_13 rfl hG hS
theorem hd_X10_nodes : yX10_nodes.cls = RX10 ∧ yX10_nodes.cls ≠ "java/lang/invoke/MethodHandle" ∧ yX10_nodes.cls ≠ "java/lang/invoke/VarHandle" ∧ (parseMethodDescriptor yX10_nodes.desc).map (fun d => d.parameters.length) = some 0 := by decide +kernel
abbrev rX10_at : Room := { frames := 0, cells := 0, slots := 0, locals := 0 }
set_option maxRecDepth 100000 in
set_option maxHeartbeats 8000000 in
theorem c_X10_at (l : Launch) (t : gP) (x0 : Int) (x1 : Int) (u : uS) (r : Int) (u' : uS) (h : f_X10_at x0 x1 u = some (r, u')) : xMi l yX10_at wsX10_at rX10_at t [.int (iI x0), .int (iI x1)] u r u' 0 0 := by
  refine x_ofWi (cc := cX10_at) (maxL := 2) (ret := .int) (own := RX10) (by decide) rfl rfl (Nat.le_of_ble_eq_true rfl) ?_
  intro p e s m args below meth c Q X hret H locs ls hG hS hl
  replace hl : lv_has ls 2 [(0, .int (iI x0)), (1, .int (iI x1))] := hl
  unfold f_X10_at at h
  refine x_iconst X dX10_at_0 ?_
  refine x_iconst X dX10_at_1 ?_
  refine lv_iload_n X.1.1 X.1.2.1 dX10_at_2 rfl (lv_at hl 0 rfl) ?_
  refine x_imul X dX10_at_3 ?_
  refine x_iadd X dX10_at_4 ?_
  refine lv_iload_n X.1.1 X.1.2.1 dX10_at_5 rfl (lv_at hl 1 rfl) ?_
  refine x_iadd X dX10_at_6 ?_
  cases h
  exact hret _ _ _ _ dX10_at_7 rfl hG hS
theorem hds_X10_at : yX10_at.cls ≠ "java/lang/invoke/MethodHandle" ∧ yX10_at.cls ≠ "java/lang/invoke/VarHandle" ∧ (parseMethodDescriptor yX10_at.desc).map (fun d => d.parameters.length) = some 2 := by decide +kernel
abbrev rX10_of : Room := { frames := 0, cells := 0, slots := 0, locals := 0 }
set_option maxRecDepth 100000 in
set_option maxHeartbeats 8000000 in
theorem c_X10_of (l : Launch) (t : gP) (x0 : Int) (x1 : Int) (u : uS) (r : Int) (u' : uS) (h : f_X10_of x0 x1 u = some (r, u')) : xMi l yX10_of wsX10_of rX10_of t [.int (iI x0), .int (iI x1)] u r u' 0 0 := by
  refine x_ofWi (cc := cX10_of) (maxL := 2) (ret := .int) (own := RX10) (by decide) rfl rfl (Nat.le_of_ble_eq_true rfl) ?_
  intro p e s m args below meth c Q X hret H locs ls hG hS hl
  replace hl : lv_has ls 2 [(0, .int (iI x0)), (1, .int (iI x1))] := hl
  unfold f_X10_of at h
  refine x_sipush X dX10_of_0 (by decide) ?_
  refine x_iconst X dX10_of_3 ?_
  refine lv_iload_n X.1.1 X.1.2.1 dX10_of_4 rfl (lv_at hl 0 rfl) ?_
  refine x_imul X dX10_of_5 ?_
  refine x_iadd X dX10_of_6 ?_
  refine lv_iload_n X.1.1 X.1.2.1 dX10_of_7 rfl (lv_at hl 1 rfl) ?_
  refine x_iadd X dX10_of_8 ?_
  cases h
  exact hret _ _ _ _ dX10_of_9 rfl hG hS
theorem hds_X10_of : yX10_of.cls ≠ "java/lang/invoke/MethodHandle" ∧ yX10_of.cls ≠ "java/lang/invoke/VarHandle" ∧ (parseMethodDescriptor yX10_of.desc).map (fun d => d.parameters.length) = some 2 := by decide +kernel
abbrev rX10_isRetracted : Room := { frames := 0, cells := 0, slots := 0, locals := 0 }
set_option maxRecDepth 100000 in
set_option maxHeartbeats 8000000 in
theorem c_X10_isRetracted (l : Launch) (t : gP) (x1 : Int) (u : uS) (r : Int) (u' : uS) (h : f_X10_isRetracted x1 u = some (r, u')) : xMi l yX10_isRetracted wsX10_isRetracted rX10_isRetracted t [.ref (t.2.2.1 40), .int (iI x1)] u r u' 0 0 := by
  refine x_ofWi (cc := cX10_isRetracted) (maxL := 2) (ret := .boolean) (own := RX10) (by decide) rfl rfl (Nat.le_of_ble_eq_true rfl) ?_
  intro p e s m args below meth c Q X hret H locs ls hG hS hl
  replace hl : lv_has ls 2 [(0, .ref (t.2.2.1 40)), (1, .int (iI x1))] := hl
  have q40 : 40 < NN ∧ sT 40 = 14 := by decide
  have iX10 : ∀ w ∈ wsX100, w ∈ wsX10_isRetracted := by decide +kernel
  have w1 : Cond.fieldLink RX10 7 "TriggerNetworkModel" "now" "[I" ∈ wsX10_isRetracted := x_w 1 rfl
  have q41 : 41 < NN ∧ sT 41 = 100 ∧ sN 41 = 1167 := by decide
  unfold f_X10_isRetracted at h
  refine lv_aload_n X.1.1 X.1.2.1 dX10_isRetracted_0 rfl (lv_at hl 0 rfl) ?_
  refine x_getr X hG 14 1 40 1 (inC := iX10) rfl q40.1 q40.2 ⟨by decide, by decide, by decide, rfl, by decide, by decide⟩ w1 dX10_isRetracted_1 ?_
  refine x_sipush X dX10_isRetracted_4 (by decide) ?_
  refine x_iconst X dX10_isRetracted_7 ?_
  refine lv_iload_n X.1.1 X.1.2.1 dX10_isRetracted_8 rfl (lv_at hl 1 rfl) ?_
  refine x_imul X dX10_isRetracted_9 ?_
  refine x_iadd X dX10_isRetracted_10 ?_
  obtain ⟨g1, h⟩ := xgd_of h
  refine x_iald X hG q41.1 q41.2.1 (n := 1167) q41.2.2 g1 (by decide) dX10_isRetracted_11 ?_
  refine x_iconst X dX10_isRetracted_12 ?_
  obtain ⟨g2, h⟩ := xgd_of h
  refine x_icmp_ne (tgt := 20) X g2 ⟨by decide, by decide⟩ dX10_isRetracted_13 (by decide) (fun c3 => ?_) (fun c3 => ?_)
  · replace h := xif_f h c3
    refine x_iconst X dX10_isRetracted_20 ?_
    cases h
    exact hret _ _ _ _ dX10_isRetracted_21 (by decide) hG hS
  · replace h := xif_t h c3
    refine x_iconst X dX10_isRetracted_16 ?_
    refine lv_goto (tgt := 21) X.1.1 X.1.2.1 dX10_isRetracted_17 (by decide) ?_
    cases h
    exact hret _ _ _ _ dX10_isRetracted_21 (by decide) hG hS
theorem hd_X10_isRetracted : yX10_isRetracted.cls = RX10 ∧ yX10_isRetracted.cls ≠ "java/lang/invoke/MethodHandle" ∧ yX10_isRetracted.cls ≠ "java/lang/invoke/VarHandle" ∧ (parseMethodDescriptor yX10_isRetracted.desc).map (fun d => d.parameters.length) = some 1 := by decide +kernel
abbrev rX10_live : Room := { frames := 1, cells := 0, slots := 0, locals := 21 }
set_option maxRecDepth 100000 in
set_option maxHeartbeats 8000000 in
theorem c_X10_live (l : Launch) (t : gP) (u : uS) (r : Int) (u' : uS) (h : f_X10_live u = some (r, u')) : xMi l yX10_live wsX10_live rX10_live t [.ref (t.2.2.1 40)] u r u' 0 0 := by
  refine x_ofWi (cc := cX10_live) (maxL := 3) (ret := .int) (own := RX10) (by decide) rfl rfl (Nat.le_of_ble_eq_true rfl) ?_
  intro p e s m args below meth c Q X hret H locs ls hG hS hl
  replace hl : lv_has ls 3 [(0, .ref (t.2.2.1 40))] := hl
  have q40 : 40 < NN ∧ sT 40 = 14 := by decide
  have iX10 : ∀ w ∈ wsX100, w ∈ wsX10_live := by decide +kernel
  have w1 : Cond.fieldLink RX10 7 "TriggerNetworkModel" "now" "[I" ∈ wsX10_live := x_w 1 rfl
  have q41 : 41 < NN ∧ sT 41 = 100 ∧ sN 41 = 1167 := by decide
  unfold f_X10_live at h
  refine x_iconst X dX10_live_0 ?_
  refine lv_istore_n (lv' := [(1, .int (iI 0)), (0, .ref (t.2.2.1 40))]) X.1.1 X.1.2.1 dX10_live_1 rfl hl (by decide) rfl (fun ls hl => ?_)
  refine x_iconst X dX10_live_2 ?_
  refine lv_istore_n (lv' := [(2, .int (iI 0)), (1, .int (iI 0)), (0, .ref (t.2.2.1 40))]) X.1.1 X.1.2.1 dX10_live_3 rfl hl (by decide) rfl (fun ls hl => ?_)
  have Lgo1 : ∀ (n : Nat) (x1_2 : Int) (x2_3 : Int) (u4 : uS), xl3 (s_X10_live_4) n x1_2 x2_3 u4 = some (r, u') → xG p l e rX10_live s m args below meth c t Q 3 0 0 4 u4 [(1, .int (iI x1_2)), (2, .int (iI x2_3)), (0, .ref (t.2.2.1 40))] [] := by
    intro n x1_2 x2_3 u4 h
    refine xl3_W (F := s_X10_live_4) (fun x1_2 x2_3 u4 q => q = (r, u') → xG p l e rX10_live s m args below meth c t Q 3 0 0 4 u4 [(1, .int (iI x1_2)), (2, .int (iI x2_3)), (0, .ref (t.2.2.1 40))] []) ?_ n x1_2 x2_3 u4 _ h rfl
    intro go1 igo1 x1_2 x2_3 u4 q h hq H locs ls hG hS hl
    subst hq
    unfold s_X10_live_4 at h
    refine lv_iload_n X.1.1 X.1.2.1 dX10_live_4 rfl (lv_at hl 1 rfl) ?_
    refine lv_aload_n X.1.1 X.1.2.1 dX10_live_5 rfl (lv_at hl 2 rfl) ?_
    refine x_getr X hG 14 1 40 1 (inC := iX10) rfl q40.1 q40.2 ⟨by decide, by decide, by decide, rfl, by decide, by decide⟩ w1 dX10_live_6 ?_
    refine x_iconst X dX10_live_9 ?_
    refine x_iald X hG q41.1 q41.2.1 (n := 1167) q41.2.2 ⟨by decide, by decide⟩ (by decide) dX10_live_10 ?_
    obtain ⟨g5, h⟩ := xgd_of h
    refine x_icmp_ge (tgt := 36) X g5.1 g5.2 dX10_live_11 (by decide) (fun c6 => ?_) (fun c6 => ?_)
    · replace h := xif_t h c6
      refine lv_iload_n X.1.1 X.1.2.1 dX10_live_36 rfl (lv_at hl 0 rfl) ?_
      cases h
      exact hret _ _ _ _ dX10_live_37 rfl hG hS
    · replace h := xif_f h c6
      refine lv_iload_n X.1.1 X.1.2.1 dX10_live_14 rfl (lv_at hl 0 rfl) ?_
      refine lv_aload_n X.1.1 X.1.2.1 dX10_live_15 rfl (lv_at hl 2 rfl) ?_
      refine lv_iload_n X.1.1 X.1.2.1 dX10_live_16 rfl (lv_at hl 1 rfl) ?_
      obtain ⟨v7, u8, hf, h⟩ := xbd_of h
      refine x_callVi0 X hG hS (c_X10_isRetracted l t _ _ _ _ hf) (cwV 1 X.1.2.2.2.2 gX10_live_X10_isRetracted rfl rfl rfl hd_X10_isRetracted ⟨Nat.le_of_ble_eq_true rfl, Nat.le_of_ble_eq_true rfl⟩) q40.1 q40.2 rfl (by decide) (by rfl) hl.1 (Nat.le_of_ble_eq_true rfl) dX10_live_17 ⟨by decide, by decide⟩ rfl (fun H locs hG hS => ?_)
      obtain ⟨g9, h⟩ := xgd_of h
      obtain ⟨j10, ej10, h⟩ := xlet_of h
      have Jj10 : ∀ (s11 : Int) (u12 : uS), j10 s11 u12 = some (r, u') → xG p l e rX10_live s m args below meth c t Q 3 0 0 28 u12 [(0, .ref (t.2.2.1 40)), (2, .int (iI x2_3))] [.int (iI s11), .int (iI x1_2)] := by
          intro s11 u12 h H locs ls hG hS hl
          replace h := (congrFun (congrFun ej10 s11) u12).symm.trans h
          refine x_iadd X dX10_live_28 ?_
          refine x_name (fun x1_13 ex1_13 => ?_)
          replace h := xlet_at ex1_13 h
          refine lv_istore_n (lv' := [(1, .int (iI x1_13)), (0, .ref (t.2.2.1 40)), (2, .int (iI x2_3))]) X.1.1 X.1.2.1 dX10_live_29 rfl hl (by decide) rfl (fun ls hl => ?_)
          refine lv_iinc (v := (iI (x2_3 + 1))) (lv' := [(2, .int (iI (x2_3 + 1))), (1, .int (iI x1_13)), (0, .ref (t.2.2.1 40))]) X.1.1 X.1.2.1 dX10_live_30 hl (k := 2) rfl (iI_add _ _) (by decide) rfl (fun ls hl => ?_)
          refine lv_goto (tgt := 4) X.1.1 X.1.2.1 dX10_live_33 (by decide) ?_
          exact igo1 _ _ _ _ h rfl _ _ _ hG hS (lv_sub hl [1, 0, 2] rfl)
      refine x_if_eq (tgt := 27) X g9 dX10_live_20 (by decide) (fun c14 => ?_) (fun c14 => ?_)
      · replace h := xif_t h c14
        refine x_iconst X dX10_live_27 ?_
        exact Jj10 _ _ h _ _ _ hG hS (lv_sub hl [2, 1] rfl)
      · replace h := xif_f h c14
        refine x_iconst X dX10_live_23 ?_
        refine lv_goto (tgt := 28) X.1.1 X.1.2.1 dX10_live_24 (by decide) ?_
        exact Jj10 _ _ h _ _ _ hG hS (lv_sub hl [2, 1] rfl)
  exact Lgo1 FU _ _ _ h _ _ _ hG hS (lv_sub hl [1, 0, 2] rfl)
theorem hd_X10_live : yX10_live.cls = RX10 ∧ yX10_live.cls ≠ "java/lang/invoke/MethodHandle" ∧ yX10_live.cls ≠ "java/lang/invoke/VarHandle" ∧ (parseMethodDescriptor yX10_live.desc).map (fun d => d.parameters.length) = some 0 := by decide +kernel
abbrev rX10_size : Room := { frames := 2, cells := 0, slots := 0, locals := 43 }
set_option maxRecDepth 100000 in
set_option maxHeartbeats 8000000 in
theorem c_X10_size (l : Launch) (t : gP) (x1 : Int) (u : uS) (r : Int) (u' : uS) (h : f_X10_size x1 u = some (r, u')) : xMi l yX10_size wsX10_size rX10_size t [.ref (t.2.2.1 40), .int (iI x1)] u r u' 0 0 := by
  refine x_ofWi (cc := cX10_size) (maxL := 2) (ret := .int) (own := RX10) (by decide) rfl rfl (Nat.le_of_ble_eq_true rfl) ?_
  intro p e s m args below meth c Q X hret H locs ls hG hS hl
  replace hl : lv_has ls 2 [(0, .ref (t.2.2.1 40)), (1, .int (iI x1))] := hl
  have q40 : 40 < NN ∧ sT 40 = 14 := by decide
  have iX10 : ∀ w ∈ wsX100, w ∈ wsX10_size := by decide +kernel
  have w1 : Cond.fieldLink RX10 64 "TriggerNetworkModel" "thrown" "I" ∈ wsX10_size := x_w 1 rfl
  have w2 : Cond.fieldLink RX10 13 "TriggerNetworkModel" "told" "[I" ∈ wsX10_size := x_w 2 rfl
  have q42 : 42 < NN ∧ sT 42 = 100 ∧ sN 42 = 30 := by decide
  have w3 : Cond.fieldLink RX10 7 "TriggerNetworkModel" "now" "[I" ∈ wsX10_size := x_w 3 rfl
  have q41 : 41 < NN ∧ sT 41 = 100 ∧ sN 41 = 1167 := by decide
  unfold f_X10_size at h
  refine lv_aload_n X.1.1 X.1.2.1 dX10_size_0 rfl (lv_at hl 0 rfl) ?_
  refine x_iconst X dX10_size_1 ?_
  refine x_puti X hG hS 14 0 40 0 _ tyX10 tyX10_ok nmX10 (inC := iX10) rfl q40.1 q40.2 ⟨by decide, by decide, by decide, rfl, rfl⟩ rfl (by decide +kernel) w1 dX10_size_2 (fun H locs hG hS => ?_)
  obtain ⟨u1, eu1, h⟩ := xlet_of h
  replace hG : G t u1 H := by rw [eu1]; exact hG
  refine lv_aload_n X.1.1 X.1.2.1 dX10_size_5 rfl (lv_at hl 0 rfl) ?_
  refine lv_iload_n X.1.1 X.1.2.1 dX10_size_6 rfl (lv_at hl 1 rfl) ?_
  refine x_iconst X dX10_size_7 ?_
  refine x_iconst X dX10_size_8 ?_
  obtain ⟨v2, u3, hf, h⟩ := xbd_of h
  refine x_callSi0 X hG hS (c_X10_within l t _ _ _ _ _ _ hf) (va_cwS 3 X.1.2.2.2.2 gX10_size_X10_within rfl rfl rfl hds_X10_within ⟨Nat.le_of_ble_eq_true rfl, Nat.le_of_ble_eq_true rfl⟩) (by rfl) hl.1 (Nat.le_of_ble_eq_true rfl) dX10_size_9 ⟨by decide, by decide⟩ rfl (fun H locs hG hS => ?_)
  obtain ⟨g4, h⟩ := xgd_of h
  obtain ⟨j5, ej5, h⟩ := xlet_of h
  have Jj5 : ∀ (s6 : Int) (u7 : uS), j5 s6 u7 = some (r, u') → xG p l e rX10_size s m args below meth c t Q 2 0 0 20 u7 [(0, .ref (t.2.2.1 40)), (1, .int (iI x1))] [.int (iI s6), .ref (t.2.2.1 40)] := by
      intro s6 u7 h H locs ls hG hS hl
      replace h := (congrFun (congrFun ej5 s6) u7).symm.trans h
      refine x_iconst X dX10_size_20 ?_
      obtain ⟨v8, u9, hf, h⟩ := xbd_of h
      refine x_callVi0 X hG hS (c_X10_throwsIf l t _ _ _ _ _ hf) (cwV 2 X.1.2.2.2.2 gX10_size_X10_throwsIf rfl rfl rfl hd_X10_throwsIf ⟨Nat.le_of_ble_eq_true rfl, Nat.le_of_ble_eq_true rfl⟩) q40.1 q40.2 rfl (by decide) (by rfl) hl.1 (Nat.le_of_ble_eq_true rfl) dX10_size_21 ⟨by decide, by decide⟩ rfl (fun H locs hG hS => ?_)
      obtain ⟨g10, h⟩ := xgd_of h
      refine x_if_eq (tgt := 29) X g10 dX10_size_24 (by decide) (fun c11 => ?_) (fun c11 => ?_)
      · replace h := xif_t h c11
        refine lv_iload_n X.1.1 X.1.2.1 dX10_size_29 rfl (lv_at hl 1 rfl) ?_
        obtain ⟨g12, h⟩ := xgd_of h
        rcases Decidable.em (x1 < 0 ∨ 4 < x1) with c13 | c13
        · replace h := xif_t h c13
          refine x_tblO (tgt := 97) X g12 dX10_size_30 c13 (by decide) ?_
          refine lv_aload_n X.1.1 X.1.2.1 dX10_size_97 rfl (lv_at hl 0 rfl) ?_
          obtain ⟨v14, u15, hf, h⟩ := xbd_of h
          refine x_callVi0 X hG hS (c_X10_live l t  _ _ _ hf) (cwV 0 X.1.2.2.2.2 gX10_size_X10_live rfl rfl rfl hd_X10_live ⟨Nat.le_of_ble_eq_true rfl, Nat.le_of_ble_eq_true rfl⟩) q40.1 q40.2 rfl (by decide) (by rfl) hl.1 (Nat.le_of_ble_eq_true rfl) dX10_size_98 ⟨by decide, by decide⟩ rfl (fun H locs hG hS => ?_)
          cases h
          exact hret _ _ _ _ dX10_size_101 rfl hG hS
        · replace h := xif_f h c13
          rcases Decidable.em (x1 = 0) with c16 | c16
          · replace h := xif_t h c16
            refine x_tblI (v := 0) (tgt := 64) X c16 (by decide) ⟨by decide, by decide⟩ dX10_size_30 rfl (by decide) ?_
            refine lv_aload_n X.1.1 X.1.2.1 dX10_size_64 rfl (lv_at hl 0 rfl) ?_
            refine x_getr X hG 14 2 40 2 (inC := iX10) rfl q40.1 q40.2 ⟨by decide, by decide, by decide, rfl, by decide, by decide⟩ w2 dX10_size_65 ?_
            refine x_iconst X dX10_size_68 ?_
            refine x_iald X hG q42.1 q42.2.1 (n := 30) q42.2.2 ⟨by decide, by decide⟩ (by decide) dX10_size_69 ?_
            cases h
            exact hret _ _ _ _ dX10_size_70 rfl hG hS
          replace h := xif_f h c16
          rcases Decidable.em (x1 = 1) with c17 | c17
          · replace h := xif_t h c17
            refine x_tblI (v := 1) (tgt := 71) X c17 (by decide) ⟨by decide, by decide⟩ dX10_size_30 rfl (by decide) ?_
            refine lv_aload_n X.1.1 X.1.2.1 dX10_size_71 rfl (lv_at hl 0 rfl) ?_
            obtain ⟨v18, u19, hf, h⟩ := xbd_of h
            refine x_callVi0 X hG hS (c_X10_nodes l t  _ _ _ hf) (cwV 0 X.1.2.2.2.2 gX10_size_X10_nodes rfl rfl rfl hd_X10_nodes ⟨Nat.le_of_ble_eq_true rfl, Nat.le_of_ble_eq_true rfl⟩) q40.1 q40.2 rfl (by decide) (by rfl) hl.1 (Nat.le_of_ble_eq_true rfl) dX10_size_72 ⟨by decide, by decide⟩ rfl (fun H locs hG hS => ?_)
            cases h
            exact hret _ _ _ _ dX10_size_75 rfl hG hS
          replace h := xif_f h c17
          rcases Decidable.em (x1 = 2) with c20 | c20
          · replace h := xif_t h c20
            refine x_tblI (v := 2) (tgt := 76) X c20 (by decide) ⟨by decide, by decide⟩ dX10_size_30 rfl (by decide) ?_
            refine lv_aload_n X.1.1 X.1.2.1 dX10_size_76 rfl (lv_at hl 0 rfl) ?_
            refine x_getr X hG 14 2 40 2 (inC := iX10) rfl q40.1 q40.2 ⟨by decide, by decide, by decide, rfl, by decide, by decide⟩ w2 dX10_size_77 ?_
            refine x_iconst X dX10_size_80 ?_
            refine x_iald X hG q42.1 q42.2.1 (n := 30) q42.2.2 ⟨by decide, by decide⟩ (by decide) dX10_size_81 ?_
            cases h
            exact hret _ _ _ _ dX10_size_82 rfl hG hS
          replace h := xif_f h c20
          rcases Decidable.em (x1 = 3) with c21 | c21
          · replace h := xif_t h c21
            refine x_tblI (v := 3) (tgt := 83) X c21 (by decide) ⟨by decide, by decide⟩ dX10_size_30 rfl (by decide) ?_
            refine lv_aload_n X.1.1 X.1.2.1 dX10_size_83 rfl (lv_at hl 0 rfl) ?_
            refine x_getr X hG 14 1 40 1 (inC := iX10) rfl q40.1 q40.2 ⟨by decide, by decide, by decide, rfl, by decide, by decide⟩ w3 dX10_size_84 ?_
            refine x_iconst X dX10_size_87 ?_
            refine x_iald X hG q41.1 q41.2.1 (n := 1167) q41.2.2 ⟨by decide, by decide⟩ (by decide) dX10_size_88 ?_
            cases h
            exact hret _ _ _ _ dX10_size_89 rfl hG hS
          replace h := xif_f h c21
          rcases Decidable.em (x1 = 4) with c22 | c22
          · replace h := xif_t h c22
            refine x_tblI (v := 4) (tgt := 90) X c22 (by decide) ⟨by decide, by decide⟩ dX10_size_30 rfl (by decide) ?_
            refine lv_aload_n X.1.1 X.1.2.1 dX10_size_90 rfl (lv_at hl 0 rfl) ?_
            refine x_getr X hG 14 1 40 1 (inC := iX10) rfl q40.1 q40.2 ⟨by decide, by decide, by decide, rfl, by decide, by decide⟩ w3 dX10_size_91 ?_
            refine x_iconst X dX10_size_94 ?_
            refine x_iald X hG q41.1 q41.2.1 (n := 1167) q41.2.2 ⟨by decide, by decide⟩ (by decide) dX10_size_95 ?_
            cases h
            exact hret _ _ _ _ dX10_size_96 rfl hG hS
          replace h := xif_f h c22
          cases h
      · replace h := xif_f h c11
        refine x_iconst X dX10_size_27 ?_
        cases h
        exact hret _ _ _ _ dX10_size_28 rfl hG hS
  refine x_if_ne (tgt := 19) X g4 dX10_size_12 (by decide) (fun c23 => ?_) (fun c23 => ?_)
  · replace h := xif_f h c23
    refine x_iconst X dX10_size_19 ?_
    exact Jj5 _ _ h _ _ _ hG hS (lv_sub hl [0, 1] rfl)
  · replace h := xif_t h c23
    refine x_iconst X dX10_size_15 ?_
    refine lv_goto (tgt := 20) X.1.1 X.1.2.1 dX10_size_16 (by decide) ?_
    exact Jj5 _ _ h _ _ _ hG hS (lv_sub hl [0, 1] rfl)
theorem hd_X10_size : yX10_size.cls = RX10 ∧ yX10_size.cls ≠ "java/lang/invoke/MethodHandle" ∧ yX10_size.cls ≠ "java/lang/invoke/VarHandle" ∧ (parseMethodDescriptor yX10_size.desc).map (fun d => d.parameters.length) = some 1 := by decide +kernel
abbrev rX10_tick : Room := { frames := 0, cells := 0, slots := 0, locals := 0 }
set_option maxRecDepth 100000 in
set_option maxHeartbeats 8000000 in
theorem c_X10_tick (l : Launch) (t : gP) (u : uS) (r : Int) (u' : uS) (h : f_X10_tick u = some (r, u')) : xMi l yX10_tick wsX10_tick rX10_tick t [.ref (t.2.2.1 40)] u r u' 0 0 := by
  refine x_ofWi (cc := cX10_tick) (maxL := 1) (ret := .int) (own := RX10) (by decide) rfl rfl (Nat.le_of_ble_eq_true rfl) ?_
  intro p e s m args below meth c Q X hret H locs ls hG hS hl
  replace hl : lv_has ls 1 [(0, .ref (t.2.2.1 40))] := hl
  have q40 : 40 < NN ∧ sT 40 = 14 := by decide
  have iX10 : ∀ w ∈ wsX100, w ∈ wsX10_tick := by decide +kernel
  have w1 : Cond.fieldLink RX10 64 "TriggerNetworkModel" "thrown" "I" ∈ wsX10_tick := x_w 1 rfl
  have w2 : Cond.fieldLink RX10 7 "TriggerNetworkModel" "now" "[I" ∈ wsX10_tick := x_w 2 rfl
  have q41 : 41 < NN ∧ sT 41 = 100 ∧ sN 41 = 1167 := by decide
  unfold f_X10_tick at h
  refine lv_aload_n X.1.1 X.1.2.1 dX10_tick_0 rfl (lv_at hl 0 rfl) ?_
  refine x_iconst X dX10_tick_1 ?_
  refine x_puti X hG hS 14 0 40 0 _ tyX10 tyX10_ok nmX10 (inC := iX10) rfl q40.1 q40.2 ⟨by decide, by decide, by decide, rfl, rfl⟩ rfl (by decide +kernel) w1 dX10_tick_2 (fun H locs hG hS => ?_)
  obtain ⟨u1, eu1, h⟩ := xlet_of h
  replace hG : G t u1 H := by rw [eu1]; exact hG
  refine lv_aload_n X.1.1 X.1.2.1 dX10_tick_5 rfl (lv_at hl 0 rfl) ?_
  refine x_getr X hG 14 1 40 1 (inC := iX10) rfl q40.1 q40.2 ⟨by decide, by decide, by decide, rfl, by decide, by decide⟩ w2 dX10_tick_6 ?_
  refine x_iconst X dX10_tick_9 ?_
  refine x_iald X hG q41.1 q41.2.1 (n := 1167) q41.2.2 ⟨by decide, by decide⟩ (by decide) dX10_tick_10 ?_
  cases h
  exact hret _ _ _ _ dX10_tick_11 rfl hG hS
theorem hd_X10_tick : yX10_tick.cls = RX10 ∧ yX10_tick.cls ≠ "java/lang/invoke/MethodHandle" ∧ yX10_tick.cls ≠ "java/lang/invoke/VarHandle" ∧ (parseMethodDescriptor yX10_tick.desc).map (fun d => d.parameters.length) = some 0 := by decide +kernel
abbrev rX10_apart : Room := { frames := 0, cells := 0, slots := 0, locals := 0 }
set_option maxRecDepth 100000 in
set_option maxHeartbeats 8000000 in
theorem c_X10_apart (l : Launch) (t : gP) (x0 : Int) (x1 : Int) (u : uS) (r : Int) (u' : uS) (h : f_X10_apart x0 x1 u = some (r, u')) : xMi l yX10_apart wsX10_apart rX10_apart t [.int (iI x0), .int (iI x1)] u r u' 0 0 := by
  refine x_ofWi (cc := cX10_apart) (maxL := 6) (ret := .int) (own := RX10) (by decide) rfl rfl (Nat.le_of_ble_eq_true rfl) ?_
  intro p e s m args below meth c Q X hret H locs ls hG hS hl
  replace hl : lv_has ls 6 [(0, .int (iI x0)), (1, .int (iI x1))] := hl
  unfold f_X10_apart at h
  refine lv_iload_n X.1.1 X.1.2.1 dX10_apart_0 rfl (lv_at hl 0 rfl) ?_
  refine lv_iload_n X.1.1 X.1.2.1 dX10_apart_1 rfl (lv_at hl 0 rfl) ?_
  refine x_imul X dX10_apart_2 ?_
  refine lv_iload_n X.1.1 X.1.2.1 dX10_apart_3 rfl (lv_at hl 1 rfl) ?_
  refine lv_iload_n X.1.1 X.1.2.1 dX10_apart_4 rfl (lv_at hl 1 rfl) ?_
  refine x_imul X dX10_apart_5 ?_
  refine x_iadd X dX10_apart_6 ?_
  refine x_name (fun x2_1 ex2_1 => ?_)
  replace h := xlet_at ex2_1 h
  refine lv_istore_n (lv' := [(2, .int (iI x2_1)), (0, .int (iI x0)), (1, .int (iI x1))]) X.1.1 X.1.2.1 dX10_apart_7 rfl hl (by decide) rfl (fun ls hl => ?_)
  refine x_iconst X dX10_apart_8 ?_
  refine lv_istore_n (lv' := [(3, .int (iI 0)), (2, .int (iI x2_1)), (0, .int (iI x0)), (1, .int (iI x1))]) X.1.1 X.1.2.1 dX10_apart_9 rfl hl (by decide) rfl (fun ls hl => ?_)
  refine x_sipush X dX10_apart_10 (by decide) ?_
  refine lv_istore (lv' := [(4, .int (iI 4096)), (3, .int (iI 0)), (2, .int (iI x2_1)), (0, .int (iI x0)), (1, .int (iI x1))]) X.1.1 X.1.2.1 dX10_apart_13 hl (by decide) rfl (fun ls hl => ?_)
  have Lgo2 : ∀ (n : Nat) (x3_3 : Int) (x4_4 : Int) (u5 : uS), xl3 (s_X10_apart_15 x2_1) n x3_3 x4_4 u5 = some (r, u') → xG p l e rX10_apart s m args below meth c t Q 6 0 0 15 u5 [(3, .int (iI x3_3)), (4, .int (iI x4_4)), (2, .int (iI x2_1))] [] := by
    intro n x3_3 x4_4 u5 h
    refine xl3_W (F := s_X10_apart_15 x2_1) (fun x3_3 x4_4 u5 q => q = (r, u') → xG p l e rX10_apart s m args below meth c t Q 6 0 0 15 u5 [(3, .int (iI x3_3)), (4, .int (iI x4_4)), (2, .int (iI x2_1))] []) ?_ n x3_3 x4_4 u5 _ h rfl
    intro go2 igo2 x3_3 x4_4 u5 q h hq H locs ls hG hS hl
    subst hq
    unfold s_X10_apart_15 at h
    refine lv_iload X.1.1 X.1.2.1 dX10_apart_15 (lv_at hl 1 rfl) ?_
    obtain ⟨g6, h⟩ := xgd_of h
    refine x_if_le (tgt := 51) X g6 dX10_apart_17 (by decide) (fun c7 => ?_) (fun c7 => ?_)
    · replace h := xif_t h c7
      refine lv_iload_n X.1.1 X.1.2.1 dX10_apart_51 rfl (lv_at hl 0 rfl) ?_
      cases h
      exact hret _ _ _ _ dX10_apart_52 rfl hG hS
    · replace h := xif_f h c7
      refine lv_iload_n X.1.1 X.1.2.1 dX10_apart_20 rfl (lv_at hl 0 rfl) ?_
      refine lv_iload X.1.1 X.1.2.1 dX10_apart_21 (lv_at hl 1 rfl) ?_
      refine x_iadd X dX10_apart_23 ?_
      refine x_name (fun x5_8 ex5_8 => ?_)
      replace h := xlet_at ex5_8 h
      refine lv_istore (lv' := [(5, .int (iI x5_8)), (3, .int (iI x3_3)), (4, .int (iI x4_4)), (2, .int (iI x2_1))]) X.1.1 X.1.2.1 dX10_apart_24 hl (by decide) rfl (fun ls hl => ?_)
      refine lv_iload X.1.1 X.1.2.1 dX10_apart_26 (lv_at hl 0 rfl) ?_
      refine lv_iload X.1.1 X.1.2.1 dX10_apart_28 (lv_at hl 0 rfl) ?_
      refine x_imul X dX10_apart_30 ?_
      refine lv_iload_n X.1.1 X.1.2.1 dX10_apart_31 rfl (lv_at hl 3 rfl) ?_
      obtain ⟨g9, h⟩ := xgd_of h
      obtain ⟨j10, ej10, h⟩ := xlet_of h
      have Jj10 : ∀ (s11 : Int) (u12 : uS), j10 s11 u12 = some (r, u') → xG p l e rX10_apart s m args below meth c t Q 6 0 0 41 u12 [(2, .int (iI x2_1)), (4, .int (iI x4_4))] [.int (iI s11)] := by
          intro s11 u12 h H locs ls hG hS hl
          replace h := (congrFun (congrFun ej10 s11) u12).symm.trans h
          refine lv_istore_n (lv' := [(3, .int (iI s11)), (2, .int (iI x2_1)), (4, .int (iI x4_4))]) X.1.1 X.1.2.1 dX10_apart_41 rfl hl (by decide) rfl (fun ls hl => ?_)
          refine lv_iload X.1.1 X.1.2.1 dX10_apart_42 (lv_at hl 2 rfl) ?_
          refine x_iconst X dX10_apart_44 ?_
          obtain ⟨g13, h⟩ := xgd_of h
          refine x_ishr X g13 ⟨by decide, by decide⟩ dX10_apart_45 ?_
          refine x_name (fun x4_14 ex4_14 => ?_)
          replace h := xlet_at ex4_14 h
          refine lv_istore (lv' := [(4, .int (iI x4_14)), (3, .int (iI s11)), (2, .int (iI x2_1))]) X.1.1 X.1.2.1 dX10_apart_46 hl (by decide) rfl (fun ls hl => ?_)
          refine lv_goto (tgt := 15) X.1.1 X.1.2.1 dX10_apart_48 (by decide) ?_
          exact igo2 _ _ _ _ h rfl _ _ _ hG hS (lv_sub hl [1, 0, 2] rfl)
      refine x_icmp_gt (tgt := 40) X g9.1 g9.2 dX10_apart_32 (by decide) (fun c15 => ?_) (fun c15 => ?_)
      · replace h := xif_t h c15
        refine lv_iload_n X.1.1 X.1.2.1 dX10_apart_40 rfl (lv_at hl 1 rfl) ?_
        exact Jj10 _ _ h _ _ _ hG hS (lv_sub hl [3, 2] rfl)
      · replace h := xif_f h c15
        refine lv_iload X.1.1 X.1.2.1 dX10_apart_35 (lv_at hl 0 rfl) ?_
        refine lv_goto (tgt := 41) X.1.1 X.1.2.1 dX10_apart_37 (by decide) ?_
        exact Jj10 _ _ h _ _ _ hG hS (lv_sub hl [3, 2] rfl)
  exact Lgo2 FU _ _ _ h _ _ _ hG hS (lv_sub hl [1, 0, 2] rfl)
theorem hds_X10_apart : yX10_apart.cls ≠ "java/lang/invoke/MethodHandle" ∧ yX10_apart.cls ≠ "java/lang/invoke/VarHandle" ∧ (parseMethodDescriptor yX10_apart.desc).map (fun d => d.parameters.length) = some 2 := by decide +kernel
abbrev rX10_timeFor : Room := { frames := 0, cells := 0, slots := 0, locals := 0 }
set_option maxRecDepth 100000 in
set_option maxHeartbeats 8000000 in
theorem c_X10_timeFor (l : Launch) (t : gP) (x1 : Int) (u : uS) (r : Int) (u' : uS) (h : f_X10_timeFor x1 u = some (r, u')) : xMi l yX10_timeFor wsX10_timeFor rX10_timeFor t [.ref (t.2.2.1 40), .int (iI x1)] u r u' 0 0 := by
  refine x_ofWi (cc := cX10_timeFor) (maxL := 2) (ret := .int) (own := RX10) (by decide) rfl rfl (Nat.le_of_ble_eq_true rfl) ?_
  intro p e s m args below meth c Q X hret H locs ls hG hS hl
  replace hl : lv_has ls 2 [(0, .ref (t.2.2.1 40)), (1, .int (iI x1))] := hl
  have q40 : 40 < NN ∧ sT 40 = 14 := by decide
  have iX10 : ∀ w ∈ wsX100, w ∈ wsX10_timeFor := by decide +kernel
  have w1 : Cond.fieldLink RX10 13 "TriggerNetworkModel" "told" "[I" ∈ wsX10_timeFor := x_w 1 rfl
  have q42 : 42 < NN ∧ sT 42 = 100 ∧ sN 42 = 30 := by decide
  unfold f_X10_timeFor at h
  refine lv_iload_n X.1.1 X.1.2.1 dX10_timeFor_0 rfl (lv_at hl 1 rfl) ?_
  refine x_bipush X dX10_timeFor_1 (by decide) ?_
  refine x_imul X dX10_timeFor_3 ?_
  refine lv_aload_n X.1.1 X.1.2.1 dX10_timeFor_4 rfl (lv_at hl 0 rfl) ?_
  refine x_getr X hG 14 2 40 2 (inC := iX10) rfl q40.1 q40.2 ⟨by decide, by decide, by decide, rfl, by decide, by decide⟩ w1 dX10_timeFor_5 ?_
  refine x_bipush X dX10_timeFor_8 (by decide) ?_
  refine x_iald X hG q42.1 q42.2.1 (n := 30) q42.2.2 ⟨by decide, by decide⟩ (by decide) dX10_timeFor_10 ?_
  obtain ⟨g1, h⟩ := xgd_of h
  refine x_idiv X g1.1 g1.2.1 g1.2.2 dX10_timeFor_11 ?_
  cases h
  exact hret _ _ _ _ dX10_timeFor_12 rfl hG hS
theorem hd_X10_timeFor : yX10_timeFor.cls = RX10 ∧ yX10_timeFor.cls ≠ "java/lang/invoke/MethodHandle" ∧ yX10_timeFor.cls ≠ "java/lang/invoke/VarHandle" ∧ (parseMethodDescriptor yX10_timeFor.desc).map (fun d => d.parameters.length) = some 1 := by decide +kernel
abbrev rX10_timeBetween : Room := { frames := 1, cells := 0, slots := 0, locals := 25 }
set_option maxRecDepth 100000 in
set_option maxHeartbeats 8000000 in
theorem c_X10_timeBetween (l : Launch) (t : gP) (x1 : Int) (x2 : Int) (u : uS) (r : Int) (u' : uS) (h : f_X10_timeBetween x1 x2 u = some (r, u')) : xMi l yX10_timeBetween wsX10_timeBetween rX10_timeBetween t [.ref (t.2.2.1 40), .int (iI x1), .int (iI x2)] u r u' 0 0 := by
  refine x_ofWi (cc := cX10_timeBetween) (maxL := 3) (ret := .int) (own := RX10) (by decide) rfl rfl (Nat.le_of_ble_eq_true rfl) ?_
  intro p e s m args below meth c Q X hret H locs ls hG hS hl
  replace hl : lv_has ls 3 [(0, .ref (t.2.2.1 40)), (1, .int (iI x1)), (2, .int (iI x2))] := hl
  have q40 : 40 < NN ∧ sT 40 = 14 := by decide
  have iX10 : ∀ w ∈ wsX100, w ∈ wsX10_timeBetween := by decide +kernel
  have w1 : Cond.fieldLink RX10 16 "TriggerNetworkModel" "xs" "[I" ∈ wsX10_timeBetween := x_w 1 rfl
  have q43 : 43 < NN ∧ sT 43 = 100 ∧ sN 43 = 16 := by decide
  have w2 : Cond.fieldLink RX10 19 "TriggerNetworkModel" "ys" "[I" ∈ wsX10_timeBetween := x_w 2 rfl
  have q44 : 44 < NN ∧ sT 44 = 100 ∧ sN 44 = 16 := by decide
  unfold f_X10_timeBetween at h
  refine lv_aload_n X.1.1 X.1.2.1 dX10_timeBetween_0 rfl (lv_at hl 0 rfl) ?_
  refine lv_aload_n X.1.1 X.1.2.1 dX10_timeBetween_1 rfl (lv_at hl 0 rfl) ?_
  refine x_getr X hG 14 3 40 3 (inC := iX10) rfl q40.1 q40.2 ⟨by decide, by decide, by decide, rfl, by decide, by decide⟩ w1 dX10_timeBetween_2 ?_
  refine lv_iload_n X.1.1 X.1.2.1 dX10_timeBetween_5 rfl (lv_at hl 1 rfl) ?_
  obtain ⟨g1, h⟩ := xgd_of h
  refine x_iald X hG q43.1 q43.2.1 (n := 16) q43.2.2 g1 (by decide) dX10_timeBetween_6 ?_
  refine lv_aload_n X.1.1 X.1.2.1 dX10_timeBetween_7 rfl (lv_at hl 0 rfl) ?_
  refine x_getr X hG 14 3 40 3 (inC := iX10) rfl q40.1 q40.2 ⟨by decide, by decide, by decide, rfl, by decide, by decide⟩ w1 dX10_timeBetween_8 ?_
  refine lv_iload_n X.1.1 X.1.2.1 dX10_timeBetween_11 rfl (lv_at hl 2 rfl) ?_
  obtain ⟨g2, h⟩ := xgd_of h
  refine x_iald X hG q43.1 q43.2.1 (n := 16) q43.2.2 g2 (by decide) dX10_timeBetween_12 ?_
  refine x_isub X dX10_timeBetween_13 ?_
  refine lv_aload_n X.1.1 X.1.2.1 dX10_timeBetween_14 rfl (lv_at hl 0 rfl) ?_
  refine x_getr X hG 14 4 40 4 (inC := iX10) rfl q40.1 q40.2 ⟨by decide, by decide, by decide, rfl, by decide, by decide⟩ w2 dX10_timeBetween_15 ?_
  refine lv_iload_n X.1.1 X.1.2.1 dX10_timeBetween_18 rfl (lv_at hl 1 rfl) ?_
  obtain ⟨g3, h⟩ := xgd_of h
  refine x_iald X hG q44.1 q44.2.1 (n := 16) q44.2.2 g3 (by decide) dX10_timeBetween_19 ?_
  refine lv_aload_n X.1.1 X.1.2.1 dX10_timeBetween_20 rfl (lv_at hl 0 rfl) ?_
  refine x_getr X hG 14 4 40 4 (inC := iX10) rfl q40.1 q40.2 ⟨by decide, by decide, by decide, rfl, by decide, by decide⟩ w2 dX10_timeBetween_21 ?_
  refine lv_iload_n X.1.1 X.1.2.1 dX10_timeBetween_24 rfl (lv_at hl 2 rfl) ?_
  obtain ⟨g4, h⟩ := xgd_of h
  refine x_iald X hG q44.1 q44.2.1 (n := 16) q44.2.2 g4 (by decide) dX10_timeBetween_25 ?_
  refine x_isub X dX10_timeBetween_26 ?_
  obtain ⟨v5, u6, hf, h⟩ := xbd_of h
  refine x_callSi0 X hG hS (c_X10_apart l t _ _ _ _ _ hf) (va_cwS 2 X.1.2.2.2.2 gX10_timeBetween_X10_apart rfl rfl rfl hds_X10_apart ⟨Nat.le_of_ble_eq_true rfl, Nat.le_of_ble_eq_true rfl⟩) (by rfl) hl.1 (Nat.le_of_ble_eq_true rfl) dX10_timeBetween_27 ⟨by decide, by decide⟩ rfl (fun H locs hG hS => ?_)
  obtain ⟨v7, u8, hf, h⟩ := xbd_of h
  refine x_callVi0 X hG hS (c_X10_timeFor l t _ _ _ _ hf) (cwV 1 X.1.2.2.2.2 gX10_timeBetween_X10_timeFor rfl rfl rfl hd_X10_timeFor ⟨Nat.le_of_ble_eq_true rfl, Nat.le_of_ble_eq_true rfl⟩) q40.1 q40.2 rfl (by decide) (by rfl) hl.1 (Nat.le_of_ble_eq_true rfl) dX10_timeBetween_30 ⟨by decide, by decide⟩ rfl (fun H locs hG hS => ?_)
  cases h
  exact hret _ _ _ _ dX10_timeBetween_33 rfl hG hS
theorem hd_X10_timeBetween : yX10_timeBetween.cls = RX10 ∧ yX10_timeBetween.cls ≠ "java/lang/invoke/MethodHandle" ∧ yX10_timeBetween.cls ≠ "java/lang/invoke/VarHandle" ∧ (parseMethodDescriptor yX10_timeBetween.desc).map (fun d => d.parameters.length) = some 2 := by decide +kernel
abbrev rX10_nodeX : Room := { frames := 0, cells := 0, slots := 0, locals := 0 }
set_option maxRecDepth 100000 in
set_option maxHeartbeats 8000000 in
theorem c_X10_nodeX (l : Launch) (t : gP) (x1 : Int) (u : uS) (r : Int) (u' : uS) (h : f_X10_nodeX x1 u = some (r, u')) : xMi l yX10_nodeX wsX10_nodeX rX10_nodeX t [.ref (t.2.2.1 40), .int (iI x1)] u r u' 0 0 := by
  refine x_ofWi (cc := cX10_nodeX) (maxL := 2) (ret := .int) (own := RX10) (by decide) rfl rfl (Nat.le_of_ble_eq_true rfl) ?_
  intro p e s m args below meth c Q X hret H locs ls hG hS hl
  replace hl : lv_has ls 2 [(0, .ref (t.2.2.1 40)), (1, .int (iI x1))] := hl
  have q40 : 40 < NN ∧ sT 40 = 14 := by decide
  have iX10 : ∀ w ∈ wsX100, w ∈ wsX10_nodeX := by decide +kernel
  have w1 : Cond.fieldLink RX10 13 "TriggerNetworkModel" "told" "[I" ∈ wsX10_nodeX := x_w 1 rfl
  have q42 : 42 < NN ∧ sT 42 = 100 ∧ sN 42 = 30 := by decide
  unfold f_X10_nodeX at h
  refine lv_aload_n X.1.1 X.1.2.1 dX10_nodeX_0 rfl (lv_at hl 0 rfl) ?_
  refine x_getr X hG 14 2 40 2 (inC := iX10) rfl q40.1 q40.2 ⟨by decide, by decide, by decide, rfl, by decide, by decide⟩ w1 dX10_nodeX_1 ?_
  refine x_iconst X dX10_nodeX_4 ?_
  refine x_iald X hG q42.1 q42.2.1 (n := 30) q42.2.2 ⟨by decide, by decide⟩ (by decide) dX10_nodeX_5 ?_
  refine lv_iload_n X.1.1 X.1.2.1 dX10_nodeX_6 rfl (lv_at hl 1 rfl) ?_
  refine lv_aload_n X.1.1 X.1.2.1 dX10_nodeX_7 rfl (lv_at hl 0 rfl) ?_
  refine x_getr X hG 14 2 40 2 (inC := iX10) rfl q40.1 q40.2 ⟨by decide, by decide, by decide, rfl, by decide, by decide⟩ w1 dX10_nodeX_8 ?_
  refine x_iconst X dX10_nodeX_11 ?_
  refine x_iald X hG q42.1 q42.2.1 (n := 30) q42.2.2 ⟨by decide, by decide⟩ (by decide) dX10_nodeX_12 ?_
  obtain ⟨g1, h⟩ := xgd_of h
  refine x_irem X g1.1 g1.2.1 g1.2.2 dX10_nodeX_13 ?_
  refine lv_aload_n X.1.1 X.1.2.1 dX10_nodeX_14 rfl (lv_at hl 0 rfl) ?_
  refine x_getr X hG 14 2 40 2 (inC := iX10) rfl q40.1 q40.2 ⟨by decide, by decide, by decide, rfl, by decide, by decide⟩ w1 dX10_nodeX_15 ?_
  refine x_bipush X dX10_nodeX_18 (by decide) ?_
  refine x_iald X hG q42.1 q42.2.1 (n := 30) q42.2.2 ⟨by decide, by decide⟩ (by decide) dX10_nodeX_20 ?_
  refine x_imul X dX10_nodeX_21 ?_
  refine x_iadd X dX10_nodeX_22 ?_
  cases h
  exact hret _ _ _ _ dX10_nodeX_23 rfl hG hS
theorem hd_X10_nodeX : yX10_nodeX.cls = RX10 ∧ yX10_nodeX.cls ≠ "java/lang/invoke/MethodHandle" ∧ yX10_nodeX.cls ≠ "java/lang/invoke/VarHandle" ∧ (parseMethodDescriptor yX10_nodeX.desc).map (fun d => d.parameters.length) = some 1 := by decide +kernel
abbrev rX10_nodeY : Room := { frames := 0, cells := 0, slots := 0, locals := 0 }
set_option maxRecDepth 100000 in
set_option maxHeartbeats 8000000 in
theorem c_X10_nodeY (l : Launch) (t : gP) (x1 : Int) (u : uS) (r : Int) (u' : uS) (h : f_X10_nodeY x1 u = some (r, u')) : xMi l yX10_nodeY wsX10_nodeY rX10_nodeY t [.ref (t.2.2.1 40), .int (iI x1)] u r u' 0 0 := by
  refine x_ofWi (cc := cX10_nodeY) (maxL := 2) (ret := .int) (own := RX10) (by decide) rfl rfl (Nat.le_of_ble_eq_true rfl) ?_
  intro p e s m args below meth c Q X hret H locs ls hG hS hl
  replace hl : lv_has ls 2 [(0, .ref (t.2.2.1 40)), (1, .int (iI x1))] := hl
  have q40 : 40 < NN ∧ sT 40 = 14 := by decide
  have iX10 : ∀ w ∈ wsX100, w ∈ wsX10_nodeY := by decide +kernel
  have w1 : Cond.fieldLink RX10 13 "TriggerNetworkModel" "told" "[I" ∈ wsX10_nodeY := x_w 1 rfl
  have q42 : 42 < NN ∧ sT 42 = 100 ∧ sN 42 = 30 := by decide
  unfold f_X10_nodeY at h
  refine lv_aload_n X.1.1 X.1.2.1 dX10_nodeY_0 rfl (lv_at hl 0 rfl) ?_
  refine x_getr X hG 14 2 40 2 (inC := iX10) rfl q40.1 q40.2 ⟨by decide, by decide, by decide, rfl, by decide, by decide⟩ w1 dX10_nodeY_1 ?_
  refine x_iconst X dX10_nodeY_4 ?_
  refine x_iald X hG q42.1 q42.2.1 (n := 30) q42.2.2 ⟨by decide, by decide⟩ (by decide) dX10_nodeY_5 ?_
  refine lv_iload_n X.1.1 X.1.2.1 dX10_nodeY_6 rfl (lv_at hl 1 rfl) ?_
  refine lv_aload_n X.1.1 X.1.2.1 dX10_nodeY_7 rfl (lv_at hl 0 rfl) ?_
  refine x_getr X hG 14 2 40 2 (inC := iX10) rfl q40.1 q40.2 ⟨by decide, by decide, by decide, rfl, by decide, by decide⟩ w1 dX10_nodeY_8 ?_
  refine x_iconst X dX10_nodeY_11 ?_
  refine x_iald X hG q42.1 q42.2.1 (n := 30) q42.2.2 ⟨by decide, by decide⟩ (by decide) dX10_nodeY_12 ?_
  obtain ⟨g1, h⟩ := xgd_of h
  refine x_idiv X g1.1 g1.2.1 g1.2.2 dX10_nodeY_13 ?_
  refine lv_aload_n X.1.1 X.1.2.1 dX10_nodeY_14 rfl (lv_at hl 0 rfl) ?_
  refine x_getr X hG 14 2 40 2 (inC := iX10) rfl q40.1 q40.2 ⟨by decide, by decide, by decide, rfl, by decide, by decide⟩ w1 dX10_nodeY_15 ?_
  refine x_bipush X dX10_nodeY_18 (by decide) ?_
  refine x_iald X hG q42.1 q42.2.1 (n := 30) q42.2.2 ⟨by decide, by decide⟩ (by decide) dX10_nodeY_20 ?_
  refine x_imul X dX10_nodeY_21 ?_
  refine x_iadd X dX10_nodeY_22 ?_
  cases h
  exact hret _ _ _ _ dX10_nodeY_23 rfl hG hS
theorem hd_X10_nodeY : yX10_nodeY.cls = RX10 ∧ yX10_nodeY.cls ≠ "java/lang/invoke/MethodHandle" ∧ yX10_nodeY.cls ≠ "java/lang/invoke/VarHandle" ∧ (parseMethodDescriptor yX10_nodeY.desc).map (fun d => d.parameters.length) = some 1 := by decide +kernel
abbrev rX10_nodeApart : Room := { frames := 1, cells := 0, slots := 0, locals := 25 }
set_option maxRecDepth 100000 in
set_option maxHeartbeats 8000000 in
theorem c_X10_nodeApart (l : Launch) (t : gP) (x1 : Int) (x2 : Int) (u : uS) (r : Int) (u' : uS) (h : f_X10_nodeApart x1 x2 u = some (r, u')) : xMi l yX10_nodeApart wsX10_nodeApart rX10_nodeApart t [.ref (t.2.2.1 40), .int (iI x1), .int (iI x2)] u r u' 0 0 := by
  refine x_ofWi (cc := cX10_nodeApart) (maxL := 3) (ret := .int) (own := RX10) (by decide) rfl rfl (Nat.le_of_ble_eq_true rfl) ?_
  intro p e s m args below meth c Q X hret H locs ls hG hS hl
  replace hl : lv_has ls 3 [(0, .ref (t.2.2.1 40)), (1, .int (iI x1)), (2, .int (iI x2))] := hl
  have q40 : 40 < NN ∧ sT 40 = 14 := by decide
  have iX10 : ∀ w ∈ wsX100, w ∈ wsX10_nodeApart := by decide +kernel
  have w1 : Cond.fieldLink RX10 16 "TriggerNetworkModel" "xs" "[I" ∈ wsX10_nodeApart := x_w 1 rfl
  have q43 : 43 < NN ∧ sT 43 = 100 ∧ sN 43 = 16 := by decide
  have w2 : Cond.fieldLink RX10 19 "TriggerNetworkModel" "ys" "[I" ∈ wsX10_nodeApart := x_w 2 rfl
  have q44 : 44 < NN ∧ sT 44 = 100 ∧ sN 44 = 16 := by decide
  unfold f_X10_nodeApart at h
  refine lv_aload_n X.1.1 X.1.2.1 dX10_nodeApart_0 rfl (lv_at hl 0 rfl) ?_
  refine lv_iload_n X.1.1 X.1.2.1 dX10_nodeApart_1 rfl (lv_at hl 1 rfl) ?_
  obtain ⟨v1, u2, hf, h⟩ := xbd_of h
  refine x_callVi0 X hG hS (c_X10_nodeX l t _ _ _ _ hf) (cwV 1 X.1.2.2.2.2 gX10_nodeApart_X10_nodeX rfl rfl rfl hd_X10_nodeX ⟨Nat.le_of_ble_eq_true rfl, Nat.le_of_ble_eq_true rfl⟩) q40.1 q40.2 rfl (by decide) (by rfl) hl.1 (Nat.le_of_ble_eq_true rfl) dX10_nodeApart_2 ⟨by decide, by decide⟩ rfl (fun H locs hG hS => ?_)
  refine lv_aload_n X.1.1 X.1.2.1 dX10_nodeApart_5 rfl (lv_at hl 0 rfl) ?_
  refine x_getr X hG 14 3 40 3 (inC := iX10) rfl q40.1 q40.2 ⟨by decide, by decide, by decide, rfl, by decide, by decide⟩ w1 dX10_nodeApart_6 ?_
  refine lv_iload_n X.1.1 X.1.2.1 dX10_nodeApart_9 rfl (lv_at hl 2 rfl) ?_
  obtain ⟨g3, h⟩ := xgd_of h
  refine x_iald X hG q43.1 q43.2.1 (n := 16) q43.2.2 g3 (by decide) dX10_nodeApart_10 ?_
  refine x_isub X dX10_nodeApart_11 ?_
  refine lv_aload_n X.1.1 X.1.2.1 dX10_nodeApart_12 rfl (lv_at hl 0 rfl) ?_
  refine lv_iload_n X.1.1 X.1.2.1 dX10_nodeApart_13 rfl (lv_at hl 1 rfl) ?_
  obtain ⟨v4, u5, hf, h⟩ := xbd_of h
  refine x_callVi0 X hG hS (c_X10_nodeY l t _ _ _ _ hf) (cwV 1 X.1.2.2.2.2 gX10_nodeApart_X10_nodeY rfl rfl rfl hd_X10_nodeY ⟨Nat.le_of_ble_eq_true rfl, Nat.le_of_ble_eq_true rfl⟩) q40.1 q40.2 rfl (by decide) (by rfl) hl.1 (Nat.le_of_ble_eq_true rfl) dX10_nodeApart_14 ⟨by decide, by decide⟩ rfl (fun H locs hG hS => ?_)
  refine lv_aload_n X.1.1 X.1.2.1 dX10_nodeApart_17 rfl (lv_at hl 0 rfl) ?_
  refine x_getr X hG 14 4 40 4 (inC := iX10) rfl q40.1 q40.2 ⟨by decide, by decide, by decide, rfl, by decide, by decide⟩ w2 dX10_nodeApart_18 ?_
  refine lv_iload_n X.1.1 X.1.2.1 dX10_nodeApart_21 rfl (lv_at hl 2 rfl) ?_
  obtain ⟨g6, h⟩ := xgd_of h
  refine x_iald X hG q44.1 q44.2.1 (n := 16) q44.2.2 g6 (by decide) dX10_nodeApart_22 ?_
  refine x_isub X dX10_nodeApart_23 ?_
  obtain ⟨v7, u8, hf, h⟩ := xbd_of h
  refine x_callSi0 X hG hS (c_X10_apart l t _ _ _ _ _ hf) (va_cwS 2 X.1.2.2.2.2 gX10_nodeApart_X10_apart rfl rfl rfl hds_X10_apart ⟨Nat.le_of_ble_eq_true rfl, Nat.le_of_ble_eq_true rfl⟩) (by rfl) hl.1 (Nat.le_of_ble_eq_true rfl) dX10_nodeApart_24 ⟨by decide, by decide⟩ rfl (fun H locs hG hS => ?_)
  cases h
  exact hret _ _ _ _ dX10_nodeApart_27 rfl hG hS
theorem hd_X10_nodeApart : yX10_nodeApart.cls = RX10 ∧ yX10_nodeApart.cls ≠ "java/lang/invoke/MethodHandle" ∧ yX10_nodeApart.cls ≠ "java/lang/invoke/VarHandle" ∧ (parseMethodDescriptor yX10_nodeApart.desc).map (fun d => d.parameters.length) = some 2 := by decide +kernel
abbrev rX10_between : Room := { frames := 3, cells := 0, slots := 0, locals := 65 }
set_option maxRecDepth 100000 in
set_option maxHeartbeats 8000000 in
theorem c_X10_between (l : Launch) (t : gP) (x1 : Int) (x2 : Int) (u : uS) (r : Int) (u' : uS) (h : f_X10_between x1 x2 u = some (r, u')) : xMi l yX10_between wsX10_between rX10_between t [.ref (t.2.2.1 40), .int (iI x1), .int (iI x2)] u r u' 0 0 := by
  refine x_ofWi (cc := cX10_between) (maxL := 3) (ret := .int) (own := RX10) (by decide) rfl rfl (Nat.le_of_ble_eq_true rfl) ?_
  intro p e s m args below meth c Q X hret H locs ls hG hS hl
  replace hl : lv_has ls 3 [(0, .ref (t.2.2.1 40)), (1, .int (iI x1)), (2, .int (iI x2))] := hl
  have q40 : 40 < NN ∧ sT 40 = 14 := by decide
  have iX10 : ∀ w ∈ wsX100, w ∈ wsX10_between := by decide +kernel
  have w1 : Cond.fieldLink RX10 13 "TriggerNetworkModel" "told" "[I" ∈ wsX10_between := x_w 1 rfl
  have q42 : 42 < NN ∧ sT 42 = 100 ∧ sN 42 = 30 := by decide
  unfold f_X10_between at h
  refine lv_aload_n X.1.1 X.1.2.1 dX10_between_0 rfl (lv_at hl 0 rfl) ?_
  refine lv_iload_n X.1.1 X.1.2.1 dX10_between_1 rfl (lv_at hl 1 rfl) ?_
  obtain ⟨v1, u2, hf, h⟩ := xbd_of h
  refine x_callVi0 X hG hS (c_X10_noStation l t _ _ _ _ hf) (cwV 1 X.1.2.2.2.2 gX10_between_X10_noStation rfl rfl rfl hd_X10_noStation ⟨Nat.le_of_ble_eq_true rfl, Nat.le_of_ble_eq_true rfl⟩) q40.1 q40.2 rfl (by decide) (by rfl) hl.1 (Nat.le_of_ble_eq_true rfl) dX10_between_2 ⟨by decide, by decide⟩ rfl (fun H locs hG hS => ?_)
  obtain ⟨g3, h⟩ := xgd_of h
  refine x_if_ne (tgt := 22) X g3 dX10_between_5 (by decide) (fun c4 => ?_) (fun c4 => ?_)
  · replace h := xif_f h c4
    refine x_iconst X dX10_between_22 ?_
    refine lv_goto (tgt := 32) X.1.1 X.1.2.1 dX10_between_23 (by decide) ?_
    cases h
    exact hret _ _ _ _ dX10_between_32 rfl hG hS
  · replace h := xif_t h c4
    refine lv_aload_n X.1.1 X.1.2.1 dX10_between_8 rfl (lv_at hl 0 rfl) ?_
    refine lv_iload_n X.1.1 X.1.2.1 dX10_between_9 rfl (lv_at hl 2 rfl) ?_
    refine lv_aload_n X.1.1 X.1.2.1 dX10_between_10 rfl (lv_at hl 0 rfl) ?_
    refine x_getr X hG 14 2 40 2 (inC := iX10) rfl q40.1 q40.2 ⟨by decide, by decide, by decide, rfl, by decide, by decide⟩ w1 dX10_between_11 ?_
    refine x_iconst X dX10_between_14 ?_
    refine x_iald X hG q42.1 q42.2.1 (n := 30) q42.2.2 ⟨by decide, by decide⟩ (by decide) dX10_between_15 ?_
    obtain ⟨v5, u6, hf, h⟩ := xbd_of h
    refine x_callVi0 X hG hS (c_X10_no l t _ _ _ _ _ hf) (cwV 2 X.1.2.2.2.2 gX10_between_X10_no rfl rfl rfl hd_X10_no ⟨Nat.le_of_ble_eq_true rfl, Nat.le_of_ble_eq_true rfl⟩) q40.1 q40.2 rfl (by decide) (by rfl) hl.1 (Nat.le_of_ble_eq_true rfl) dX10_between_16 ⟨by decide, by decide⟩ rfl (fun H locs hG hS => ?_)
    obtain ⟨g7, h⟩ := xgd_of h
    refine x_if_eq (tgt := 26) X g7 dX10_between_19 (by decide) (fun c8 => ?_) (fun c8 => ?_)
    · replace h := xif_t h c8
      refine lv_aload_n X.1.1 X.1.2.1 dX10_between_26 rfl (lv_at hl 0 rfl) ?_
      refine lv_iload_n X.1.1 X.1.2.1 dX10_between_27 rfl (lv_at hl 1 rfl) ?_
      refine lv_iload_n X.1.1 X.1.2.1 dX10_between_28 rfl (lv_at hl 2 rfl) ?_
      obtain ⟨v9, u10, hf, h⟩ := xbd_of h
      refine x_callVi0 X hG hS (c_X10_timeBetween l t _ _ _ _ _ hf) (cwV 2 X.1.2.2.2.2 gX10_between_X10_timeBetween rfl rfl rfl hd_X10_timeBetween ⟨Nat.le_of_ble_eq_true rfl, Nat.le_of_ble_eq_true rfl⟩) q40.1 q40.2 rfl (by decide) (by rfl) hl.1 (Nat.le_of_ble_eq_true rfl) dX10_between_29 ⟨by decide, by decide⟩ rfl (fun H locs hG hS => ?_)
      cases h
      exact hret _ _ _ _ dX10_between_32 rfl hG hS
    · replace h := xif_f h c8
      refine x_iconst X dX10_between_22 ?_
      refine lv_goto (tgt := 32) X.1.1 X.1.2.1 dX10_between_23 (by decide) ?_
      cases h
      exact hret _ _ _ _ dX10_between_32 rfl hG hS
theorem hd_X10_between : yX10_between.cls = RX10 ∧ yX10_between.cls ≠ "java/lang/invoke/MethodHandle" ∧ yX10_between.cls ≠ "java/lang/invoke/VarHandle" ∧ (parseMethodDescriptor yX10_between.desc).map (fun d => d.parameters.length) = some 2 := by decide +kernel
abbrev rX10_travel : Room := { frames := 2, cells := 0, slots := 0, locals := 47 }
set_option maxRecDepth 100000 in
set_option maxHeartbeats 8000000 in
theorem c_X10_travel (l : Launch) (t : gP) (x1 : Int) (x2 : Int) (u : uS) (r : Int) (u' : uS) (h : f_X10_travel x1 x2 u = some (r, u')) : xMi l yX10_travel wsX10_travel rX10_travel t [.ref (t.2.2.1 40), .int (iI x1), .int (iI x2)] u r u' 0 0 := by
  refine x_ofWi (cc := cX10_travel) (maxL := 3) (ret := .int) (own := RX10) (by decide) rfl rfl (Nat.le_of_ble_eq_true rfl) ?_
  intro p e s m args below meth c Q X hret H locs ls hG hS hl
  replace hl : lv_has ls 3 [(0, .ref (t.2.2.1 40)), (1, .int (iI x1)), (2, .int (iI x2))] := hl
  have q40 : 40 < NN ∧ sT 40 = 14 := by decide
  have iX10 : ∀ w ∈ wsX100, w ∈ wsX10_travel := by decide +kernel
  have w1 : Cond.fieldLink RX10 64 "TriggerNetworkModel" "thrown" "I" ∈ wsX10_travel := x_w 1 rfl
  have w2 : Cond.fieldLink RX10 13 "TriggerNetworkModel" "told" "[I" ∈ wsX10_travel := x_w 2 rfl
  have q42 : 42 < NN ∧ sT 42 = 100 ∧ sN 42 = 30 := by decide
  unfold f_X10_travel at h
  refine lv_aload_n X.1.1 X.1.2.1 dX10_travel_0 rfl (lv_at hl 0 rfl) ?_
  refine x_iconst X dX10_travel_1 ?_
  refine x_puti X hG hS 14 0 40 0 _ tyX10 tyX10_ok nmX10 (inC := iX10) rfl q40.1 q40.2 ⟨by decide, by decide, by decide, rfl, rfl⟩ rfl (by decide +kernel) w1 dX10_travel_2 (fun H locs hG hS => ?_)
  obtain ⟨u1, eu1, h⟩ := xlet_of h
  replace hG : G t u1 H := by rw [eu1]; exact hG
  refine lv_aload_n X.1.1 X.1.2.1 dX10_travel_5 rfl (lv_at hl 0 rfl) ?_
  refine lv_iload_n X.1.1 X.1.2.1 dX10_travel_6 rfl (lv_at hl 1 rfl) ?_
  refine lv_aload_n X.1.1 X.1.2.1 dX10_travel_7 rfl (lv_at hl 0 rfl) ?_
  obtain ⟨v2, u3, hf, h⟩ := xbd_of h
  refine x_callVi0 X hG hS (c_X10_nodes l t  _ _ _ hf) (cwV 0 X.1.2.2.2.2 gX10_travel_X10_nodes rfl rfl rfl hd_X10_nodes ⟨Nat.le_of_ble_eq_true rfl, Nat.le_of_ble_eq_true rfl⟩) q40.1 q40.2 rfl (by decide) (by rfl) hl.1 (Nat.le_of_ble_eq_true rfl) dX10_travel_8 ⟨by decide, by decide⟩ rfl (fun H locs hG hS => ?_)
  obtain ⟨v4, u5, hf, h⟩ := xbd_of h
  refine x_callVi0 X hG hS (c_X10_no l t _ _ _ _ _ hf) (cwV 2 X.1.2.2.2.2 gX10_travel_X10_no rfl rfl rfl hd_X10_no ⟨Nat.le_of_ble_eq_true rfl, Nat.le_of_ble_eq_true rfl⟩) q40.1 q40.2 rfl (by decide) (by rfl) hl.1 (Nat.le_of_ble_eq_true rfl) dX10_travel_11 ⟨by decide, by decide⟩ rfl (fun H locs hG hS => ?_)
  obtain ⟨g6, h⟩ := xgd_of h
  refine x_if_ne (tgt := 31) X g6 dX10_travel_14 (by decide) (fun c7 => ?_) (fun c7 => ?_)
  · replace h := xif_f h c7
    refine x_iconst X dX10_travel_31 ?_
    refine lv_goto (tgt := 45) X.1.1 X.1.2.1 dX10_travel_32 (by decide) ?_
    cases h
    exact hret _ _ _ _ dX10_travel_45 rfl hG hS
  · replace h := xif_t h c7
    refine lv_aload_n X.1.1 X.1.2.1 dX10_travel_17 rfl (lv_at hl 0 rfl) ?_
    refine lv_iload_n X.1.1 X.1.2.1 dX10_travel_18 rfl (lv_at hl 2 rfl) ?_
    refine lv_aload_n X.1.1 X.1.2.1 dX10_travel_19 rfl (lv_at hl 0 rfl) ?_
    refine x_getr X hG 14 2 40 2 (inC := iX10) rfl q40.1 q40.2 ⟨by decide, by decide, by decide, rfl, by decide, by decide⟩ w2 dX10_travel_20 ?_
    refine x_iconst X dX10_travel_23 ?_
    refine x_iald X hG q42.1 q42.2.1 (n := 30) q42.2.2 ⟨by decide, by decide⟩ (by decide) dX10_travel_24 ?_
    obtain ⟨v8, u9, hf, h⟩ := xbd_of h
    refine x_callVi0 X hG hS (c_X10_no l t _ _ _ _ _ hf) (cwV 2 X.1.2.2.2.2 gX10_travel_X10_no rfl rfl rfl hd_X10_no ⟨Nat.le_of_ble_eq_true rfl, Nat.le_of_ble_eq_true rfl⟩) q40.1 q40.2 rfl (by decide) (by rfl) hl.1 (Nat.le_of_ble_eq_true rfl) dX10_travel_25 ⟨by decide, by decide⟩ rfl (fun H locs hG hS => ?_)
    obtain ⟨g10, h⟩ := xgd_of h
    refine x_if_eq (tgt := 35) X g10 dX10_travel_28 (by decide) (fun c11 => ?_) (fun c11 => ?_)
    · replace h := xif_t h c11
      refine lv_aload_n X.1.1 X.1.2.1 dX10_travel_35 rfl (lv_at hl 0 rfl) ?_
      refine lv_aload_n X.1.1 X.1.2.1 dX10_travel_36 rfl (lv_at hl 0 rfl) ?_
      refine lv_iload_n X.1.1 X.1.2.1 dX10_travel_37 rfl (lv_at hl 1 rfl) ?_
      refine lv_iload_n X.1.1 X.1.2.1 dX10_travel_38 rfl (lv_at hl 2 rfl) ?_
      obtain ⟨v12, u13, hf, h⟩ := xbd_of h
      refine x_callVi0 X hG hS (c_X10_nodeApart l t _ _ _ _ _ hf) (cwV 2 X.1.2.2.2.2 gX10_travel_X10_nodeApart rfl rfl rfl hd_X10_nodeApart ⟨Nat.le_of_ble_eq_true rfl, Nat.le_of_ble_eq_true rfl⟩) q40.1 q40.2 rfl (by decide) (by rfl) hl.1 (Nat.le_of_ble_eq_true rfl) dX10_travel_39 ⟨by decide, by decide⟩ rfl (fun H locs hG hS => ?_)
      obtain ⟨v14, u15, hf, h⟩ := xbd_of h
      refine x_callVi0 X hG hS (c_X10_timeFor l t _ _ _ _ hf) (cwV 1 X.1.2.2.2.2 gX10_travel_X10_timeFor rfl rfl rfl hd_X10_timeFor ⟨Nat.le_of_ble_eq_true rfl, Nat.le_of_ble_eq_true rfl⟩) q40.1 q40.2 rfl (by decide) (by rfl) hl.1 (Nat.le_of_ble_eq_true rfl) dX10_travel_42 ⟨by decide, by decide⟩ rfl (fun H locs hG hS => ?_)
      cases h
      exact hret _ _ _ _ dX10_travel_45 rfl hG hS
    · replace h := xif_f h c11
      refine x_iconst X dX10_travel_31 ?_
      refine lv_goto (tgt := 45) X.1.1 X.1.2.1 dX10_travel_32 (by decide) ?_
      cases h
      exact hret _ _ _ _ dX10_travel_45 rfl hG hS
theorem hd_X10_travel : yX10_travel.cls = RX10 ∧ yX10_travel.cls ≠ "java/lang/invoke/MethodHandle" ∧ yX10_travel.cls ≠ "java/lang/invoke/VarHandle" ∧ (parseMethodDescriptor yX10_travel.desc).map (fun d => d.parameters.length) = some 2 := by decide +kernel
abbrev rX10_rungOf : Room := { frames := 0, cells := 0, slots := 0, locals := 0 }
set_option maxRecDepth 100000 in
set_option maxHeartbeats 8000000 in
theorem c_X10_rungOf (l : Launch) (t : gP) (x1 : Int) (u : uS) (r : Int) (u' : uS) (h : f_X10_rungOf x1 u = some (r, u')) : xMi l yX10_rungOf wsX10_rungOf rX10_rungOf t [.ref (t.2.2.1 40), .int (iI x1)] u r u' 0 0 := by
  refine x_ofWi (cc := cX10_rungOf) (maxL := 4) (ret := .int) (own := RX10) (by decide) rfl rfl (Nat.le_of_ble_eq_true rfl) ?_
  intro p e s m args below meth c Q X hret H locs ls hG hS hl
  replace hl : lv_has ls 4 [(0, .ref (t.2.2.1 40)), (1, .int (iI x1))] := hl
  have q40 : 40 < NN ∧ sT 40 = 14 := by decide
  have iX10 : ∀ w ∈ wsX100, w ∈ wsX10_rungOf := by decide +kernel
  have w1 : Cond.fieldLink RX10 13 "TriggerNetworkModel" "told" "[I" ∈ wsX10_rungOf := x_w 1 rfl
  have q42 : 42 < NN ∧ sT 42 = 100 ∧ sN 42 = 30 := by decide
  have w2 : Cond.fieldLink RX10 22 "TriggerNetworkModel" "amplitude" "[I" ∈ wsX10_rungOf := x_w 2 rfl
  have q45 : 45 < NN ∧ sT 45 = 100 ∧ sN 45 = 16 := by decide
  have w3 : Cond.fieldLink RX10 25 "TriggerNetworkModel" "magnitude" "[I" ∈ wsX10_rungOf := x_w 3 rfl
  have q46 : 46 < NN ∧ sT 46 = 100 ∧ sN 46 = 16 := by decide
  unfold f_X10_rungOf at h
  refine x_iconst X dX10_rungOf_0 ?_
  refine lv_istore_n (lv' := [(2, .int (iI (-1))), (0, .ref (t.2.2.1 40)), (1, .int (iI x1))]) X.1.1 X.1.2.1 dX10_rungOf_1 rfl hl (by decide) rfl (fun ls hl => ?_)
  refine x_iconst X dX10_rungOf_2 ?_
  refine lv_istore_n (lv' := [(3, .int (iI 0)), (2, .int (iI (-1))), (0, .ref (t.2.2.1 40)), (1, .int (iI x1))]) X.1.1 X.1.2.1 dX10_rungOf_3 rfl hl (by decide) rfl (fun ls hl => ?_)
  have Lgo1 : ∀ (n : Nat) (x2_2 : Int) (x3_3 : Int) (u4 : uS), xl3 (s_X10_rungOf_4 x1) n x2_2 x3_3 u4 = some (r, u') → xG p l e rX10_rungOf s m args below meth c t Q 4 0 0 4 u4 [(2, .int (iI x2_2)), (3, .int (iI x3_3)), (0, .ref (t.2.2.1 40)), (1, .int (iI x1))] [] := by
    intro n x2_2 x3_3 u4 h
    refine xl3_W (F := s_X10_rungOf_4 x1) (fun x2_2 x3_3 u4 q => q = (r, u') → xG p l e rX10_rungOf s m args below meth c t Q 4 0 0 4 u4 [(2, .int (iI x2_2)), (3, .int (iI x3_3)), (0, .ref (t.2.2.1 40)), (1, .int (iI x1))] []) ?_ n x2_2 x3_3 u4 _ h rfl
    intro go1 igo1 x2_2 x3_3 u4 q h hq H locs ls hG hS hl
    subst hq
    unfold s_X10_rungOf_4 at h
    refine lv_iload_n X.1.1 X.1.2.1 dX10_rungOf_4 rfl (lv_at hl 1 rfl) ?_
    refine lv_aload_n X.1.1 X.1.2.1 dX10_rungOf_5 rfl (lv_at hl 2 rfl) ?_
    refine x_getr X hG 14 2 40 2 (inC := iX10) rfl q40.1 q40.2 ⟨by decide, by decide, by decide, rfl, by decide, by decide⟩ w1 dX10_rungOf_6 ?_
    refine x_iconst X dX10_rungOf_9 ?_
    refine x_iald X hG q42.1 q42.2.1 (n := 30) q42.2.2 ⟨by decide, by decide⟩ (by decide) dX10_rungOf_10 ?_
    obtain ⟨g5, h⟩ := xgd_of h
    refine x_icmp_ge (tgt := 41) X g5.1 g5.2 dX10_rungOf_11 (by decide) (fun c6 => ?_) (fun c6 => ?_)
    · replace h := xif_t h c6
      refine lv_iload_n X.1.1 X.1.2.1 dX10_rungOf_41 rfl (lv_at hl 0 rfl) ?_
      cases h
      exact hret _ _ _ _ dX10_rungOf_42 rfl hG hS
    · replace h := xif_f h c6
      refine lv_aload_n X.1.1 X.1.2.1 dX10_rungOf_14 rfl (lv_at hl 2 rfl) ?_
      refine x_getr X hG 14 5 40 5 (inC := iX10) rfl q40.1 q40.2 ⟨by decide, by decide, by decide, rfl, by decide, by decide⟩ w2 dX10_rungOf_15 ?_
      refine lv_iload_n X.1.1 X.1.2.1 dX10_rungOf_18 rfl (lv_at hl 1 rfl) ?_
      obtain ⟨g7, h⟩ := xgd_of h
      refine x_iald X hG q45.1 q45.2.1 (n := 16) q45.2.2 g7 (by decide) dX10_rungOf_19 ?_
      refine lv_iload_n X.1.1 X.1.2.1 dX10_rungOf_20 rfl (lv_at hl 3 rfl) ?_
      obtain ⟨g8, h⟩ := xgd_of h
      obtain ⟨j9, ej9, h⟩ := xlet_of h
      have Jj9 : ∀ (s10 : Int) (u11 : uS), j9 s10 u11 = some (r, u') → xG p l e rX10_rungOf s m args below meth c t Q 4 0 0 34 u11 [(0, .ref (t.2.2.1 40)), (1, .int (iI x1)), (3, .int (iI x3_3))] [.int (iI s10)] := by
          intro s10 u11 h H locs ls hG hS hl
          replace h := (congrFun (congrFun ej9 s10) u11).symm.trans h
          refine lv_istore_n (lv' := [(2, .int (iI s10)), (0, .ref (t.2.2.1 40)), (1, .int (iI x1)), (3, .int (iI x3_3))]) X.1.1 X.1.2.1 dX10_rungOf_34 rfl hl (by decide) rfl (fun ls hl => ?_)
          refine lv_iinc (v := (iI (x3_3 + 1))) (lv' := [(3, .int (iI (x3_3 + 1))), (2, .int (iI s10)), (0, .ref (t.2.2.1 40)), (1, .int (iI x1))]) X.1.1 X.1.2.1 dX10_rungOf_35 hl (k := 3) rfl (iI_add _ _) (by decide) rfl (fun ls hl => ?_)
          refine lv_goto (tgt := 4) X.1.1 X.1.2.1 dX10_rungOf_38 (by decide) ?_
          exact igo1 _ _ _ _ h rfl _ _ _ hG hS (lv_sub hl [1, 0, 2, 3] rfl)
      refine x_icmp_gt (tgt := 33) X g8.1 g8.2 dX10_rungOf_21 (by decide) (fun c12 => ?_) (fun c12 => ?_)
      · replace h := xif_t h c12
        refine lv_iload_n X.1.1 X.1.2.1 dX10_rungOf_33 rfl (lv_at hl 0 rfl) ?_
        exact Jj9 _ _ h _ _ _ hG hS (lv_sub hl [2, 3, 1] rfl)
      · replace h := xif_f h c12
        refine lv_aload_n X.1.1 X.1.2.1 dX10_rungOf_24 rfl (lv_at hl 2 rfl) ?_
        refine x_getr X hG 14 6 40 6 (inC := iX10) rfl q40.1 q40.2 ⟨by decide, by decide, by decide, rfl, by decide, by decide⟩ w3 dX10_rungOf_25 ?_
        refine lv_iload_n X.1.1 X.1.2.1 dX10_rungOf_28 rfl (lv_at hl 1 rfl) ?_
        obtain ⟨g13, h⟩ := xgd_of h
        refine x_iald X hG q46.1 q46.2.1 (n := 16) q46.2.2 g13 (by decide) dX10_rungOf_29 ?_
        refine lv_goto (tgt := 34) X.1.1 X.1.2.1 dX10_rungOf_30 (by decide) ?_
        exact Jj9 _ _ h _ _ _ hG hS (lv_sub hl [2, 3, 1] rfl)
  exact Lgo1 FU _ _ _ h _ _ _ hG hS (lv_sub hl [1, 0, 2, 3] rfl)
theorem hd_X10_rungOf : yX10_rungOf.cls = RX10 ∧ yX10_rungOf.cls ≠ "java/lang/invoke/MethodHandle" ∧ yX10_rungOf.cls ≠ "java/lang/invoke/VarHandle" ∧ (parseMethodDescriptor yX10_rungOf.desc).map (fun d => d.parameters.length) = some 1 := by decide +kernel
abbrev rX10_ladder : Room := { frames := 1, cells := 0, slots := 0, locals := 23 }
set_option maxRecDepth 100000 in
set_option maxHeartbeats 8000000 in
theorem c_X10_ladder (l : Launch) (t : gP) (x1 : Int) (u : uS) (r : Int) (u' : uS) (h : f_X10_ladder x1 u = some (r, u')) : xMi l yX10_ladder wsX10_ladder rX10_ladder t [.ref (t.2.2.1 40), .int (iI x1)] u r u' 0 0 := by
  refine x_ofWi (cc := cX10_ladder) (maxL := 2) (ret := .int) (own := RX10) (by decide) rfl rfl (Nat.le_of_ble_eq_true rfl) ?_
  intro p e s m args below meth c Q X hret H locs ls hG hS hl
  replace hl : lv_has ls 2 [(0, .ref (t.2.2.1 40)), (1, .int (iI x1))] := hl
  have q40 : 40 < NN ∧ sT 40 = 14 := by decide
  have iX10 : ∀ w ∈ wsX100, w ∈ wsX10_ladder := by decide +kernel
  have w1 : Cond.fieldLink RX10 64 "TriggerNetworkModel" "thrown" "I" ∈ wsX10_ladder := x_w 1 rfl
  have w2 : Cond.constant RX10 224 (99999) ∈ wsX10_ladder := x_w 2 rfl
  unfold f_X10_ladder at h
  refine lv_aload_n X.1.1 X.1.2.1 dX10_ladder_0 rfl (lv_at hl 0 rfl) ?_
  refine x_iconst X dX10_ladder_1 ?_
  refine x_puti X hG hS 14 0 40 0 _ tyX10 tyX10_ok nmX10 (inC := iX10) rfl q40.1 q40.2 ⟨by decide, by decide, by decide, rfl, rfl⟩ rfl (by decide +kernel) w1 dX10_ladder_2 (fun H locs hG hS => ?_)
  obtain ⟨u1, eu1, h⟩ := xlet_of h
  replace hG : G t u1 H := by rw [eu1]; exact hG
  refine lv_aload_n X.1.1 X.1.2.1 dX10_ladder_5 rfl (lv_at hl 0 rfl) ?_
  refine lv_iload_n X.1.1 X.1.2.1 dX10_ladder_6 rfl (lv_at hl 1 rfl) ?_
  refine x_iconst X dX10_ladder_7 ?_
  refine x_ldc X 99999 rfl w2 dX10_ladder_8 ?_
  obtain ⟨v2, u3, hf, h⟩ := xbd_of h
  refine x_callSi0 X hG hS (c_X10_within l t _ _ _ _ _ _ hf) (va_cwS 3 X.1.2.2.2.2 gX10_ladder_X10_within rfl rfl rfl hds_X10_within ⟨Nat.le_of_ble_eq_true rfl, Nat.le_of_ble_eq_true rfl⟩) (by rfl) hl.1 (Nat.le_of_ble_eq_true rfl) dX10_ladder_10 ⟨by decide, by decide⟩ rfl (fun H locs hG hS => ?_)
  obtain ⟨g4, h⟩ := xgd_of h
  obtain ⟨j5, ej5, h⟩ := xlet_of h
  have Jj5 : ∀ (s6 : Int) (u7 : uS), j5 s6 u7 = some (r, u') → xG p l e rX10_ladder s m args below meth c t Q 2 0 0 21 u7 [(0, .ref (t.2.2.1 40)), (1, .int (iI x1))] [.int (iI s6), .ref (t.2.2.1 40)] := by
      intro s6 u7 h H locs ls hG hS hl
      replace h := (congrFun (congrFun ej5 s6) u7).symm.trans h
      refine x_iconst X dX10_ladder_21 ?_
      obtain ⟨v8, u9, hf, h⟩ := xbd_of h
      refine x_callVi0 X hG hS (c_X10_throwsIf l t _ _ _ _ _ hf) (cwV 2 X.1.2.2.2.2 gX10_ladder_X10_throwsIf rfl rfl rfl hd_X10_throwsIf ⟨Nat.le_of_ble_eq_true rfl, Nat.le_of_ble_eq_true rfl⟩) q40.1 q40.2 rfl (by decide) (by rfl) hl.1 (Nat.le_of_ble_eq_true rfl) dX10_ladder_22 ⟨by decide, by decide⟩ rfl (fun H locs hG hS => ?_)
      obtain ⟨g10, h⟩ := xgd_of h
      refine x_if_eq (tgt := 32) X g10 dX10_ladder_25 (by decide) (fun c11 => ?_) (fun c11 => ?_)
      · replace h := xif_t h c11
        refine lv_aload_n X.1.1 X.1.2.1 dX10_ladder_32 rfl (lv_at hl 0 rfl) ?_
        refine lv_iload_n X.1.1 X.1.2.1 dX10_ladder_33 rfl (lv_at hl 1 rfl) ?_
        obtain ⟨v12, u13, hf, h⟩ := xbd_of h
        refine x_callVi0 X hG hS (c_X10_rungOf l t _ _ _ _ hf) (cwV 1 X.1.2.2.2.2 gX10_ladder_X10_rungOf rfl rfl rfl hd_X10_rungOf ⟨Nat.le_of_ble_eq_true rfl, Nat.le_of_ble_eq_true rfl⟩) q40.1 q40.2 rfl (by decide) (by rfl) hl.1 (Nat.le_of_ble_eq_true rfl) dX10_ladder_34 ⟨by decide, by decide⟩ rfl (fun H locs hG hS => ?_)
        cases h
        exact hret _ _ _ _ dX10_ladder_37 rfl hG hS
      · replace h := xif_f h c11
        refine x_iconst X dX10_ladder_28 ?_
        refine lv_goto (tgt := 37) X.1.1 X.1.2.1 dX10_ladder_29 (by decide) ?_
        cases h
        exact hret _ _ _ _ dX10_ladder_37 rfl hG hS
  refine x_if_ne (tgt := 20) X g4 dX10_ladder_13 (by decide) (fun c14 => ?_) (fun c14 => ?_)
  · replace h := xif_f h c14
    refine x_iconst X dX10_ladder_20 ?_
    exact Jj5 _ _ h _ _ _ hG hS (lv_sub hl [0, 1] rfl)
  · replace h := xif_t h c14
    refine x_iconst X dX10_ladder_16 ?_
    refine lv_goto (tgt := 21) X.1.1 X.1.2.1 dX10_ladder_17 (by decide) ?_
    exact Jj5 _ _ h _ _ _ hG hS (lv_sub hl [0, 1] rfl)
theorem hd_X10_ladder : yX10_ladder.cls = RX10 ∧ yX10_ladder.cls ≠ "java/lang/invoke/MethodHandle" ∧ yX10_ladder.cls ≠ "java/lang/invoke/VarHandle" ∧ (parseMethodDescriptor yX10_ladder.desc).map (fun d => d.parameters.length) = some 1 := by decide +kernel
abbrev rX10_ringAt : Room := { frames := 0, cells := 0, slots := 0, locals := 0 }
set_option maxRecDepth 100000 in
set_option maxHeartbeats 8000000 in
theorem c_X10_ringAt (l : Launch) (t : gP) (x0 : Int) (x1 : Int) (u : uS) (r : Int) (u' : uS) (h : f_X10_ringAt x0 x1 u = some (r, u')) : xMi l yX10_ringAt wsX10_ringAt rX10_ringAt t [.int (iI x0), .int (iI x1)] u r u' 0 0 := by
  refine x_ofWi (cc := cX10_ringAt) (maxL := 2) (ret := .int) (own := RX10) (by decide) rfl rfl (Nat.le_of_ble_eq_true rfl) ?_
  intro p e s m args below meth c Q X hret H locs ls hG hS hl
  replace hl : lv_has ls 2 [(0, .int (iI x0)), (1, .int (iI x1))] := hl
  unfold f_X10_ringAt at h
  refine x_bipush X dX10_ringAt_0 (by decide) ?_
  refine x_bipush X dX10_ringAt_2 (by decide) ?_
  refine lv_iload_n X.1.1 X.1.2.1 dX10_ringAt_4 rfl (lv_at hl 0 rfl) ?_
  refine x_imul X dX10_ringAt_5 ?_
  refine x_iadd X dX10_ringAt_6 ?_
  refine lv_iload_n X.1.1 X.1.2.1 dX10_ringAt_7 rfl (lv_at hl 1 rfl) ?_
  refine x_bipush X dX10_ringAt_8 (by decide) ?_
  obtain ⟨g1, h⟩ := xgd_of h
  refine x_irem X g1 ⟨by decide, by decide⟩ (by decide) dX10_ringAt_10 ?_
  refine x_iadd X dX10_ringAt_11 ?_
  cases h
  exact hret _ _ _ _ dX10_ringAt_12 rfl hG hS
theorem hds_X10_ringAt : yX10_ringAt.cls ≠ "java/lang/invoke/MethodHandle" ∧ yX10_ringAt.cls ≠ "java/lang/invoke/VarHandle" ∧ (parseMethodDescriptor yX10_ringAt.desc).map (fun d => d.parameters.length) = some 2 := by decide +kernel
abbrev rX10_latest : Room := { frames := 1, cells := 0, slots := 0, locals := 21 }
set_option maxRecDepth 100000 in
set_option maxHeartbeats 8000000 in
theorem c_X10_latest (l : Launch) (t : gP) (x1 : Int) (x2 : Int) (u : uS) (r : Int) (u' : uS) (h : f_X10_latest x1 x2 u = some (r, u')) : xMi l yX10_latest wsX10_latest rX10_latest t [.ref (t.2.2.1 40), .int (iI x1), .int (iI x2)] u r u' 0 0 := by
  refine x_ofWi (cc := cX10_latest) (maxL := 5) (ret := .int) (own := RX10) (by decide) rfl rfl (Nat.le_of_ble_eq_true rfl) ?_
  intro p e s m args below meth c Q X hret H locs ls hG hS hl
  replace hl : lv_has ls 5 [(0, .ref (t.2.2.1 40)), (1, .int (iI x1)), (2, .int (iI x2))] := hl
  have q40 : 40 < NN ∧ sT 40 = 14 := by decide
  have iX10 : ∀ w ∈ wsX100, w ∈ wsX10_latest := by decide +kernel
  have w1 : Cond.fieldLink RX10 7 "TriggerNetworkModel" "now" "[I" ∈ wsX10_latest := x_w 1 rfl
  have q41 : 41 < NN ∧ sT 41 = 100 ∧ sN 41 = 1167 := by decide
  unfold f_X10_latest at h
  refine x_iconst X dX10_latest_0 ?_
  refine lv_istore_n (lv' := [(3, .int (iI 0)), (0, .ref (t.2.2.1 40)), (1, .int (iI x1)), (2, .int (iI x2))]) X.1.1 X.1.2.1 dX10_latest_1 rfl hl (by decide) rfl (fun ls hl => ?_)
  refine lv_aload_n X.1.1 X.1.2.1 dX10_latest_2 rfl (lv_at hl 1 rfl) ?_
  refine x_getr X hG 14 1 40 1 (inC := iX10) rfl q40.1 q40.2 ⟨by decide, by decide, by decide, rfl, by decide, by decide⟩ w1 dX10_latest_3 ?_
  refine x_iconst X dX10_latest_6 ?_
  refine x_iald X hG q41.1 q41.2.1 (n := 1167) q41.2.2 ⟨by decide, by decide⟩ (by decide) dX10_latest_7 ?_
  refine x_name (fun x4_1 ex4_1 => ?_)
  replace h := xlet_at ex4_1 h
  refine lv_istore (lv' := [(4, .int (iI x4_1)), (3, .int (iI 0)), (0, .ref (t.2.2.1 40)), (1, .int (iI x1)), (2, .int (iI x2))]) X.1.1 X.1.2.1 dX10_latest_8 hl (by decide) rfl (fun ls hl => ?_)
  have Lgo2 : ∀ (n : Nat) (x3_3 : Int) (x4_4 : Int) (u5 : uS), xl3 (s_X10_latest_10 x2 x1) n x3_3 x4_4 u5 = some (r, u') → xG p l e rX10_latest s m args below meth c t Q 5 0 0 10 u5 [(3, .int (iI x3_3)), (4, .int (iI x4_4)), (0, .ref (t.2.2.1 40)), (1, .int (iI x1)), (2, .int (iI x2))] [] := by
    intro n x3_3 x4_4 u5 h
    refine xl3_W (F := s_X10_latest_10 x2 x1) (fun x3_3 x4_4 u5 q => q = (r, u') → xG p l e rX10_latest s m args below meth c t Q 5 0 0 10 u5 [(3, .int (iI x3_3)), (4, .int (iI x4_4)), (0, .ref (t.2.2.1 40)), (1, .int (iI x1)), (2, .int (iI x2))] []) ?_ n x3_3 x4_4 u5 _ h rfl
    intro go2 igo2 x3_3 x4_4 u5 q h hq H locs ls hG hS hl
    subst hq
    unfold s_X10_latest_10 at h
    refine lv_iload X.1.1 X.1.2.1 dX10_latest_10 (lv_at hl 1 rfl) ?_
    obtain ⟨g6, h⟩ := xgd_of h
    refine x_if_le (tgt := 48) X g6 dX10_latest_12 (by decide) (fun c7 => ?_) (fun c7 => ?_)
    · replace h := xif_t h c7
      refine lv_iload_n X.1.1 X.1.2.1 dX10_latest_48 rfl (lv_at hl 0 rfl) ?_
      cases h
      exact hret _ _ _ _ dX10_latest_49 rfl hG hS
    · replace h := xif_f h c7
      refine lv_iload X.1.1 X.1.2.1 dX10_latest_15 (lv_at hl 1 rfl) ?_
      refine lv_aload_n X.1.1 X.1.2.1 dX10_latest_17 rfl (lv_at hl 2 rfl) ?_
      refine x_getr X hG 14 1 40 1 (inC := iX10) rfl q40.1 q40.2 ⟨by decide, by decide, by decide, rfl, by decide, by decide⟩ w1 dX10_latest_18 ?_
      refine x_iconst X dX10_latest_21 ?_
      refine x_iald X hG q41.1 q41.2.1 (n := 1167) q41.2.2 ⟨by decide, by decide⟩ (by decide) dX10_latest_22 ?_
      refine lv_iload_n X.1.1 X.1.2.1 dX10_latest_23 rfl (lv_at hl 4 rfl) ?_
      refine x_isub X dX10_latest_24 ?_
      obtain ⟨g8, h⟩ := xgd_of h
      refine x_icmp_le (tgt := 48) X g8.1 g8.2 dX10_latest_25 (by decide) (fun c9 => ?_) (fun c9 => ?_)
      · replace h := xif_t h c9
        refine lv_iload_n X.1.1 X.1.2.1 dX10_latest_48 rfl (lv_at hl 0 rfl) ?_
        cases h
        exact hret _ _ _ _ dX10_latest_49 rfl hG hS
      · replace h := xif_f h c9
        refine lv_iload_n X.1.1 X.1.2.1 dX10_latest_28 rfl (lv_at hl 0 rfl) ?_
        refine lv_aload_n X.1.1 X.1.2.1 dX10_latest_29 rfl (lv_at hl 2 rfl) ?_
        refine x_getr X hG 14 1 40 1 (inC := iX10) rfl q40.1 q40.2 ⟨by decide, by decide, by decide, rfl, by decide, by decide⟩ w1 dX10_latest_30 ?_
        refine lv_iload_n X.1.1 X.1.2.1 dX10_latest_33 rfl (lv_at hl 3 rfl) ?_
        refine lv_iload X.1.1 X.1.2.1 dX10_latest_34 (lv_at hl 1 rfl) ?_
        obtain ⟨v10, u11, hf, h⟩ := xbd_of h
        refine x_callSi0 X hG hS (c_X10_ringAt l t _ _ _ _ _ hf) (va_cwS 2 X.1.2.2.2.2 gX10_latest_X10_ringAt rfl rfl rfl hds_X10_ringAt ⟨Nat.le_of_ble_eq_true rfl, Nat.le_of_ble_eq_true rfl⟩) (by rfl) hl.1 (Nat.le_of_ble_eq_true rfl) dX10_latest_36 ⟨by decide, by decide⟩ rfl (fun H locs hG hS => ?_)
        obtain ⟨g12, h⟩ := xgd_of h
        refine x_iald X hG q41.1 q41.2.1 (n := 1167) q41.2.2 g12 (by decide) dX10_latest_39 ?_
        refine x_iadd X dX10_latest_40 ?_
        refine x_name (fun x3_13 ex3_13 => ?_)
        replace h := xlet_at ex3_13 h
        refine lv_istore_n (lv' := [(3, .int (iI x3_13)), (4, .int (iI x4_4)), (0, .ref (t.2.2.1 40)), (1, .int (iI x1)), (2, .int (iI x2))]) X.1.1 X.1.2.1 dX10_latest_41 rfl hl (by decide) rfl (fun ls hl => ?_)
        refine lv_iinc (v := (iI (x4_4 + (-1)))) (lv' := [(4, .int (iI (x4_4 + (-1)))), (3, .int (iI x3_13)), (0, .ref (t.2.2.1 40)), (1, .int (iI x1)), (2, .int (iI x2))]) X.1.1 X.1.2.1 dX10_latest_42 hl (k := 1) rfl (iI_add _ _) (by decide) rfl (fun ls hl => ?_)
        refine lv_goto (tgt := 10) X.1.1 X.1.2.1 dX10_latest_45 (by decide) ?_
        exact igo2 _ _ _ _ h rfl _ _ _ hG hS (lv_sub hl [1, 0, 2, 3, 4] rfl)
  exact Lgo2 FU _ _ _ h _ _ _ hG hS (lv_sub hl [1, 0, 2, 3, 4] rfl)
theorem hd_X10_latest : yX10_latest.cls = RX10 ∧ yX10_latest.cls ≠ "java/lang/invoke/MethodHandle" ∧ yX10_latest.cls ≠ "java/lang/invoke/VarHandle" ∧ (parseMethodDescriptor yX10_latest.desc).map (fun d => d.parameters.length) = some 2 := by decide +kernel
abbrev rX10_ratioOf : Room := { frames := 2, cells := 0, slots := 0, locals := 45 }
set_option maxRecDepth 100000 in
set_option maxHeartbeats 8000000 in
theorem c_X10_ratioOf (l : Launch) (t : gP) (x1 : Int) (u : uS) (r : Int) (u' : uS) (h : f_X10_ratioOf x1 u = some (r, u')) : xMi l yX10_ratioOf wsX10_ratioOf rX10_ratioOf t [.ref (t.2.2.1 40), .int (iI x1)] u r u' 0 0 := by
  refine x_ofWi (cc := cX10_ratioOf) (maxL := 6) (ret := .int) (own := RX10) (by decide) rfl rfl (Nat.le_of_ble_eq_true rfl) ?_
  intro p e s m args below meth c Q X hret H locs ls hG hS hl
  replace hl : lv_has ls 6 [(0, .ref (t.2.2.1 40)), (1, .int (iI x1))] := hl
  have q40 : 40 < NN ∧ sT 40 = 14 := by decide
  have iX10 : ∀ w ∈ wsX100, w ∈ wsX10_ratioOf := by decide +kernel
  have w1 : Cond.fieldLink RX10 13 "TriggerNetworkModel" "told" "[I" ∈ wsX10_ratioOf := x_w 1 rfl
  have q42 : 42 < NN ∧ sT 42 = 100 ∧ sN 42 = 30 := by decide
  have w2 : Cond.constantLong RX10 234 (100) ∈ wsX10_ratioOf := x_w 2 rfl
  unfold f_X10_ratioOf at h
  refine lv_aload_n X.1.1 X.1.2.1 dX10_ratioOf_0 rfl (lv_at hl 0 rfl) ?_
  refine lv_iload_n X.1.1 X.1.2.1 dX10_ratioOf_1 rfl (lv_at hl 1 rfl) ?_
  refine lv_aload_n X.1.1 X.1.2.1 dX10_ratioOf_2 rfl (lv_at hl 0 rfl) ?_
  refine x_getr X hG 14 2 40 2 (inC := iX10) rfl q40.1 q40.2 ⟨by decide, by decide, by decide, rfl, by decide, by decide⟩ w1 dX10_ratioOf_3 ?_
  refine x_bipush X dX10_ratioOf_6 (by decide) ?_
  refine x_iald X hG q42.1 q42.2.1 (n := 30) q42.2.2 ⟨by decide, by decide⟩ (by decide) dX10_ratioOf_8 ?_
  obtain ⟨v1, u2, hf, h⟩ := xbd_of h
  refine x_callVi0 X hG hS (c_X10_latest l t _ _ _ _ _ hf) (cwV 2 X.1.2.2.2.2 gX10_ratioOf_X10_latest rfl rfl rfl hd_X10_latest ⟨Nat.le_of_ble_eq_true rfl, Nat.le_of_ble_eq_true rfl⟩) q40.1 q40.2 rfl (by decide) (by rfl) hl.1 (Nat.le_of_ble_eq_true rfl) dX10_ratioOf_9 ⟨by decide, by decide⟩ rfl (fun H locs hG hS => ?_)
  obtain ⟨g3, h⟩ := xgd_of h
  refine x_i2l X g3 dX10_ratioOf_12 ?_
  refine lv_lstore_n (lv' := [(2, .long (lI v1)), (0, .ref (t.2.2.1 40)), (1, .int (iI x1))]) X.1.1 X.1.2.1 dX10_ratioOf_13 rfl hl (by decide) rfl (fun ls hl => ?_)
  refine lv_aload_n X.1.1 X.1.2.1 dX10_ratioOf_14 rfl (lv_at hl 1 rfl) ?_
  refine lv_iload_n X.1.1 X.1.2.1 dX10_ratioOf_15 rfl (lv_at hl 2 rfl) ?_
  refine lv_aload_n X.1.1 X.1.2.1 dX10_ratioOf_16 rfl (lv_at hl 1 rfl) ?_
  refine x_getr X hG 14 2 40 2 (inC := iX10) rfl q40.1 q40.2 ⟨by decide, by decide, by decide, rfl, by decide, by decide⟩ w1 dX10_ratioOf_17 ?_
  refine x_bipush X dX10_ratioOf_20 (by decide) ?_
  refine x_iald X hG q42.1 q42.2.1 (n := 30) q42.2.2 ⟨by decide, by decide⟩ (by decide) dX10_ratioOf_22 ?_
  obtain ⟨v4, u5, hf, h⟩ := xbd_of h
  refine x_callVi0 X hG hS (c_X10_latest l t _ _ _ _ _ hf) (cwV 2 X.1.2.2.2.2 gX10_ratioOf_X10_latest rfl rfl rfl hd_X10_latest ⟨Nat.le_of_ble_eq_true rfl, Nat.le_of_ble_eq_true rfl⟩) q40.1 q40.2 rfl (by decide) (by rfl) hl.1 (Nat.le_of_ble_eq_true rfl) dX10_ratioOf_23 ⟨by decide, by decide⟩ rfl (fun H locs hG hS => ?_)
  obtain ⟨g6, h⟩ := xgd_of h
  refine x_i2l X g6 dX10_ratioOf_26 ?_
  refine lv_lstore (lv' := [(4, .long (lI v4)), (2, .long (lI v1)), (0, .ref (t.2.2.1 40)), (1, .int (iI x1))]) X.1.1 X.1.2.1 dX10_ratioOf_27 hl (by decide) rfl (fun ls hl => ?_)
  refine lv_lload X.1.1 X.1.2.1 dX10_ratioOf_29 (lv_at hl 0 rfl) ?_
  refine x_lconst X dX10_ratioOf_31 0 rfl ?_
  obtain ⟨g7, h⟩ := xgd_of h
  refine x_lcmp X g7 ⟨by decide, by decide⟩ dX10_ratioOf_32 ?_
  refine x_if_ne (tgt := 40) X (inR_cmp _ _) dX10_ratioOf_33 (by decide) (fun c8 => ?_) (fun c8 => ?_)
  · replace h := xif_f h c8
    refine lv_lload_n X.1.1 X.1.2.1 dX10_ratioOf_40 rfl (lv_at hl 1 rfl) ?_
    refine lv_aload_n X.1.1 X.1.2.1 dX10_ratioOf_41 rfl (lv_at hl 2 rfl) ?_
    refine x_getr X hG 14 2 40 2 (inC := iX10) rfl q40.1 q40.2 ⟨by decide, by decide, by decide, rfl, by decide, by decide⟩ w1 dX10_ratioOf_42 ?_
    refine x_bipush X dX10_ratioOf_45 (by decide) ?_
    refine x_iald X hG q42.1 q42.2.1 (n := 30) q42.2.2 ⟨by decide, by decide⟩ (by decide) dX10_ratioOf_47 ?_
    obtain ⟨g9, h⟩ := xgd_of h
    refine x_i2l X g9 dX10_ratioOf_48 ?_
    refine x_lmul X dX10_ratioOf_49 ?_
    refine x_ldc2 X 100 rfl w2 dX10_ratioOf_50 ?_
    refine x_lmul X dX10_ratioOf_53 ?_
    refine lv_lload X.1.1 X.1.2.1 dX10_ratioOf_54 (lv_at hl 0 rfl) ?_
    refine lv_aload_n X.1.1 X.1.2.1 dX10_ratioOf_56 rfl (lv_at hl 2 rfl) ?_
    refine x_getr X hG 14 2 40 2 (inC := iX10) rfl q40.1 q40.2 ⟨by decide, by decide, by decide, rfl, by decide, by decide⟩ w1 dX10_ratioOf_57 ?_
    refine x_bipush X dX10_ratioOf_60 (by decide) ?_
    refine x_iald X hG q42.1 q42.2.1 (n := 30) q42.2.2 ⟨by decide, by decide⟩ (by decide) dX10_ratioOf_62 ?_
    obtain ⟨g10, h⟩ := xgd_of h
    refine x_i2l X g10 dX10_ratioOf_63 ?_
    refine x_lmul X dX10_ratioOf_64 ?_
    obtain ⟨g11, h⟩ := xgd_of h
    refine x_ldiv X g11.1 g11.2.1 g11.2.2 dX10_ratioOf_65 ?_
    refine x_l2i X dX10_ratioOf_66 ?_
    cases h
    exact hret _ _ _ _ dX10_ratioOf_67 rfl hG hS
  · replace h := xif_t h c8
    refine x_iconst X dX10_ratioOf_36 ?_
    refine lv_goto (tgt := 67) X.1.1 X.1.2.1 dX10_ratioOf_37 (by decide) ?_
    cases h
    exact hret _ _ _ _ dX10_ratioOf_67 rfl hG hS
theorem hd_X10_ratioOf : yX10_ratioOf.cls = RX10 ∧ yX10_ratioOf.cls ≠ "java/lang/invoke/MethodHandle" ∧ yX10_ratioOf.cls ≠ "java/lang/invoke/VarHandle" ∧ (parseMethodDescriptor yX10_ratioOf.desc).map (fun d => d.parameters.length) = some 1 := by decide +kernel
abbrev rX10_station : Room := { frames := 3, cells := 0, slots := 0, locals := 70 }
set_option maxRecDepth 100000 in
set_option maxHeartbeats 8000000 in
theorem c_X10_station (l : Launch) (t : gP) (x1 : Int) (x2 : Int) (u : uS) (r : Int) (u' : uS) (h : f_X10_station x1 x2 u = some (r, u')) : xMi l yX10_station wsX10_station rX10_station t [.ref (t.2.2.1 40), .int (iI x1), .int (iI x2)] u r u' 0 0 := by
  refine x_ofWi (cc := cX10_station) (maxL := 3) (ret := .int) (own := RX10) (by decide) rfl rfl (Nat.le_of_ble_eq_true rfl) ?_
  intro p e s m args below meth c Q X hret H locs ls hG hS hl
  replace hl : lv_has ls 3 [(0, .ref (t.2.2.1 40)), (1, .int (iI x1)), (2, .int (iI x2))] := hl
  have q40 : 40 < NN ∧ sT 40 = 14 := by decide
  have iX10 : ∀ w ∈ wsX100, w ∈ wsX10_station := by decide +kernel
  have w3 : Cond.fieldLink RX10 7 "TriggerNetworkModel" "now" "[I" ∈ wsX10_station := x_w 3 rfl
  have q41 : 41 < NN ∧ sT 41 = 100 ∧ sN 41 = 1167 := by decide
  have w1 : Cond.fieldLink RX10 16 "TriggerNetworkModel" "xs" "[I" ∈ wsX10_station := x_w 1 rfl
  have q43 : 43 < NN ∧ sT 43 = 100 ∧ sN 43 = 16 := by decide
  have w2 : Cond.fieldLink RX10 19 "TriggerNetworkModel" "ys" "[I" ∈ wsX10_station := x_w 2 rfl
  have q44 : 44 < NN ∧ sT 44 = 100 ∧ sN 44 = 16 := by decide
  have w4 : Cond.fieldLink RX10 13 "TriggerNetworkModel" "told" "[I" ∈ wsX10_station := x_w 4 rfl
  have q42 : 42 < NN ∧ sT 42 = 100 ∧ sN 42 = 30 := by decide
  unfold f_X10_station at h
  refine lv_aload_n X.1.1 X.1.2.1 dX10_station_0 rfl (lv_at hl 0 rfl) ?_
  refine lv_iload_n X.1.1 X.1.2.1 dX10_station_1 rfl (lv_at hl 1 rfl) ?_
  obtain ⟨v1, u2, hf, h⟩ := xbd_of h
  refine x_callVi0 X hG hS (c_X10_noStation l t _ _ _ _ hf) (cwV 1 X.1.2.2.2.2 gX10_station_X10_noStation rfl rfl rfl hd_X10_noStation ⟨Nat.le_of_ble_eq_true rfl, Nat.le_of_ble_eq_true rfl⟩) q40.1 q40.2 rfl (by decide) (by rfl) hl.1 (Nat.le_of_ble_eq_true rfl) dX10_station_2 ⟨by decide, by decide⟩ rfl (fun H locs hG hS => ?_)
  obtain ⟨g3, h⟩ := xgd_of h
  refine x_if_ne (tgt := 31) X g3 dX10_station_5 (by decide) (fun c4 => ?_) (fun c4 => ?_)
  · replace h := xif_f h c4
    refine x_iconst X dX10_station_31 ?_
    cases h
    exact hret _ _ _ _ dX10_station_32 rfl hG hS
  · replace h := xif_t h c4
    refine lv_aload_n X.1.1 X.1.2.1 dX10_station_8 rfl (lv_at hl 0 rfl) ?_
    refine lv_iload_n X.1.1 X.1.2.1 dX10_station_9 rfl (lv_at hl 2 rfl) ?_
    refine x_iconst X dX10_station_10 ?_
    refine x_bipush X dX10_station_11 (by decide) ?_
    obtain ⟨v5, u6, hf, h⟩ := xbd_of h
    refine x_callSi0 X hG hS (c_X10_within l t _ _ _ _ _ _ hf) (va_cwS 3 X.1.2.2.2.2 gX10_station_X10_within rfl rfl rfl hds_X10_within ⟨Nat.le_of_ble_eq_true rfl, Nat.le_of_ble_eq_true rfl⟩) (by rfl) hl.1 (Nat.le_of_ble_eq_true rfl) dX10_station_13 ⟨by decide, by decide⟩ rfl (fun H locs hG hS => ?_)
    obtain ⟨g7, h⟩ := xgd_of h
    obtain ⟨j8, ej8, h⟩ := xlet_of h
    have Jj8 : ∀ (s9 : Int) (u10 : uS), j8 s9 u10 = some (r, u') → xG p l e rX10_station s m args below meth c t Q 3 0 0 24 u10 [(0, .ref (t.2.2.1 40)), (1, .int (iI x1)), (2, .int (iI x2))] [.int (iI s9), .ref (t.2.2.1 40)] := by
        intro s9 u10 h H locs ls hG hS hl
        replace h := (congrFun (congrFun ej8 s9) u10).symm.trans h
        refine x_iconst X dX10_station_24 ?_
        obtain ⟨v11, u12, hf, h⟩ := xbd_of h
        refine x_callVi0 X hG hS (c_X10_throwsIf l t _ _ _ _ _ hf) (cwV 2 X.1.2.2.2.2 gX10_station_X10_throwsIf rfl rfl rfl hd_X10_throwsIf ⟨Nat.le_of_ble_eq_true rfl, Nat.le_of_ble_eq_true rfl⟩) q40.1 q40.2 rfl (by decide) (by rfl) hl.1 (Nat.le_of_ble_eq_true rfl) dX10_station_25 ⟨by decide, by decide⟩ rfl (fun H locs hG hS => ?_)
        obtain ⟨g13, h⟩ := xgd_of h
        refine x_if_eq (tgt := 33) X g13 dX10_station_28 (by decide) (fun c14 => ?_) (fun c14 => ?_)
        · replace h := xif_t h c14
          refine lv_iload_n X.1.1 X.1.2.1 dX10_station_33 rfl (lv_at hl 2 rfl) ?_
          obtain ⟨g15, h⟩ := xgd_of h
          rcases Decidable.em (x2 < 0 ∨ 6 < x2) with c16 | c16
          · replace h := xif_t h c16
            refine x_tblO (tgt := 144) X g15 dX10_station_34 c16 (by decide) ?_
            refine lv_aload_n X.1.1 X.1.2.1 dX10_station_144 rfl (lv_at hl 0 rfl) ?_
            refine x_getr X hG 14 1 40 1 (inC := iX10) rfl q40.1 q40.2 ⟨by decide, by decide, by decide, rfl, by decide, by decide⟩ w3 dX10_station_145 ?_
            refine lv_iload_n X.1.1 X.1.2.1 dX10_station_148 rfl (lv_at hl 1 rfl) ?_
            refine x_iconst X dX10_station_149 ?_
            obtain ⟨v17, u18, hf, h⟩ := xbd_of h
            refine x_callSi0 X hG hS (c_X10_at l t _ _ _ _ _ hf) (va_cwS 2 X.1.2.2.2.2 gX10_station_X10_at rfl rfl rfl hds_X10_at ⟨Nat.le_of_ble_eq_true rfl, Nat.le_of_ble_eq_true rfl⟩) (by rfl) hl.1 (Nat.le_of_ble_eq_true rfl) dX10_station_150 ⟨by decide, by decide⟩ rfl (fun H locs hG hS => ?_)
            obtain ⟨g19, h⟩ := xgd_of h
            refine x_iald X hG q41.1 q41.2.1 (n := 1167) q41.2.2 g19 (by decide) dX10_station_153 ?_
            cases h
            exact hret _ _ _ _ dX10_station_154 rfl hG hS
          · replace h := xif_f h c16
            rcases Decidable.em (x2 = 0) with c20 | c20
            · replace h := xif_t h c20
              refine x_tblI (v := 0) (tgt := 76) X c20 (by decide) ⟨by decide, by decide⟩ dX10_station_34 rfl (by decide) ?_
              refine lv_aload_n X.1.1 X.1.2.1 dX10_station_76 rfl (lv_at hl 0 rfl) ?_
              refine x_getr X hG 14 3 40 3 (inC := iX10) rfl q40.1 q40.2 ⟨by decide, by decide, by decide, rfl, by decide, by decide⟩ w1 dX10_station_77 ?_
              refine lv_iload_n X.1.1 X.1.2.1 dX10_station_80 rfl (lv_at hl 1 rfl) ?_
              obtain ⟨g21, h⟩ := xgd_of h
              refine x_iald X hG q43.1 q43.2.1 (n := 16) q43.2.2 g21 (by decide) dX10_station_81 ?_
              cases h
              exact hret _ _ _ _ dX10_station_82 rfl hG hS
            replace h := xif_f h c20
            rcases Decidable.em (x2 = 1) with c22 | c22
            · replace h := xif_t h c22
              refine x_tblI (v := 1) (tgt := 83) X c22 (by decide) ⟨by decide, by decide⟩ dX10_station_34 rfl (by decide) ?_
              refine lv_aload_n X.1.1 X.1.2.1 dX10_station_83 rfl (lv_at hl 0 rfl) ?_
              refine x_getr X hG 14 4 40 4 (inC := iX10) rfl q40.1 q40.2 ⟨by decide, by decide, by decide, rfl, by decide, by decide⟩ w2 dX10_station_84 ?_
              refine lv_iload_n X.1.1 X.1.2.1 dX10_station_87 rfl (lv_at hl 1 rfl) ?_
              obtain ⟨g23, h⟩ := xgd_of h
              refine x_iald X hG q44.1 q44.2.1 (n := 16) q44.2.2 g23 (by decide) dX10_station_88 ?_
              cases h
              exact hret _ _ _ _ dX10_station_89 rfl hG hS
            replace h := xif_f h c22
            rcases Decidable.em (x2 = 2) with c24 | c24
            · replace h := xif_t h c24
              refine x_tblI (v := 2) (tgt := 90) X c24 (by decide) ⟨by decide, by decide⟩ dX10_station_34 rfl (by decide) ?_
              refine lv_aload_n X.1.1 X.1.2.1 dX10_station_90 rfl (lv_at hl 0 rfl) ?_
              refine x_getr X hG 14 1 40 1 (inC := iX10) rfl q40.1 q40.2 ⟨by decide, by decide, by decide, rfl, by decide, by decide⟩ w3 dX10_station_91 ?_
              refine lv_iload_n X.1.1 X.1.2.1 dX10_station_94 rfl (lv_at hl 1 rfl) ?_
              refine x_iconst X dX10_station_95 ?_
              obtain ⟨v25, u26, hf, h⟩ := xbd_of h
              refine x_callSi0 X hG hS (c_X10_at l t _ _ _ _ _ hf) (va_cwS 2 X.1.2.2.2.2 gX10_station_X10_at rfl rfl rfl hds_X10_at ⟨Nat.le_of_ble_eq_true rfl, Nat.le_of_ble_eq_true rfl⟩) (by rfl) hl.1 (Nat.le_of_ble_eq_true rfl) dX10_station_96 ⟨by decide, by decide⟩ rfl (fun H locs hG hS => ?_)
              obtain ⟨g27, h⟩ := xgd_of h
              refine x_iald X hG q41.1 q41.2.1 (n := 1167) q41.2.2 g27 (by decide) dX10_station_99 ?_
              cases h
              exact hret _ _ _ _ dX10_station_100 rfl hG hS
            replace h := xif_f h c24
            rcases Decidable.em (x2 = 3) with c28 | c28
            · replace h := xif_t h c28
              refine x_tblI (v := 3) (tgt := 101) X c28 (by decide) ⟨by decide, by decide⟩ dX10_station_34 rfl (by decide) ?_
              refine lv_aload_n X.1.1 X.1.2.1 dX10_station_101 rfl (lv_at hl 0 rfl) ?_
              refine lv_iload_n X.1.1 X.1.2.1 dX10_station_102 rfl (lv_at hl 1 rfl) ?_
              refine lv_aload_n X.1.1 X.1.2.1 dX10_station_103 rfl (lv_at hl 0 rfl) ?_
              refine x_getr X hG 14 2 40 2 (inC := iX10) rfl q40.1 q40.2 ⟨by decide, by decide, by decide, rfl, by decide, by decide⟩ w4 dX10_station_104 ?_
              refine x_bipush X dX10_station_107 (by decide) ?_
              refine x_iald X hG q42.1 q42.2.1 (n := 30) q42.2.2 ⟨by decide, by decide⟩ (by decide) dX10_station_109 ?_
              obtain ⟨v29, u30, hf, h⟩ := xbd_of h
              refine x_callVi0 X hG hS (c_X10_latest l t _ _ _ _ _ hf) (cwV 2 X.1.2.2.2.2 gX10_station_X10_latest rfl rfl rfl hd_X10_latest ⟨Nat.le_of_ble_eq_true rfl, Nat.le_of_ble_eq_true rfl⟩) q40.1 q40.2 rfl (by decide) (by rfl) hl.1 (Nat.le_of_ble_eq_true rfl) dX10_station_110 ⟨by decide, by decide⟩ rfl (fun H locs hG hS => ?_)
              cases h
              exact hret _ _ _ _ dX10_station_113 rfl hG hS
            replace h := xif_f h c28
            rcases Decidable.em (x2 = 4) with c31 | c31
            · replace h := xif_t h c31
              refine x_tblI (v := 4) (tgt := 114) X c31 (by decide) ⟨by decide, by decide⟩ dX10_station_34 rfl (by decide) ?_
              refine lv_aload_n X.1.1 X.1.2.1 dX10_station_114 rfl (lv_at hl 0 rfl) ?_
              refine lv_iload_n X.1.1 X.1.2.1 dX10_station_115 rfl (lv_at hl 1 rfl) ?_
              refine lv_aload_n X.1.1 X.1.2.1 dX10_station_116 rfl (lv_at hl 0 rfl) ?_
              refine x_getr X hG 14 2 40 2 (inC := iX10) rfl q40.1 q40.2 ⟨by decide, by decide, by decide, rfl, by decide, by decide⟩ w4 dX10_station_117 ?_
              refine x_bipush X dX10_station_120 (by decide) ?_
              refine x_iald X hG q42.1 q42.2.1 (n := 30) q42.2.2 ⟨by decide, by decide⟩ (by decide) dX10_station_122 ?_
              obtain ⟨v32, u33, hf, h⟩ := xbd_of h
              refine x_callVi0 X hG hS (c_X10_latest l t _ _ _ _ _ hf) (cwV 2 X.1.2.2.2.2 gX10_station_X10_latest rfl rfl rfl hd_X10_latest ⟨Nat.le_of_ble_eq_true rfl, Nat.le_of_ble_eq_true rfl⟩) q40.1 q40.2 rfl (by decide) (by rfl) hl.1 (Nat.le_of_ble_eq_true rfl) dX10_station_123 ⟨by decide, by decide⟩ rfl (fun H locs hG hS => ?_)
              cases h
              exact hret _ _ _ _ dX10_station_126 rfl hG hS
            replace h := xif_f h c31
            rcases Decidable.em (x2 = 5) with c34 | c34
            · replace h := xif_t h c34
              refine x_tblI (v := 5) (tgt := 127) X c34 (by decide) ⟨by decide, by decide⟩ dX10_station_34 rfl (by decide) ?_
              refine lv_aload_n X.1.1 X.1.2.1 dX10_station_127 rfl (lv_at hl 0 rfl) ?_
              refine lv_iload_n X.1.1 X.1.2.1 dX10_station_128 rfl (lv_at hl 1 rfl) ?_
              obtain ⟨v35, u36, hf, h⟩ := xbd_of h
              refine x_callVi0 X hG hS (c_X10_ratioOf l t _ _ _ _ hf) (cwV 1 X.1.2.2.2.2 gX10_station_X10_ratioOf rfl rfl rfl hd_X10_ratioOf ⟨Nat.le_of_ble_eq_true rfl, Nat.le_of_ble_eq_true rfl⟩) q40.1 q40.2 rfl (by decide) (by rfl) hl.1 (Nat.le_of_ble_eq_true rfl) dX10_station_129 ⟨by decide, by decide⟩ rfl (fun H locs hG hS => ?_)
              cases h
              exact hret _ _ _ _ dX10_station_132 rfl hG hS
            replace h := xif_f h c34
            rcases Decidable.em (x2 = 6) with c37 | c37
            · replace h := xif_t h c37
              refine x_tblI (v := 6) (tgt := 133) X c37 (by decide) ⟨by decide, by decide⟩ dX10_station_34 rfl (by decide) ?_
              refine lv_aload_n X.1.1 X.1.2.1 dX10_station_133 rfl (lv_at hl 0 rfl) ?_
              refine x_getr X hG 14 1 40 1 (inC := iX10) rfl q40.1 q40.2 ⟨by decide, by decide, by decide, rfl, by decide, by decide⟩ w3 dX10_station_134 ?_
              refine lv_iload_n X.1.1 X.1.2.1 dX10_station_137 rfl (lv_at hl 1 rfl) ?_
              refine x_iconst X dX10_station_138 ?_
              obtain ⟨v38, u39, hf, h⟩ := xbd_of h
              refine x_callSi0 X hG hS (c_X10_at l t _ _ _ _ _ hf) (va_cwS 2 X.1.2.2.2.2 gX10_station_X10_at rfl rfl rfl hds_X10_at ⟨Nat.le_of_ble_eq_true rfl, Nat.le_of_ble_eq_true rfl⟩) (by rfl) hl.1 (Nat.le_of_ble_eq_true rfl) dX10_station_139 ⟨by decide, by decide⟩ rfl (fun H locs hG hS => ?_)
              obtain ⟨g40, h⟩ := xgd_of h
              refine x_iald X hG q41.1 q41.2.1 (n := 1167) q41.2.2 g40 (by decide) dX10_station_142 ?_
              cases h
              exact hret _ _ _ _ dX10_station_143 rfl hG hS
            replace h := xif_f h c37
            cases h
        · replace h := xif_f h c14
          refine x_iconst X dX10_station_31 ?_
          cases h
          exact hret _ _ _ _ dX10_station_32 rfl hG hS
    refine x_if_ne (tgt := 23) X g7 dX10_station_16 (by decide) (fun c41 => ?_) (fun c41 => ?_)
    · replace h := xif_f h c41
      refine x_iconst X dX10_station_23 ?_
      exact Jj8 _ _ h _ _ _ hG hS (lv_sub hl [0, 1, 2] rfl)
    · replace h := xif_t h c41
      refine x_iconst X dX10_station_19 ?_
      refine lv_goto (tgt := 24) X.1.1 X.1.2.1 dX10_station_20 (by decide) ?_
      exact Jj8 _ _ h _ _ _ hG hS (lv_sub hl [0, 1, 2] rfl)
theorem hd_X10_station : yX10_station.cls = RX10 ∧ yX10_station.cls ≠ "java/lang/invoke/MethodHandle" ∧ yX10_station.cls ≠ "java/lang/invoke/VarHandle" ∧ (parseMethodDescriptor yX10_station.desc).map (fun d => d.parameters.length) = some 2 := by decide +kernel
abbrev rX10_triggered : Room := { frames := 1, cells := 0, slots := 0, locals := 21 }
set_option maxRecDepth 100000 in
set_option maxHeartbeats 8000000 in
theorem c_X10_triggered (l : Launch) (t : gP) (u : uS) (r : Int) (u' : uS) (h : f_X10_triggered u = some (r, u')) : xMi l yX10_triggered wsX10_triggered rX10_triggered t [.ref (t.2.2.1 40)] u r u' 0 0 := by
  refine x_ofWi (cc := cX10_triggered) (maxL := 3) (ret := .int) (own := RX10) (by decide) rfl rfl (Nat.le_of_ble_eq_true rfl) ?_
  intro p e s m args below meth c Q X hret H locs ls hG hS hl
  replace hl : lv_has ls 3 [(0, .ref (t.2.2.1 40))] := hl
  have q40 : 40 < NN ∧ sT 40 = 14 := by decide
  have iX10 : ∀ w ∈ wsX100, w ∈ wsX10_triggered := by decide +kernel
  have w1 : Cond.fieldLink RX10 64 "TriggerNetworkModel" "thrown" "I" ∈ wsX10_triggered := x_w 1 rfl
  have w2 : Cond.fieldLink RX10 13 "TriggerNetworkModel" "told" "[I" ∈ wsX10_triggered := x_w 2 rfl
  have q42 : 42 < NN ∧ sT 42 = 100 ∧ sN 42 = 30 := by decide
  have w3 : Cond.fieldLink RX10 7 "TriggerNetworkModel" "now" "[I" ∈ wsX10_triggered := x_w 3 rfl
  have q41 : 41 < NN ∧ sT 41 = 100 ∧ sN 41 = 1167 := by decide
  unfold f_X10_triggered at h
  refine lv_aload_n X.1.1 X.1.2.1 dX10_triggered_0 rfl (lv_at hl 0 rfl) ?_
  refine x_iconst X dX10_triggered_1 ?_
  refine x_puti X hG hS 14 0 40 0 _ tyX10 tyX10_ok nmX10 (inC := iX10) rfl q40.1 q40.2 ⟨by decide, by decide, by decide, rfl, rfl⟩ rfl (by decide +kernel) w1 dX10_triggered_2 (fun H locs hG hS => ?_)
  obtain ⟨u1, eu1, h⟩ := xlet_of h
  replace hG : G t u1 H := by rw [eu1]; exact hG
  refine x_iconst X dX10_triggered_5 ?_
  refine lv_istore_n (lv' := [(1, .int (iI 0)), (0, .ref (t.2.2.1 40))]) X.1.1 X.1.2.1 dX10_triggered_6 rfl hl (by decide) rfl (fun ls hl => ?_)
  refine x_iconst X dX10_triggered_7 ?_
  refine lv_istore_n (lv' := [(2, .int (iI 0)), (1, .int (iI 0)), (0, .ref (t.2.2.1 40))]) X.1.1 X.1.2.1 dX10_triggered_8 rfl hl (by decide) rfl (fun ls hl => ?_)
  have Lgo2 : ∀ (n : Nat) (x1_3 : Int) (x2_4 : Int) (u5 : uS), xl3 (s_X10_triggered_9) n x1_3 x2_4 u5 = some (r, u') → xG p l e rX10_triggered s m args below meth c t Q 3 0 0 9 u5 [(1, .int (iI x1_3)), (2, .int (iI x2_4)), (0, .ref (t.2.2.1 40))] [] := by
    intro n x1_3 x2_4 u5 h
    refine xl3_W (F := s_X10_triggered_9) (fun x1_3 x2_4 u5 q => q = (r, u') → xG p l e rX10_triggered s m args below meth c t Q 3 0 0 9 u5 [(1, .int (iI x1_3)), (2, .int (iI x2_4)), (0, .ref (t.2.2.1 40))] []) ?_ n x1_3 x2_4 u5 _ h rfl
    intro go2 igo2 x1_3 x2_4 u5 q h hq H locs ls hG hS hl
    subst hq
    unfold s_X10_triggered_9 at h
    refine lv_iload_n X.1.1 X.1.2.1 dX10_triggered_9 rfl (lv_at hl 1 rfl) ?_
    refine lv_aload_n X.1.1 X.1.2.1 dX10_triggered_10 rfl (lv_at hl 2 rfl) ?_
    refine x_getr X hG 14 2 40 2 (inC := iX10) rfl q40.1 q40.2 ⟨by decide, by decide, by decide, rfl, by decide, by decide⟩ w2 dX10_triggered_11 ?_
    refine x_iconst X dX10_triggered_14 ?_
    refine x_iald X hG q42.1 q42.2.1 (n := 30) q42.2.2 ⟨by decide, by decide⟩ (by decide) dX10_triggered_15 ?_
    obtain ⟨g6, h⟩ := xgd_of h
    refine x_icmp_ge (tgt := 38) X g6.1 g6.2 dX10_triggered_16 (by decide) (fun c7 => ?_) (fun c7 => ?_)
    · replace h := xif_t h c7
      refine lv_iload_n X.1.1 X.1.2.1 dX10_triggered_38 rfl (lv_at hl 0 rfl) ?_
      cases h
      exact hret _ _ _ _ dX10_triggered_39 rfl hG hS
    · replace h := xif_f h c7
      refine lv_iload_n X.1.1 X.1.2.1 dX10_triggered_19 rfl (lv_at hl 0 rfl) ?_
      refine lv_aload_n X.1.1 X.1.2.1 dX10_triggered_20 rfl (lv_at hl 2 rfl) ?_
      refine x_getr X hG 14 1 40 1 (inC := iX10) rfl q40.1 q40.2 ⟨by decide, by decide, by decide, rfl, by decide, by decide⟩ w3 dX10_triggered_21 ?_
      refine lv_iload_n X.1.1 X.1.2.1 dX10_triggered_24 rfl (lv_at hl 1 rfl) ?_
      refine x_iconst X dX10_triggered_25 ?_
      obtain ⟨v8, u9, hf, h⟩ := xbd_of h
      refine x_callSi0 X hG hS (c_X10_at l t _ _ _ _ _ hf) (va_cwS 2 X.1.2.2.2.2 gX10_triggered_X10_at rfl rfl rfl hds_X10_at ⟨Nat.le_of_ble_eq_true rfl, Nat.le_of_ble_eq_true rfl⟩) (by rfl) hl.1 (Nat.le_of_ble_eq_true rfl) dX10_triggered_26 ⟨by decide, by decide⟩ rfl (fun H locs hG hS => ?_)
      obtain ⟨g10, h⟩ := xgd_of h
      refine x_iald X hG q41.1 q41.2.1 (n := 1167) q41.2.2 g10 (by decide) dX10_triggered_29 ?_
      refine x_iadd X dX10_triggered_30 ?_
      refine x_name (fun x1_11 ex1_11 => ?_)
      replace h := xlet_at ex1_11 h
      refine lv_istore_n (lv' := [(1, .int (iI x1_11)), (2, .int (iI x2_4)), (0, .ref (t.2.2.1 40))]) X.1.1 X.1.2.1 dX10_triggered_31 rfl hl (by decide) rfl (fun ls hl => ?_)
      refine lv_iinc (v := (iI (x2_4 + 1))) (lv' := [(2, .int (iI (x2_4 + 1))), (1, .int (iI x1_11)), (0, .ref (t.2.2.1 40))]) X.1.1 X.1.2.1 dX10_triggered_32 hl (k := 1) rfl (iI_add _ _) (by decide) rfl (fun ls hl => ?_)
      refine lv_goto (tgt := 9) X.1.1 X.1.2.1 dX10_triggered_35 (by decide) ?_
      exact igo2 _ _ _ _ h rfl _ _ _ hG hS (lv_sub hl [1, 0, 2] rfl)
  exact Lgo2 FU _ _ _ h _ _ _ hG hS (lv_sub hl [1, 0, 2] rfl)
theorem hd_X10_triggered : yX10_triggered.cls = RX10 ∧ yX10_triggered.cls ≠ "java/lang/invoke/MethodHandle" ∧ yX10_triggered.cls ≠ "java/lang/invoke/VarHandle" ∧ (parseMethodDescriptor yX10_triggered.desc).map (fun d => d.parameters.length) = some 0 := by decide +kernel
abbrev rX10_pick : Room := { frames := 3, cells := 0, slots := 0, locals := 65 }
set_option maxRecDepth 100000 in
set_option maxHeartbeats 8000000 in
theorem c_X10_pick (l : Launch) (t : gP) (x1 : Int) (x2 : Int) (u : uS) (r : Int) (u' : uS) (h : f_X10_pick x1 x2 u = some (r, u')) : xMi l yX10_pick wsX10_pick rX10_pick t [.ref (t.2.2.1 40), .int (iI x1), .int (iI x2)] u r u' 0 0 := by
  refine x_ofWi (cc := cX10_pick) (maxL := 3) (ret := .int) (own := RX10) (by decide) rfl rfl (Nat.le_of_ble_eq_true rfl) ?_
  intro p e s m args below meth c Q X hret H locs ls hG hS hl
  replace hl : lv_has ls 3 [(0, .ref (t.2.2.1 40)), (1, .int (iI x1)), (2, .int (iI x2))] := hl
  have q40 : 40 < NN ∧ sT 40 = 14 := by decide
  have iX10 : ∀ w ∈ wsX100, w ∈ wsX10_pick := by decide +kernel
  have w1 : Cond.fieldLink RX10 64 "TriggerNetworkModel" "thrown" "I" ∈ wsX10_pick := x_w 1 rfl
  have w2 : Cond.fieldLink RX10 7 "TriggerNetworkModel" "now" "[I" ∈ wsX10_pick := x_w 2 rfl
  have q41 : 41 < NN ∧ sT 41 = 100 ∧ sN 41 = 1167 := by decide
  unfold f_X10_pick at h
  refine lv_aload_n X.1.1 X.1.2.1 dX10_pick_0 rfl (lv_at hl 0 rfl) ?_
  refine x_iconst X dX10_pick_1 ?_
  refine x_puti X hG hS 14 0 40 0 _ tyX10 tyX10_ok nmX10 (inC := iX10) rfl q40.1 q40.2 ⟨by decide, by decide, by decide, rfl, rfl⟩ rfl (by decide +kernel) w1 dX10_pick_2 (fun H locs hG hS => ?_)
  obtain ⟨u1, eu1, h⟩ := xlet_of h
  replace hG : G t u1 H := by rw [eu1]; exact hG
  refine lv_aload_n X.1.1 X.1.2.1 dX10_pick_5 rfl (lv_at hl 0 rfl) ?_
  refine lv_iload_n X.1.1 X.1.2.1 dX10_pick_6 rfl (lv_at hl 1 rfl) ?_
  obtain ⟨v2, u3, hf, h⟩ := xbd_of h
  refine x_callVi0 X hG hS (c_X10_noPick l t _ _ _ _ hf) (cwV 1 X.1.2.2.2.2 gX10_pick_X10_noPick rfl rfl rfl hd_X10_noPick ⟨Nat.le_of_ble_eq_true rfl, Nat.le_of_ble_eq_true rfl⟩) q40.1 q40.2 rfl (by decide) (by rfl) hl.1 (Nat.le_of_ble_eq_true rfl) dX10_pick_7 ⟨by decide, by decide⟩ rfl (fun H locs hG hS => ?_)
  obtain ⟨g4, h⟩ := xgd_of h
  refine x_if_ne (tgt := 35) X g4 dX10_pick_10 (by decide) (fun c5 => ?_) (fun c5 => ?_)
  · replace h := xif_f h c5
    refine x_iconst X dX10_pick_35 ?_
    refine lv_goto (tgt := 49) X.1.1 X.1.2.1 dX10_pick_36 (by decide) ?_
    cases h
    exact hret _ _ _ _ dX10_pick_49 rfl hG hS
  · replace h := xif_t h c5
    refine lv_aload_n X.1.1 X.1.2.1 dX10_pick_13 rfl (lv_at hl 0 rfl) ?_
    refine lv_iload_n X.1.1 X.1.2.1 dX10_pick_14 rfl (lv_at hl 2 rfl) ?_
    refine x_iconst X dX10_pick_15 ?_
    refine x_iconst X dX10_pick_16 ?_
    obtain ⟨v6, u7, hf, h⟩ := xbd_of h
    refine x_callSi0 X hG hS (c_X10_within l t _ _ _ _ _ _ hf) (va_cwS 3 X.1.2.2.2.2 gX10_pick_X10_within rfl rfl rfl hds_X10_within ⟨Nat.le_of_ble_eq_true rfl, Nat.le_of_ble_eq_true rfl⟩) (by rfl) hl.1 (Nat.le_of_ble_eq_true rfl) dX10_pick_17 ⟨by decide, by decide⟩ rfl (fun H locs hG hS => ?_)
    obtain ⟨g8, h⟩ := xgd_of h
    obtain ⟨j9, ej9, h⟩ := xlet_of h
    have Jj9 : ∀ (s10 : Int) (u11 : uS), j9 s10 u11 = some (r, u') → xG p l e rX10_pick s m args below meth c t Q 3 0 0 28 u11 [(0, .ref (t.2.2.1 40)), (1, .int (iI x1)), (2, .int (iI x2))] [.int (iI s10), .ref (t.2.2.1 40)] := by
        intro s10 u11 h H locs ls hG hS hl
        replace h := (congrFun (congrFun ej9 s10) u11).symm.trans h
        refine x_iconst X dX10_pick_28 ?_
        obtain ⟨v12, u13, hf, h⟩ := xbd_of h
        refine x_callVi0 X hG hS (c_X10_throwsIf l t _ _ _ _ _ hf) (cwV 2 X.1.2.2.2.2 gX10_pick_X10_throwsIf rfl rfl rfl hd_X10_throwsIf ⟨Nat.le_of_ble_eq_true rfl, Nat.le_of_ble_eq_true rfl⟩) q40.1 q40.2 rfl (by decide) (by rfl) hl.1 (Nat.le_of_ble_eq_true rfl) dX10_pick_29 ⟨by decide, by decide⟩ rfl (fun H locs hG hS => ?_)
        obtain ⟨g14, h⟩ := xgd_of h
        refine x_if_eq (tgt := 39) X g14 dX10_pick_32 (by decide) (fun c15 => ?_) (fun c15 => ?_)
        · replace h := xif_t h c15
          refine lv_aload_n X.1.1 X.1.2.1 dX10_pick_39 rfl (lv_at hl 0 rfl) ?_
          refine x_getr X hG 14 1 40 1 (inC := iX10) rfl q40.1 q40.2 ⟨by decide, by decide, by decide, rfl, by decide, by decide⟩ w2 dX10_pick_40 ?_
          refine lv_iload_n X.1.1 X.1.2.1 dX10_pick_43 rfl (lv_at hl 1 rfl) ?_
          refine lv_iload_n X.1.1 X.1.2.1 dX10_pick_44 rfl (lv_at hl 2 rfl) ?_
          obtain ⟨v16, u17, hf, h⟩ := xbd_of h
          refine x_callSi0 X hG hS (c_X10_of l t _ _ _ _ _ hf) (va_cwS 2 X.1.2.2.2.2 gX10_pick_X10_of rfl rfl rfl hds_X10_of ⟨Nat.le_of_ble_eq_true rfl, Nat.le_of_ble_eq_true rfl⟩) (by rfl) hl.1 (Nat.le_of_ble_eq_true rfl) dX10_pick_45 ⟨by decide, by decide⟩ rfl (fun H locs hG hS => ?_)
          obtain ⟨g18, h⟩ := xgd_of h
          refine x_iald X hG q41.1 q41.2.1 (n := 1167) q41.2.2 g18 (by decide) dX10_pick_48 ?_
          cases h
          exact hret _ _ _ _ dX10_pick_49 rfl hG hS
        · replace h := xif_f h c15
          refine x_iconst X dX10_pick_35 ?_
          refine lv_goto (tgt := 49) X.1.1 X.1.2.1 dX10_pick_36 (by decide) ?_
          cases h
          exact hret _ _ _ _ dX10_pick_49 rfl hG hS
    refine x_if_ne (tgt := 27) X g8 dX10_pick_20 (by decide) (fun c19 => ?_) (fun c19 => ?_)
    · replace h := xif_f h c19
      refine x_iconst X dX10_pick_27 ?_
      exact Jj9 _ _ h _ _ _ hG hS (lv_sub hl [0, 1, 2] rfl)
    · replace h := xif_t h c19
      refine x_iconst X dX10_pick_23 ?_
      refine lv_goto (tgt := 28) X.1.1 X.1.2.1 dX10_pick_24 (by decide) ?_
      exact Jj9 _ _ h _ _ _ hG hS (lv_sub hl [0, 1, 2] rfl)
theorem hd_X10_pick : yX10_pick.cls = RX10 ∧ yX10_pick.cls ≠ "java/lang/invoke/MethodHandle" ∧ yX10_pick.cls ≠ "java/lang/invoke/VarHandle" ∧ (parseMethodDescriptor yX10_pick.desc).map (fun d => d.parameters.length) = some 2 := by decide +kernel
abbrev rX10_areFit : Room := { frames := 2, cells := 0, slots := 0, locals := 47 }
set_option maxRecDepth 100000 in
set_option maxHeartbeats 8000000 in
theorem c_X10_areFit (l : Launch) (t : gP) (x1 : Int) (x2 : Int) (u : uS) (r : Int) (u' : uS) (h : f_X10_areFit x1 x2 u = some (r, u')) : xMi l yX10_areFit wsX10_areFit rX10_areFit t [.ref (t.2.2.1 40), .int (iI x1), .int (iI x2)] u r u' 0 0 := by
  refine x_ofWi (cc := cX10_areFit) (maxL := 6) (ret := .boolean) (own := RX10) (by decide) rfl rfl (Nat.le_of_ble_eq_true rfl) ?_
  intro p e s m args below meth c Q X hret H locs ls hG hS hl
  replace hl : lv_has ls 6 [(0, .ref (t.2.2.1 40)), (1, .int (iI x1)), (2, .int (iI x2))] := hl
  have q40 : 40 < NN ∧ sT 40 = 14 := by decide
  have iX10 : ∀ w ∈ wsX100, w ∈ wsX10_areFit := by decide +kernel
  have w1 : Cond.fieldLink RX10 7 "TriggerNetworkModel" "now" "[I" ∈ wsX10_areFit := x_w 1 rfl
  have q41 : 41 < NN ∧ sT 41 = 100 ∧ sN 41 = 1167 := by decide
  have w2 : Cond.fieldLink RX10 13 "TriggerNetworkModel" "told" "[I" ∈ wsX10_areFit := x_w 2 rfl
  have q42 : 42 < NN ∧ sT 42 = 100 ∧ sN 42 = 30 := by decide
  unfold f_X10_areFit at h
  refine lv_aload_n X.1.1 X.1.2.1 dX10_areFit_0 rfl (lv_at hl 0 rfl) ?_
  refine x_getr X hG 14 1 40 1 (inC := iX10) rfl q40.1 q40.2 ⟨by decide, by decide, by decide, rfl, by decide, by decide⟩ w1 dX10_areFit_1 ?_
  refine lv_iload_n X.1.1 X.1.2.1 dX10_areFit_4 rfl (lv_at hl 1 rfl) ?_
  refine x_iconst X dX10_areFit_5 ?_
  obtain ⟨v1, u2, hf, h⟩ := xbd_of h
  refine x_callSi0 X hG hS (c_X10_of l t _ _ _ _ _ hf) (va_cwS 2 X.1.2.2.2.2 gX10_areFit_X10_of rfl rfl rfl hds_X10_of ⟨Nat.le_of_ble_eq_true rfl, Nat.le_of_ble_eq_true rfl⟩) (by rfl) hl.1 (Nat.le_of_ble_eq_true rfl) dX10_areFit_6 ⟨by decide, by decide⟩ rfl (fun H locs hG hS => ?_)
  obtain ⟨g3, h⟩ := xgd_of h
  refine x_iald X hG q41.1 q41.2.1 (n := 1167) q41.2.2 g3 (by decide) dX10_areFit_9 ?_
  refine x_name (fun x3_4 ex3_4 => ?_)
  replace h := xlet_at ex3_4 h
  refine lv_istore_n (lv' := [(3, .int (iI x3_4)), (0, .ref (t.2.2.1 40)), (1, .int (iI x1)), (2, .int (iI x2))]) X.1.1 X.1.2.1 dX10_areFit_10 rfl hl (by decide) rfl (fun ls hl => ?_)
  refine lv_aload_n X.1.1 X.1.2.1 dX10_areFit_11 rfl (lv_at hl 1 rfl) ?_
  refine x_getr X hG 14 1 40 1 (inC := iX10) rfl q40.1 q40.2 ⟨by decide, by decide, by decide, rfl, by decide, by decide⟩ w1 dX10_areFit_12 ?_
  refine lv_iload_n X.1.1 X.1.2.1 dX10_areFit_15 rfl (lv_at hl 3 rfl) ?_
  refine x_iconst X dX10_areFit_16 ?_
  obtain ⟨v5, u6, hf, h⟩ := xbd_of h
  refine x_callSi0 X hG hS (c_X10_of l t _ _ _ _ _ hf) (va_cwS 2 X.1.2.2.2.2 gX10_areFit_X10_of rfl rfl rfl hds_X10_of ⟨Nat.le_of_ble_eq_true rfl, Nat.le_of_ble_eq_true rfl⟩) (by rfl) hl.1 (Nat.le_of_ble_eq_true rfl) dX10_areFit_17 ⟨by decide, by decide⟩ rfl (fun H locs hG hS => ?_)
  obtain ⟨g7, h⟩ := xgd_of h
  refine x_iald X hG q41.1 q41.2.1 (n := 1167) q41.2.2 g7 (by decide) dX10_areFit_20 ?_
  refine x_name (fun x4_8 ex4_8 => ?_)
  replace h := xlet_at ex4_8 h
  refine lv_istore (lv' := [(4, .int (iI x4_8)), (3, .int (iI x3_4)), (0, .ref (t.2.2.1 40)), (1, .int (iI x1)), (2, .int (iI x2))]) X.1.1 X.1.2.1 dX10_areFit_21 hl (by decide) rfl (fun ls hl => ?_)
  refine lv_iload_n X.1.1 X.1.2.1 dX10_areFit_23 rfl (lv_at hl 1 rfl) ?_
  refine lv_iload X.1.1 X.1.2.1 dX10_areFit_24 (lv_at hl 0 rfl) ?_
  obtain ⟨g9, h⟩ := xgd_of h
  refine x_icmp_eq (tgt := 57) X g9.1 g9.2 dX10_areFit_26 (by decide) (fun c10 => ?_) (fun c10 => ?_)
  · replace h := xif_t h c10
    refine x_iconst X dX10_areFit_57 ?_
    cases h
    exact hret _ _ _ _ dX10_areFit_58 (by decide) hG hS
  · replace h := xif_f h c10
    refine lv_aload_n X.1.1 X.1.2.1 dX10_areFit_29 rfl (lv_at hl 2 rfl) ?_
    refine x_getr X hG 14 1 40 1 (inC := iX10) rfl q40.1 q40.2 ⟨by decide, by decide, by decide, rfl, by decide, by decide⟩ w1 dX10_areFit_30 ?_
    refine lv_iload_n X.1.1 X.1.2.1 dX10_areFit_33 rfl (lv_at hl 3 rfl) ?_
    refine x_iconst X dX10_areFit_34 ?_
    obtain ⟨v11, u12, hf, h⟩ := xbd_of h
    refine x_callSi0 X hG hS (c_X10_of l t _ _ _ _ _ hf) (va_cwS 2 X.1.2.2.2.2 gX10_areFit_X10_of rfl rfl rfl hds_X10_of ⟨Nat.le_of_ble_eq_true rfl, Nat.le_of_ble_eq_true rfl⟩) (by rfl) hl.1 (Nat.le_of_ble_eq_true rfl) dX10_areFit_35 ⟨by decide, by decide⟩ rfl (fun H locs hG hS => ?_)
    obtain ⟨g13, h⟩ := xgd_of h
    refine x_iald X hG q41.1 q41.2.1 (n := 1167) q41.2.2 g13 (by decide) dX10_areFit_38 ?_
    refine x_iconst X dX10_areFit_39 ?_
    obtain ⟨g14, h⟩ := xgd_of h
    refine x_icmp_eq (tgt := 57) X g14 ⟨by decide, by decide⟩ dX10_areFit_40 (by decide) (fun c15 => ?_) (fun c15 => ?_)
    · replace h := xif_t h c15
      refine x_iconst X dX10_areFit_57 ?_
      cases h
      exact hret _ _ _ _ dX10_areFit_58 (by decide) hG hS
    · replace h := xif_f h c15
      refine lv_aload_n X.1.1 X.1.2.1 dX10_areFit_43 rfl (lv_at hl 2 rfl) ?_
      refine x_getr X hG 14 1 40 1 (inC := iX10) rfl q40.1 q40.2 ⟨by decide, by decide, by decide, rfl, by decide, by decide⟩ w1 dX10_areFit_44 ?_
      refine lv_iload_n X.1.1 X.1.2.1 dX10_areFit_47 rfl (lv_at hl 4 rfl) ?_
      refine x_iconst X dX10_areFit_48 ?_
      obtain ⟨v16, u17, hf, h⟩ := xbd_of h
      refine x_callSi0 X hG hS (c_X10_of l t _ _ _ _ _ hf) (va_cwS 2 X.1.2.2.2.2 gX10_areFit_X10_of rfl rfl rfl hds_X10_of ⟨Nat.le_of_ble_eq_true rfl, Nat.le_of_ble_eq_true rfl⟩) (by rfl) hl.1 (Nat.le_of_ble_eq_true rfl) dX10_areFit_49 ⟨by decide, by decide⟩ rfl (fun H locs hG hS => ?_)
      obtain ⟨g18, h⟩ := xgd_of h
      refine x_iald X hG q41.1 q41.2.1 (n := 1167) q41.2.2 g18 (by decide) dX10_areFit_52 ?_
      refine x_iconst X dX10_areFit_53 ?_
      obtain ⟨g19, h⟩ := xgd_of h
      refine x_icmp_ne (tgt := 59) X g19 ⟨by decide, by decide⟩ dX10_areFit_54 (by decide) (fun c20 => ?_) (fun c20 => ?_)
      · replace h := xif_f h c20
        refine lv_aload_n X.1.1 X.1.2.1 dX10_areFit_59 rfl (lv_at hl 2 rfl) ?_
        refine x_getr X hG 14 1 40 1 (inC := iX10) rfl q40.1 q40.2 ⟨by decide, by decide, by decide, rfl, by decide, by decide⟩ w1 dX10_areFit_60 ?_
        refine lv_iload_n X.1.1 X.1.2.1 dX10_areFit_63 rfl (lv_at hl 3 rfl) ?_
        refine x_iconst X dX10_areFit_64 ?_
        obtain ⟨v21, u22, hf, h⟩ := xbd_of h
        refine x_callSi0 X hG hS (c_X10_of l t _ _ _ _ _ hf) (va_cwS 2 X.1.2.2.2.2 gX10_areFit_X10_of rfl rfl rfl hds_X10_of ⟨Nat.le_of_ble_eq_true rfl, Nat.le_of_ble_eq_true rfl⟩) (by rfl) hl.1 (Nat.le_of_ble_eq_true rfl) dX10_areFit_65 ⟨by decide, by decide⟩ rfl (fun H locs hG hS => ?_)
        obtain ⟨g23, h⟩ := xgd_of h
        refine x_iald X hG q41.1 q41.2.1 (n := 1167) q41.2.2 g23 (by decide) dX10_areFit_68 ?_
        refine lv_aload_n X.1.1 X.1.2.1 dX10_areFit_69 rfl (lv_at hl 2 rfl) ?_
        refine x_getr X hG 14 1 40 1 (inC := iX10) rfl q40.1 q40.2 ⟨by decide, by decide, by decide, rfl, by decide, by decide⟩ w1 dX10_areFit_70 ?_
        refine lv_iload_n X.1.1 X.1.2.1 dX10_areFit_73 rfl (lv_at hl 4 rfl) ?_
        refine x_iconst X dX10_areFit_74 ?_
        obtain ⟨v24, u25, hf, h⟩ := xbd_of h
        refine x_callSi0 X hG hS (c_X10_of l t _ _ _ _ _ hf) (va_cwS 2 X.1.2.2.2.2 gX10_areFit_X10_of rfl rfl rfl hds_X10_of ⟨Nat.le_of_ble_eq_true rfl, Nat.le_of_ble_eq_true rfl⟩) (by rfl) hl.1 (Nat.le_of_ble_eq_true rfl) dX10_areFit_75 ⟨by decide, by decide⟩ rfl (fun H locs hG hS => ?_)
        obtain ⟨g26, h⟩ := xgd_of h
        refine x_iald X hG q41.1 q41.2.1 (n := 1167) q41.2.2 g26 (by decide) dX10_areFit_78 ?_
        refine x_isub X dX10_areFit_79 ?_
        refine x_name (fun x5_27 ex5_27 => ?_)
        replace h := xlet_at ex5_27 h
        refine lv_istore (lv' := [(5, .int (iI x5_27)), (4, .int (iI x4_8)), (3, .int (iI x3_4)), (0, .ref (t.2.2.1 40)), (1, .int (iI x1)), (2, .int (iI x2))]) X.1.1 X.1.2.1 dX10_areFit_80 hl (by decide) rfl (fun ls hl => ?_)
        refine lv_iload X.1.1 X.1.2.1 dX10_areFit_82 (lv_at hl 0 rfl) ?_
        obtain ⟨g28, h⟩ := xgd_of h
        obtain ⟨j29, ej29, h⟩ := xlet_of h
        have Jj29 : ∀ (s30 : Int) (u31 : uS), j29 s30 u31 = some (r, u') → xG p l e rX10_areFit s m args below meth c t Q 6 0 0 95 u31 [(0, .ref (t.2.2.1 40)), (3, .int (iI x3_4)), (4, .int (iI x4_8))] [.int (iI s30)] := by
            intro s30 u31 h H locs ls hG hS hl
            replace h := (congrFun (congrFun ej29 s30) u31).symm.trans h
            refine lv_aload_n X.1.1 X.1.2.1 dX10_areFit_95 rfl (lv_at hl 0 rfl) ?_
            refine lv_iload_n X.1.1 X.1.2.1 dX10_areFit_96 rfl (lv_at hl 1 rfl) ?_
            refine lv_iload X.1.1 X.1.2.1 dX10_areFit_97 (lv_at hl 2 rfl) ?_
            obtain ⟨v32, u33, hf, h⟩ := xbd_of h
            refine x_callVi0 X hG hS (c_X10_timeBetween l t _ _ _ _ _ hf) (cwV 2 X.1.2.2.2.2 gX10_areFit_X10_timeBetween rfl rfl rfl hd_X10_timeBetween ⟨Nat.le_of_ble_eq_true rfl, Nat.le_of_ble_eq_true rfl⟩) q40.1 q40.2 rfl (by decide) (by rfl) hl.1 (Nat.le_of_ble_eq_true rfl) dX10_areFit_99 ⟨by decide, by decide⟩ rfl (fun H locs hG hS => ?_)
            refine lv_aload_n X.1.1 X.1.2.1 dX10_areFit_102 rfl (lv_at hl 0 rfl) ?_
            refine x_getr X hG 14 2 40 2 (inC := iX10) rfl q40.1 q40.2 ⟨by decide, by decide, by decide, rfl, by decide, by decide⟩ w2 dX10_areFit_103 ?_
            refine x_bipush X dX10_areFit_106 (by decide) ?_
            refine x_iald X hG q42.1 q42.2.1 (n := 30) q42.2.2 ⟨by decide, by decide⟩ (by decide) dX10_areFit_108 ?_
            refine x_iadd X dX10_areFit_109 ?_
            obtain ⟨g34, h⟩ := xgd_of h
            refine x_icmp_gt (tgt := 117) X g34.1 g34.2 dX10_areFit_110 (by decide) (fun c35 => ?_) (fun c35 => ?_)
            · replace h := xif_t h c35
              refine x_iconst X dX10_areFit_117 ?_
              cases h
              exact hret _ _ _ _ dX10_areFit_118 (by decide) hG hS
            · replace h := xif_f h c35
              refine x_iconst X dX10_areFit_113 ?_
              refine lv_goto (tgt := 118) X.1.1 X.1.2.1 dX10_areFit_114 (by decide) ?_
              cases h
              exact hret _ _ _ _ dX10_areFit_118 (by decide) hG hS
        refine x_if_ge (tgt := 93) X g28 dX10_areFit_84 (by decide) (fun c36 => ?_) (fun c36 => ?_)
        · replace h := xif_t h c36
          refine lv_iload X.1.1 X.1.2.1 dX10_areFit_93 (lv_at hl 0 rfl) ?_
          exact Jj29 _ _ h _ _ _ hG hS (lv_sub hl [3, 2, 1] rfl)
        · replace h := xif_f h c36
          refine lv_iload X.1.1 X.1.2.1 dX10_areFit_87 (lv_at hl 0 rfl) ?_
          refine x_ineg X dX10_areFit_89 ?_
          refine lv_goto (tgt := 95) X.1.1 X.1.2.1 dX10_areFit_90 (by decide) ?_
          exact Jj29 _ _ h _ _ _ hG hS (lv_sub hl [3, 2, 1] rfl)
      · replace h := xif_t h c20
        refine x_iconst X dX10_areFit_57 ?_
        cases h
        exact hret _ _ _ _ dX10_areFit_58 (by decide) hG hS
theorem hd_X10_areFit : yX10_areFit.cls = RX10 ∧ yX10_areFit.cls ≠ "java/lang/invoke/MethodHandle" ∧ yX10_areFit.cls ≠ "java/lang/invoke/VarHandle" ∧ (parseMethodDescriptor yX10_areFit.desc).map (fun d => d.parameters.length) = some 2 := by decide +kernel
abbrev rX10_fits : Room := { frames := 3, cells := 0, slots := 0, locals := 72 }
set_option maxRecDepth 100000 in
set_option maxHeartbeats 8000000 in
theorem c_X10_fits (l : Launch) (t : gP) (x1 : Int) (x2 : Int) (u : uS) (r : Int) (u' : uS) (h : f_X10_fits x1 x2 u = some (r, u')) : xMi l yX10_fits wsX10_fits rX10_fits t [.ref (t.2.2.1 40), .int (iI x1), .int (iI x2)] u r u' 0 0 := by
  refine x_ofWi (cc := cX10_fits) (maxL := 3) (ret := .boolean) (own := RX10) (by decide) rfl rfl (Nat.le_of_ble_eq_true rfl) ?_
  intro p e s m args below meth c Q X hret H locs ls hG hS hl
  replace hl : lv_has ls 3 [(0, .ref (t.2.2.1 40)), (1, .int (iI x1)), (2, .int (iI x2))] := hl
  have q40 : 40 < NN ∧ sT 40 = 14 := by decide
  have iX10 : ∀ w ∈ wsX100, w ∈ wsX10_fits := by decide +kernel
  have w1 : Cond.fieldLink RX10 64 "TriggerNetworkModel" "thrown" "I" ∈ wsX10_fits := x_w 1 rfl
  unfold f_X10_fits at h
  refine lv_aload_n X.1.1 X.1.2.1 dX10_fits_0 rfl (lv_at hl 0 rfl) ?_
  refine x_iconst X dX10_fits_1 ?_
  refine x_puti X hG hS 14 0 40 0 _ tyX10 tyX10_ok nmX10 (inC := iX10) rfl q40.1 q40.2 ⟨by decide, by decide, by decide, rfl, rfl⟩ rfl (by decide +kernel) w1 dX10_fits_2 (fun H locs hG hS => ?_)
  obtain ⟨u1, eu1, h⟩ := xlet_of h
  replace hG : G t u1 H := by rw [eu1]; exact hG
  refine lv_aload_n X.1.1 X.1.2.1 dX10_fits_5 rfl (lv_at hl 0 rfl) ?_
  refine lv_iload_n X.1.1 X.1.2.1 dX10_fits_6 rfl (lv_at hl 1 rfl) ?_
  obtain ⟨v2, u3, hf, h⟩ := xbd_of h
  refine x_callVi0 X hG hS (c_X10_noPick l t _ _ _ _ hf) (cwV 1 X.1.2.2.2.2 gX10_fits_X10_noPick rfl rfl rfl hd_X10_noPick ⟨Nat.le_of_ble_eq_true rfl, Nat.le_of_ble_eq_true rfl⟩) q40.1 q40.2 rfl (by decide) (by rfl) hl.1 (Nat.le_of_ble_eq_true rfl) dX10_fits_7 ⟨by decide, by decide⟩ rfl (fun H locs hG hS => ?_)
  obtain ⟨g4, h⟩ := xgd_of h
  refine x_if_ne (tgt := 34) X g4 dX10_fits_10 (by decide) (fun c5 => ?_) (fun c5 => ?_)
  · replace h := xif_f h c5
    refine x_iconst X dX10_fits_34 ?_
    cases h
    exact hret _ _ _ _ dX10_fits_35 (by decide) hG hS
  · replace h := xif_t h c5
    refine lv_aload_n X.1.1 X.1.2.1 dX10_fits_13 rfl (lv_at hl 0 rfl) ?_
    refine lv_iload_n X.1.1 X.1.2.1 dX10_fits_14 rfl (lv_at hl 2 rfl) ?_
    obtain ⟨v6, u7, hf, h⟩ := xbd_of h
    refine x_callVi0 X hG hS (c_X10_noPick l t _ _ _ _ hf) (cwV 1 X.1.2.2.2.2 gX10_fits_X10_noPick rfl rfl rfl hd_X10_noPick ⟨Nat.le_of_ble_eq_true rfl, Nat.le_of_ble_eq_true rfl⟩) q40.1 q40.2 rfl (by decide) (by rfl) hl.1 (Nat.le_of_ble_eq_true rfl) dX10_fits_15 ⟨by decide, by decide⟩ rfl (fun H locs hG hS => ?_)
    obtain ⟨g8, h⟩ := xgd_of h
    refine x_if_ne (tgt := 34) X g8 dX10_fits_18 (by decide) (fun c9 => ?_) (fun c9 => ?_)
    · replace h := xif_f h c9
      refine x_iconst X dX10_fits_34 ?_
      cases h
      exact hret _ _ _ _ dX10_fits_35 (by decide) hG hS
    · replace h := xif_t h c9
      refine lv_aload_n X.1.1 X.1.2.1 dX10_fits_21 rfl (lv_at hl 0 rfl) ?_
      refine lv_iload_n X.1.1 X.1.2.1 dX10_fits_22 rfl (lv_at hl 1 rfl) ?_
      refine lv_iload_n X.1.1 X.1.2.1 dX10_fits_23 rfl (lv_at hl 2 rfl) ?_
      obtain ⟨v10, u11, hf, h⟩ := xbd_of h
      refine x_callVi0 X hG hS (c_X10_areFit l t _ _ _ _ _ hf) (cwV 2 X.1.2.2.2.2 gX10_fits_X10_areFit rfl rfl rfl hd_X10_areFit ⟨Nat.le_of_ble_eq_true rfl, Nat.le_of_ble_eq_true rfl⟩) q40.1 q40.2 rfl (by decide) (by rfl) hl.1 (Nat.le_of_ble_eq_true rfl) dX10_fits_24 ⟨by decide, by decide⟩ rfl (fun H locs hG hS => ?_)
      obtain ⟨g12, h⟩ := xgd_of h
      refine x_if_eq (tgt := 34) X g12 dX10_fits_27 (by decide) (fun c13 => ?_) (fun c13 => ?_)
      · replace h := xif_t h c13
        refine x_iconst X dX10_fits_34 ?_
        cases h
        exact hret _ _ _ _ dX10_fits_35 (by decide) hG hS
      · replace h := xif_f h c13
        refine x_iconst X dX10_fits_30 ?_
        refine lv_goto (tgt := 35) X.1.1 X.1.2.1 dX10_fits_31 (by decide) ?_
        cases h
        exact hret _ _ _ _ dX10_fits_35 (by decide) hG hS
theorem hd_X10_fits : yX10_fits.cls = RX10 ∧ yX10_fits.cls ≠ "java/lang/invoke/MethodHandle" ∧ yX10_fits.cls ≠ "java/lang/invoke/VarHandle" ∧ (parseMethodDescriptor yX10_fits.desc).map (fun d => d.parameters.length) = some 2 := by decide +kernel
abbrev rX10_picksOf : Room := { frames := 1, cells := 0, slots := 0, locals := 21 }
set_option maxRecDepth 100000 in
set_option maxHeartbeats 8000000 in
theorem c_X10_picksOf (l : Launch) (t : gP) (x1 : Int) (u : uS) (r : Int) (u' : uS) (h : f_X10_picksOf x1 u = some (r, u')) : xMi l yX10_picksOf wsX10_picksOf rX10_picksOf t [.ref (t.2.2.1 40), .int (iI x1)] u r u' 0 0 := by
  refine x_ofWi (cc := cX10_picksOf) (maxL := 4) (ret := .int) (own := RX10) (by decide) rfl rfl (Nat.le_of_ble_eq_true rfl) ?_
  intro p e s m args below meth c Q X hret H locs ls hG hS hl
  replace hl : lv_has ls 4 [(0, .ref (t.2.2.1 40)), (1, .int (iI x1))] := hl
  have q40 : 40 < NN ∧ sT 40 = 14 := by decide
  have iX10 : ∀ w ∈ wsX100, w ∈ wsX10_picksOf := by decide +kernel
  have w1 : Cond.fieldLink RX10 7 "TriggerNetworkModel" "now" "[I" ∈ wsX10_picksOf := x_w 1 rfl
  have q41 : 41 < NN ∧ sT 41 = 100 ∧ sN 41 = 1167 := by decide
  unfold f_X10_picksOf at h
  refine x_iconst X dX10_picksOf_0 ?_
  refine lv_istore_n (lv' := [(2, .int (iI 0)), (0, .ref (t.2.2.1 40)), (1, .int (iI x1))]) X.1.1 X.1.2.1 dX10_picksOf_1 rfl hl (by decide) rfl (fun ls hl => ?_)
  refine x_iconst X dX10_picksOf_2 ?_
  refine lv_istore_n (lv' := [(3, .int (iI 0)), (2, .int (iI 0)), (0, .ref (t.2.2.1 40)), (1, .int (iI x1))]) X.1.1 X.1.2.1 dX10_picksOf_3 rfl hl (by decide) rfl (fun ls hl => ?_)
  have Lgo1 : ∀ (n : Nat) (x2_2 : Int) (x3_3 : Int) (u4 : uS), xl3 (s_X10_picksOf_4 x1) n x2_2 x3_3 u4 = some (r, u') → xG p l e rX10_picksOf s m args below meth c t Q 4 0 0 4 u4 [(2, .int (iI x2_2)), (3, .int (iI x3_3)), (0, .ref (t.2.2.1 40)), (1, .int (iI x1))] [] := by
    intro n x2_2 x3_3 u4 h
    refine xl3_W (F := s_X10_picksOf_4 x1) (fun x2_2 x3_3 u4 q => q = (r, u') → xG p l e rX10_picksOf s m args below meth c t Q 4 0 0 4 u4 [(2, .int (iI x2_2)), (3, .int (iI x3_3)), (0, .ref (t.2.2.1 40)), (1, .int (iI x1))] []) ?_ n x2_2 x3_3 u4 _ h rfl
    intro go1 igo1 x2_2 x3_3 u4 q h hq H locs ls hG hS hl
    subst hq
    unfold s_X10_picksOf_4 at h
    refine lv_iload_n X.1.1 X.1.2.1 dX10_picksOf_4 rfl (lv_at hl 1 rfl) ?_
    refine lv_aload_n X.1.1 X.1.2.1 dX10_picksOf_5 rfl (lv_at hl 2 rfl) ?_
    refine x_getr X hG 14 1 40 1 (inC := iX10) rfl q40.1 q40.2 ⟨by decide, by decide, by decide, rfl, by decide, by decide⟩ w1 dX10_picksOf_6 ?_
    refine x_iconst X dX10_picksOf_9 ?_
    refine x_iald X hG q41.1 q41.2.1 (n := 1167) q41.2.2 ⟨by decide, by decide⟩ (by decide) dX10_picksOf_10 ?_
    obtain ⟨g5, h⟩ := xgd_of h
    refine x_icmp_ge (tgt := 42) X g5.1 g5.2 dX10_picksOf_11 (by decide) (fun c6 => ?_) (fun c6 => ?_)
    · replace h := xif_t h c6
      refine lv_iload_n X.1.1 X.1.2.1 dX10_picksOf_42 rfl (lv_at hl 0 rfl) ?_
      cases h
      exact hret _ _ _ _ dX10_picksOf_43 rfl hG hS
    · replace h := xif_f h c6
      refine lv_iload_n X.1.1 X.1.2.1 dX10_picksOf_14 rfl (lv_at hl 0 rfl) ?_
      refine lv_aload_n X.1.1 X.1.2.1 dX10_picksOf_15 rfl (lv_at hl 2 rfl) ?_
      refine x_getr X hG 14 1 40 1 (inC := iX10) rfl q40.1 q40.2 ⟨by decide, by decide, by decide, rfl, by decide, by decide⟩ w1 dX10_picksOf_16 ?_
      refine lv_iload_n X.1.1 X.1.2.1 dX10_picksOf_19 rfl (lv_at hl 1 rfl) ?_
      refine x_iconst X dX10_picksOf_20 ?_
      obtain ⟨v7, u8, hf, h⟩ := xbd_of h
      refine x_callSi0 X hG hS (c_X10_of l t _ _ _ _ _ hf) (va_cwS 2 X.1.2.2.2.2 gX10_picksOf_X10_of rfl rfl rfl hds_X10_of ⟨Nat.le_of_ble_eq_true rfl, Nat.le_of_ble_eq_true rfl⟩) (by rfl) hl.1 (Nat.le_of_ble_eq_true rfl) dX10_picksOf_21 ⟨by decide, by decide⟩ rfl (fun H locs hG hS => ?_)
      obtain ⟨g9, h⟩ := xgd_of h
      refine x_iald X hG q41.1 q41.2.1 (n := 1167) q41.2.2 g9 (by decide) dX10_picksOf_24 ?_
      refine lv_iload_n X.1.1 X.1.2.1 dX10_picksOf_25 rfl (lv_at hl 3 rfl) ?_
      obtain ⟨g10, h⟩ := xgd_of h
      obtain ⟨j11, ej11, h⟩ := xlet_of h
      have Jj11 : ∀ (s12 : Int) (u13 : uS), j11 s12 u13 = some (r, u') → xG p l e rX10_picksOf s m args below meth c t Q 4 0 0 34 u13 [(0, .ref (t.2.2.1 40)), (1, .int (iI x1)), (3, .int (iI x3_3))] [.int (iI s12), .int (iI x2_2)] := by
          intro s12 u13 h H locs ls hG hS hl
          replace h := (congrFun (congrFun ej11 s12) u13).symm.trans h
          refine x_iadd X dX10_picksOf_34 ?_
          refine x_name (fun x2_14 ex2_14 => ?_)
          replace h := xlet_at ex2_14 h
          refine lv_istore_n (lv' := [(2, .int (iI x2_14)), (0, .ref (t.2.2.1 40)), (1, .int (iI x1)), (3, .int (iI x3_3))]) X.1.1 X.1.2.1 dX10_picksOf_35 rfl hl (by decide) rfl (fun ls hl => ?_)
          refine lv_iinc (v := (iI (x3_3 + 1))) (lv' := [(3, .int (iI (x3_3 + 1))), (2, .int (iI x2_14)), (0, .ref (t.2.2.1 40)), (1, .int (iI x1))]) X.1.1 X.1.2.1 dX10_picksOf_36 hl (k := 3) rfl (iI_add _ _) (by decide) rfl (fun ls hl => ?_)
          refine lv_goto (tgt := 4) X.1.1 X.1.2.1 dX10_picksOf_39 (by decide) ?_
          exact igo1 _ _ _ _ h rfl _ _ _ hG hS (lv_sub hl [1, 0, 2, 3] rfl)
      refine x_icmp_ne (tgt := 33) X g10.1 g10.2 dX10_picksOf_26 (by decide) (fun c15 => ?_) (fun c15 => ?_)
      · replace h := xif_f h c15
        refine x_iconst X dX10_picksOf_33 ?_
        exact Jj11 _ _ h _ _ _ hG hS (lv_sub hl [2, 3, 1] rfl)
      · replace h := xif_t h c15
        refine x_iconst X dX10_picksOf_29 ?_
        refine lv_goto (tgt := 34) X.1.1 X.1.2.1 dX10_picksOf_30 (by decide) ?_
        exact Jj11 _ _ h _ _ _ hG hS (lv_sub hl [2, 3, 1] rfl)
  exact Lgo1 FU _ _ _ h _ _ _ hG hS (lv_sub hl [1, 0, 2, 3] rfl)
theorem hd_X10_picksOf : yX10_picksOf.cls = RX10 ∧ yX10_picksOf.cls ≠ "java/lang/invoke/MethodHandle" ∧ yX10_picksOf.cls ≠ "java/lang/invoke/VarHandle" ∧ (parseMethodDescriptor yX10_picksOf.desc).map (fun d => d.parameters.length) = some 1 := by decide +kernel
abbrev rX10_fitsAll : Room := { frames := 3, cells := 0, slots := 0, locals := 72 }
set_option maxRecDepth 100000 in
set_option maxHeartbeats 8000000 in
theorem c_X10_fitsAll (l : Launch) (t : gP) (x1 : Int) (x2 : Int) (u : uS) (r : Int) (u' : uS) (h : f_X10_fitsAll x1 x2 u = some (r, u')) : xMi l yX10_fitsAll wsX10_fitsAll rX10_fitsAll t [.ref (t.2.2.1 40), .int (iI x1), .int (iI x2)] u r u' 0 0 := by
  refine x_ofWi (cc := cX10_fitsAll) (maxL := 5) (ret := .boolean) (own := RX10) (by decide) rfl rfl (Nat.le_of_ble_eq_true rfl) ?_
  intro p e s m args below meth c Q X hret H locs ls hG hS hl
  replace hl : lv_has ls 5 [(0, .ref (t.2.2.1 40)), (1, .int (iI x1)), (2, .int (iI x2))] := hl
  have q40 : 40 < NN ∧ sT 40 = 14 := by decide
  have iX10 : ∀ w ∈ wsX100, w ∈ wsX10_fitsAll := by decide +kernel
  have w1 : Cond.fieldLink RX10 7 "TriggerNetworkModel" "now" "[I" ∈ wsX10_fitsAll := x_w 1 rfl
  have q41 : 41 < NN ∧ sT 41 = 100 ∧ sN 41 = 1167 := by decide
  unfold f_X10_fitsAll at h
  refine x_iconst X dX10_fitsAll_0 ?_
  refine lv_istore_n (lv' := [(3, .int (iI 1)), (0, .ref (t.2.2.1 40)), (1, .int (iI x1)), (2, .int (iI x2))]) X.1.1 X.1.2.1 dX10_fitsAll_1 rfl hl (by decide) rfl (fun ls hl => ?_)
  refine x_iconst X dX10_fitsAll_2 ?_
  refine lv_istore (lv' := [(4, .int (iI 0)), (3, .int (iI 1)), (0, .ref (t.2.2.1 40)), (1, .int (iI x1)), (2, .int (iI x2))]) X.1.1 X.1.2.1 dX10_fitsAll_3 hl (by decide) rfl (fun ls hl => ?_)
  have Lgo1 : ∀ (n : Nat) (x3_2 : Int) (x4_3 : Int) (u4 : uS), xl3 (s_X10_fitsAll_5 x1 x2) n x3_2 x4_3 u4 = some (r, u') → xG p l e rX10_fitsAll s m args below meth c t Q 5 0 0 5 u4 [(3, .int (iI x3_2)), (4, .int (iI x4_3)), (0, .ref (t.2.2.1 40)), (1, .int (iI x1)), (2, .int (iI x2))] [] := by
    intro n x3_2 x4_3 u4 h
    refine xl3_W (F := s_X10_fitsAll_5 x1 x2) (fun x3_2 x4_3 u4 q => q = (r, u') → xG p l e rX10_fitsAll s m args below meth c t Q 5 0 0 5 u4 [(3, .int (iI x3_2)), (4, .int (iI x4_3)), (0, .ref (t.2.2.1 40)), (1, .int (iI x1)), (2, .int (iI x2))] []) ?_ n x3_2 x4_3 u4 _ h rfl
    intro go1 igo1 x3_2 x4_3 u4 q h hq H locs ls hG hS hl
    subst hq
    unfold s_X10_fitsAll_5 at h
    refine lv_iload X.1.1 X.1.2.1 dX10_fitsAll_5 (lv_at hl 1 rfl) ?_
    refine lv_aload_n X.1.1 X.1.2.1 dX10_fitsAll_7 rfl (lv_at hl 2 rfl) ?_
    refine x_getr X hG 14 1 40 1 (inC := iX10) rfl q40.1 q40.2 ⟨by decide, by decide, by decide, rfl, by decide, by decide⟩ w1 dX10_fitsAll_8 ?_
    refine x_iconst X dX10_fitsAll_11 ?_
    refine x_iald X hG q41.1 q41.2.1 (n := 1167) q41.2.2 ⟨by decide, by decide⟩ (by decide) dX10_fitsAll_12 ?_
    obtain ⟨g5, h⟩ := xgd_of h
    refine x_icmp_ge (tgt := 63) X g5.1 g5.2 dX10_fitsAll_13 (by decide) (fun c6 => ?_) (fun c6 => ?_)
    · replace h := xif_t h c6
      refine lv_iload_n X.1.1 X.1.2.1 dX10_fitsAll_63 rfl (lv_at hl 0 rfl) ?_
      obtain ⟨g7, h⟩ := xgd_of h
      cases h
      exact hret _ _ _ _ dX10_fitsAll_64 (nz_of g7) hG hS
    · replace h := xif_f h c6
      refine lv_iload_n X.1.1 X.1.2.1 dX10_fitsAll_16 rfl (lv_at hl 0 rfl) ?_
      obtain ⟨g8, h⟩ := xgd_of h
      refine x_if_eq (tgt := 63) X g8 dX10_fitsAll_17 (by decide) (fun c9 => ?_) (fun c9 => ?_)
      · replace h := xif_t h c9
        refine lv_iload_n X.1.1 X.1.2.1 dX10_fitsAll_63 rfl (lv_at hl 0 rfl) ?_
        obtain ⟨g10, h⟩ := xgd_of h
        cases h
        exact hret _ _ _ _ dX10_fitsAll_64 (nz_of g10) hG hS
      · replace h := xif_f h c9
        refine lv_iload X.1.1 X.1.2.1 dX10_fitsAll_20 (lv_at hl 1 rfl) ?_
        refine lv_iload_n X.1.1 X.1.2.1 dX10_fitsAll_22 rfl (lv_at hl 3 rfl) ?_
        obtain ⟨g11, h⟩ := xgd_of h
        obtain ⟨j12, ej12, h⟩ := xlet_of h
        have Jj12 : ∀ (s13 : Int) (u14 : uS), j12 s13 u14 = some (r, u') → xG p l e rX10_fitsAll s m args below meth c t Q 5 0 0 56 u14 [(0, .ref (t.2.2.1 40)), (1, .int (iI x1)), (2, .int (iI x2)), (4, .int (iI x4_3))] [.int (iI s13)] := by
            intro s13 u14 h H locs ls hG hS hl
            replace h := (congrFun (congrFun ej12 s13) u14).symm.trans h
            refine lv_istore_n (lv' := [(3, .int (iI s13)), (0, .ref (t.2.2.1 40)), (1, .int (iI x1)), (2, .int (iI x2)), (4, .int (iI x4_3))]) X.1.1 X.1.2.1 dX10_fitsAll_56 rfl hl (by decide) rfl (fun ls hl => ?_)
            refine lv_iinc (v := (iI (x4_3 + 1))) (lv' := [(4, .int (iI (x4_3 + 1))), (3, .int (iI s13)), (0, .ref (t.2.2.1 40)), (1, .int (iI x1)), (2, .int (iI x2))]) X.1.1 X.1.2.1 dX10_fitsAll_57 hl (k := 4) rfl (iI_add _ _) (by decide) rfl (fun ls hl => ?_)
            refine lv_goto (tgt := 5) X.1.1 X.1.2.1 dX10_fitsAll_60 (by decide) ?_
            exact igo1 _ _ _ _ h rfl _ _ _ hG hS (lv_sub hl [1, 0, 2, 3, 4] rfl)
        refine x_icmp_eq (tgt := 51) X g11.1 g11.2 dX10_fitsAll_23 (by decide) (fun c15 => ?_) (fun c15 => ?_)
        · replace h := xif_t h c15
          refine x_iconst X dX10_fitsAll_51 ?_
          refine lv_goto (tgt := 56) X.1.1 X.1.2.1 dX10_fitsAll_52 (by decide) ?_
          exact Jj12 _ _ h _ _ _ hG hS (lv_sub hl [2, 3, 4, 1] rfl)
        · replace h := xif_f h c15
          refine lv_aload_n X.1.1 X.1.2.1 dX10_fitsAll_26 rfl (lv_at hl 2 rfl) ?_
          refine x_getr X hG 14 1 40 1 (inC := iX10) rfl q40.1 q40.2 ⟨by decide, by decide, by decide, rfl, by decide, by decide⟩ w1 dX10_fitsAll_27 ?_
          refine lv_iload X.1.1 X.1.2.1 dX10_fitsAll_30 (lv_at hl 1 rfl) ?_
          refine x_iconst X dX10_fitsAll_32 ?_
          obtain ⟨v16, u17, hf, h⟩ := xbd_of h
          refine x_callSi0 X hG hS (c_X10_of l t _ _ _ _ _ hf) (va_cwS 2 X.1.2.2.2.2 gX10_fitsAll_X10_of rfl rfl rfl hds_X10_of ⟨Nat.le_of_ble_eq_true rfl, Nat.le_of_ble_eq_true rfl⟩) (by rfl) hl.1 (Nat.le_of_ble_eq_true rfl) dX10_fitsAll_33 ⟨by decide, by decide⟩ rfl (fun H locs hG hS => ?_)
          obtain ⟨g18, h⟩ := xgd_of h
          refine x_iald X hG q41.1 q41.2.1 (n := 1167) q41.2.2 g18 (by decide) dX10_fitsAll_36 ?_
          refine lv_iload_n X.1.1 X.1.2.1 dX10_fitsAll_37 rfl (lv_at hl 4 rfl) ?_
          obtain ⟨g19, h⟩ := xgd_of h
          refine x_icmp_ne (tgt := 51) X g19.1 g19.2 dX10_fitsAll_38 (by decide) (fun c20 => ?_) (fun c20 => ?_)
          · replace h := xif_f h c20
            refine x_iconst X dX10_fitsAll_51 ?_
            refine lv_goto (tgt := 56) X.1.1 X.1.2.1 dX10_fitsAll_52 (by decide) ?_
            exact Jj12 _ _ h _ _ _ hG hS (lv_sub hl [2, 3, 4, 1] rfl)
          · replace h := xif_t h c20
            refine lv_aload_n X.1.1 X.1.2.1 dX10_fitsAll_41 rfl (lv_at hl 2 rfl) ?_
            refine lv_iload_n X.1.1 X.1.2.1 dX10_fitsAll_42 rfl (lv_at hl 3 rfl) ?_
            refine lv_iload X.1.1 X.1.2.1 dX10_fitsAll_43 (lv_at hl 1 rfl) ?_
            obtain ⟨v21, u22, hf, h⟩ := xbd_of h
            refine x_callVi0 X hG hS (c_X10_areFit l t _ _ _ _ _ hf) (cwV 2 X.1.2.2.2.2 gX10_fitsAll_X10_areFit rfl rfl rfl hd_X10_areFit ⟨Nat.le_of_ble_eq_true rfl, Nat.le_of_ble_eq_true rfl⟩) q40.1 q40.2 rfl (by decide) (by rfl) hl.1 (Nat.le_of_ble_eq_true rfl) dX10_fitsAll_45 ⟨by decide, by decide⟩ rfl (fun H locs hG hS => ?_)
            obtain ⟨g23, h⟩ := xgd_of h
            refine x_if_eq (tgt := 55) X g23 dX10_fitsAll_48 (by decide) (fun c24 => ?_) (fun c24 => ?_)
            · replace h := xif_t h c24
              refine x_iconst X dX10_fitsAll_55 ?_
              exact Jj12 _ _ h _ _ _ hG hS (lv_sub hl [2, 3, 4, 1] rfl)
            · replace h := xif_f h c24
              refine x_iconst X dX10_fitsAll_51 ?_
              refine lv_goto (tgt := 56) X.1.1 X.1.2.1 dX10_fitsAll_52 (by decide) ?_
              exact Jj12 _ _ h _ _ _ hG hS (lv_sub hl [2, 3, 4, 1] rfl)
  exact Lgo1 FU _ _ _ h _ _ _ hG hS (lv_sub hl [1, 0, 2, 3, 4] rfl)
theorem hd_X10_fitsAll : yX10_fitsAll.cls = RX10 ∧ yX10_fitsAll.cls ≠ "java/lang/invoke/MethodHandle" ∧ yX10_fitsAll.cls ≠ "java/lang/invoke/VarHandle" ∧ (parseMethodDescriptor yX10_fitsAll.desc).map (fun d => d.parameters.length) = some 2 := by decide +kernel
abbrev rX10_frees : Room := { frames := 1, cells := 0, slots := 0, locals := 21 }
set_option maxRecDepth 100000 in
set_option maxHeartbeats 8000000 in
theorem c_X10_frees (l : Launch) (t : gP) (x1 : Int) (u : uS) (r : Int) (u' : uS) (h : f_X10_frees x1 u = some (r, u')) : xMv l yX10_frees wsX10_frees rX10_frees t [.ref (t.2.2.1 40), .int (iI x1)] u u' 0 0 := by
  refine x_ofWv (cc := cX10_frees) (maxL := 3) (own := RX10) (by decide) rfl rfl (Nat.le_of_ble_eq_true rfl) ?_
  intro p e s m args below meth c Q X hret H locs ls hG hS hl
  replace hl : lv_has ls 3 [(0, .ref (t.2.2.1 40)), (1, .int (iI x1))] := hl
  have q40 : 40 < NN ∧ sT 40 = 14 := by decide
  have iX10 : ∀ w ∈ wsX100, w ∈ wsX10_frees := by decide +kernel
  have w1 : Cond.fieldLink RX10 7 "TriggerNetworkModel" "now" "[I" ∈ wsX10_frees := x_w 1 rfl
  have q41 : 41 < NN ∧ sT 41 = 100 ∧ sN 41 = 1167 := by decide
  unfold f_X10_frees at h
  refine x_iconst X dX10_frees_0 ?_
  refine lv_istore_n (lv' := [(2, .int (iI 0)), (0, .ref (t.2.2.1 40)), (1, .int (iI x1))]) X.1.1 X.1.2.1 dX10_frees_1 rfl hl (by decide) rfl (fun ls hl => ?_)
  have Lgo1 : ∀ (n : Nat) (x2_2 : Int) (u3 : uS), xl2 (s_X10_frees_2 x1) n x2_2 u3 = some (r, u') → xG p l e rX10_frees s m args below meth c t Q 3 0 0 2 u3 [(2, .int (iI x2_2)), (0, .ref (t.2.2.1 40)), (1, .int (iI x1))] [] := by
    intro n x2_2 u3 h
    refine xl2_W (F := s_X10_frees_2 x1) (fun x2_2 u3 q => q = (r, u') → xG p l e rX10_frees s m args below meth c t Q 3 0 0 2 u3 [(2, .int (iI x2_2)), (0, .ref (t.2.2.1 40)), (1, .int (iI x1))] []) ?_ n x2_2 u3 _ h rfl
    intro go1 igo1 x2_2 u3 q h hq H locs ls hG hS hl
    subst hq
    unfold s_X10_frees_2 at h
    refine lv_iload_n X.1.1 X.1.2.1 dX10_frees_2 rfl (lv_at hl 0 rfl) ?_
    refine lv_aload_n X.1.1 X.1.2.1 dX10_frees_3 rfl (lv_at hl 1 rfl) ?_
    refine x_getr X hG 14 1 40 1 (inC := iX10) rfl q40.1 q40.2 ⟨by decide, by decide, by decide, rfl, by decide, by decide⟩ w1 dX10_frees_4 ?_
    refine x_iconst X dX10_frees_7 ?_
    refine x_iald X hG q41.1 q41.2.1 (n := 1167) q41.2.2 ⟨by decide, by decide⟩ (by decide) dX10_frees_8 ?_
    obtain ⟨g4, h⟩ := xgd_of h
    refine x_icmp_ge (tgt := 43) X g4.1 g4.2 dX10_frees_9 (by decide) (fun c5 => ?_) (fun c5 => ?_)
    · replace h := xif_t h c5
      cases h
      exact hret _ _ _ _ dX10_frees_43 hG hS
    · replace h := xif_f h c5
      refine lv_aload_n X.1.1 X.1.2.1 dX10_frees_12 rfl (lv_at hl 1 rfl) ?_
      refine x_getr X hG 14 1 40 1 (inC := iX10) rfl q40.1 q40.2 ⟨by decide, by decide, by decide, rfl, by decide, by decide⟩ w1 dX10_frees_13 ?_
      refine lv_iload_n X.1.1 X.1.2.1 dX10_frees_16 rfl (lv_at hl 0 rfl) ?_
      refine x_iconst X dX10_frees_17 ?_
      obtain ⟨v6, u7, hf, h⟩ := xbd_of h
      refine x_callSi0 X hG hS (c_X10_of l t _ _ _ _ _ hf) (va_cwS 2 X.1.2.2.2.2 gX10_frees_X10_of rfl rfl rfl hds_X10_of ⟨Nat.le_of_ble_eq_true rfl, Nat.le_of_ble_eq_true rfl⟩) (by rfl) hl.1 (Nat.le_of_ble_eq_true rfl) dX10_frees_18 ⟨by decide, by decide⟩ rfl (fun H locs hG hS => ?_)
      obtain ⟨g8, h⟩ := xgd_of h
      refine x_iald X hG q41.1 q41.2.1 (n := 1167) q41.2.2 g8 (by decide) dX10_frees_21 ?_
      refine lv_iload_n X.1.1 X.1.2.1 dX10_frees_22 rfl (lv_at hl 2 rfl) ?_
      obtain ⟨g9, h⟩ := xgd_of h
      refine x_icmp_ne (tgt := 37) X g9.1 g9.2 dX10_frees_23 (by decide) (fun c10 => ?_) (fun c10 => ?_)
      · replace h := xif_f h c10
        refine lv_iinc (v := (iI (x2_2 + 1))) (lv' := [(2, .int (iI (x2_2 + 1))), (0, .ref (t.2.2.1 40)), (1, .int (iI x1))]) X.1.1 X.1.2.1 dX10_frees_37 hl (k := 0) rfl (iI_add _ _) (by decide) rfl (fun ls hl => ?_)
        refine lv_goto (tgt := 2) X.1.1 X.1.2.1 dX10_frees_40 (by decide) ?_
        exact igo1 _ _ _ h rfl _ _ _ hG hS (lv_sub hl [0, 1, 2] rfl)
      · replace h := xif_t h c10
        refine lv_aload_n X.1.1 X.1.2.1 dX10_frees_26 rfl (lv_at hl 1 rfl) ?_
        refine x_getr X hG 14 1 40 1 (inC := iX10) rfl q40.1 q40.2 ⟨by decide, by decide, by decide, rfl, by decide, by decide⟩ w1 dX10_frees_27 ?_
        refine lv_iload_n X.1.1 X.1.2.1 dX10_frees_30 rfl (lv_at hl 0 rfl) ?_
        refine x_iconst X dX10_frees_31 ?_
        obtain ⟨v11, u12, hf, h⟩ := xbd_of h
        refine x_callSi0 X hG hS (c_X10_of l t _ _ _ _ _ hf) (va_cwS 2 X.1.2.2.2.2 gX10_frees_X10_of rfl rfl rfl hds_X10_of ⟨Nat.le_of_ble_eq_true rfl, Nat.le_of_ble_eq_true rfl⟩) (by rfl) hl.1 (Nat.le_of_ble_eq_true rfl) dX10_frees_32 ⟨by decide, by decide⟩ rfl (fun H locs hG hS => ?_)
        refine x_iconst X dX10_frees_35 ?_
        obtain ⟨g13, h⟩ := xgd_of h
        refine x_iast X hG hS q41.1 q41.2.1 (n := 1167) q41.2.2 g13 (by decide) dX10_frees_36 (fun H locs hG hS => ?_)
        obtain ⟨u14, eu14, h⟩ := xlet_of h
        replace hG : G t u14 H := by rw [eu14]; exact hG
        refine lv_iinc (v := (iI (x2_2 + 1))) (lv' := [(2, .int (iI (x2_2 + 1))), (0, .ref (t.2.2.1 40)), (1, .int (iI x1))]) X.1.1 X.1.2.1 dX10_frees_37 hl (k := 0) rfl (iI_add _ _) (by decide) rfl (fun ls hl => ?_)
        refine lv_goto (tgt := 2) X.1.1 X.1.2.1 dX10_frees_40 (by decide) ?_
        exact igo1 _ _ _ h rfl _ _ _ hG hS (lv_sub hl [0, 1, 2] rfl)
  exact Lgo1 FU _ _ h _ _ _ hG hS (lv_sub hl [0, 1, 2] rfl)
theorem hd_X10_frees : yX10_frees.cls = RX10 ∧ yX10_frees.cls ≠ "java/lang/invoke/MethodHandle" ∧ yX10_frees.cls ≠ "java/lang/invoke/VarHandle" ∧ (parseMethodDescriptor yX10_frees.desc).map (fun d => d.parameters.length) = some 1 := by decide +kernel
abbrev rX10_votes : Room := { frames := 4, cells := 0, slots := 0, locals := 96 }
set_option maxRecDepth 100000 in
set_option maxHeartbeats 8000000 in
theorem c_X10_votes (l : Launch) (t : gP) (x1 : Int) (u : uS) (r : Int) (u' : uS) (h : f_X10_votes x1 u = some (r, u')) : xMv l yX10_votes wsX10_votes rX10_votes t [.ref (t.2.2.1 40), .int (iI x1)] u u' 0 0 := by
  refine x_ofWv (cc := cX10_votes) (maxL := 5) (own := RX10) (by decide) rfl rfl (Nat.le_of_ble_eq_true rfl) ?_
  intro p e s m args below meth c Q X hret H locs ls hG hS hl
  replace hl : lv_has ls 5 [(0, .ref (t.2.2.1 40)), (1, .int (iI x1))] := hl
  have q40 : 40 < NN ∧ sT 40 = 14 := by decide
  have iX10 : ∀ w ∈ wsX100, w ∈ wsX10_votes := by decide +kernel
  have w1 : Cond.fieldLink RX10 7 "TriggerNetworkModel" "now" "[I" ∈ wsX10_votes := x_w 1 rfl
  have q41 : 41 < NN ∧ sT 41 = 100 ∧ sN 41 = 1167 := by decide
  have w2 : Cond.fieldLink RX10 13 "TriggerNetworkModel" "told" "[I" ∈ wsX10_votes := x_w 2 rfl
  have q42 : 42 < NN ∧ sT 42 = 100 ∧ sN 42 = 30 := by decide
  unfold f_X10_votes at h
  refine x_iconst X dX10_votes_0 ?_
  refine lv_istore_n (lv' := [(2, .int (iI 0)), (0, .ref (t.2.2.1 40)), (1, .int (iI x1))]) X.1.1 X.1.2.1 dX10_votes_1 rfl hl (by decide) rfl (fun ls hl => ?_)
  obtain ⟨j1, ej1, h⟩ := xlet_of h
  have Jj1 : ∀ (u2 : uS), j1 u2 = some (r, u') → xG p l e rX10_votes s m args below meth c t Q 5 0 0 47 u2 [(0, .ref (t.2.2.1 40)), (1, .int (iI x1))] [] := by
      intro u2 h H locs ls hG hS hl
      replace h := (congrFun ej1 u2).symm.trans h
      refine lv_aload_n X.1.1 X.1.2.1 dX10_votes_47 rfl (lv_at hl 0 rfl) ?_
      refine x_getr X hG 14 1 40 1 (inC := iX10) rfl q40.1 q40.2 ⟨by decide, by decide, by decide, rfl, by decide, by decide⟩ w1 dX10_votes_48 ?_
      refine x_iconst X dX10_votes_51 ?_
      refine x_iald X hG q41.1 q41.2.1 (n := 1167) q41.2.2 ⟨by decide, by decide⟩ (by decide) dX10_votes_52 ?_
      refine x_name (fun x2_3 ex2_3 => ?_)
      replace h := xlet_at ex2_3 h
      refine lv_istore_n (lv' := [(2, .int (iI x2_3)), (0, .ref (t.2.2.1 40)), (1, .int (iI x1))]) X.1.1 X.1.2.1 dX10_votes_53 rfl hl (by decide) rfl (fun ls hl => ?_)
      refine lv_aload_n X.1.1 X.1.2.1 dX10_votes_54 rfl (lv_at hl 1 rfl) ?_
      refine x_getr X hG 14 1 40 1 (inC := iX10) rfl q40.1 q40.2 ⟨by decide, by decide, by decide, rfl, by decide, by decide⟩ w1 dX10_votes_55 ?_
      refine lv_iload_n X.1.1 X.1.2.1 dX10_votes_58 rfl (lv_at hl 2 rfl) ?_
      refine x_iconst X dX10_votes_59 ?_
      obtain ⟨v4, u5, hf, h⟩ := xbd_of h
      refine x_callSi0 X hG hS (c_X10_of l t _ _ _ _ _ hf) (va_cwS 2 X.1.2.2.2.2 gX10_votes_X10_of rfl rfl rfl hds_X10_of ⟨Nat.le_of_ble_eq_true rfl, Nat.le_of_ble_eq_true rfl⟩) (by rfl) hl.1 (Nat.le_of_ble_eq_true rfl) dX10_votes_60 ⟨by decide, by decide⟩ rfl (fun H locs hG hS => ?_)
      refine lv_iload_n X.1.1 X.1.2.1 dX10_votes_63 rfl (lv_at hl 0 rfl) ?_
      obtain ⟨g6, h⟩ := xgd_of h
      refine x_iast X hG hS q41.1 q41.2.1 (n := 1167) q41.2.2 g6 (by decide) dX10_votes_64 (fun H locs hG hS => ?_)
      obtain ⟨u7, eu7, h⟩ := xlet_of h
      replace hG : G t u7 H := by rw [eu7]; exact hG
      refine x_iconst X dX10_votes_65 ?_
      refine lv_istore_n (lv' := [(3, .int (iI 1)), (2, .int (iI x2_3)), (0, .ref (t.2.2.1 40)), (1, .int (iI x1))]) X.1.1 X.1.2.1 dX10_votes_66 rfl hl (by decide) rfl (fun ls hl => ?_)
      refine x_iconst X dX10_votes_67 ?_
      refine lv_istore (lv' := [(4, .int (iI 0)), (3, .int (iI 1)), (2, .int (iI x2_3)), (0, .ref (t.2.2.1 40)), (1, .int (iI x1))]) X.1.1 X.1.2.1 dX10_votes_68 hl (by decide) rfl (fun ls hl => ?_)
      obtain ⟨j8, ej8, h⟩ := xlet_of h
      have Jj8 : ∀ (x3_9 : Int) (u10 : uS), j8 x3_9 u10 = some (r, u') → xG p l e rX10_votes s m args below meth c t Q 5 0 0 141 u10 [(0, .ref (t.2.2.1 40)), (2, .int (iI x2_3)), (3, .int (iI x3_9))] [] := by
          intro x3_9 u10 h H locs ls hG hS hl
          replace h := (congrFun (congrFun ej8 x3_9) u10).symm.trans h
          refine lv_iload_n X.1.1 X.1.2.1 dX10_votes_141 rfl (lv_at hl 2 rfl) ?_
          refine lv_aload_n X.1.1 X.1.2.1 dX10_votes_142 rfl (lv_at hl 0 rfl) ?_
          refine x_getr X hG 14 2 40 2 (inC := iX10) rfl q40.1 q40.2 ⟨by decide, by decide, by decide, rfl, by decide, by decide⟩ w2 dX10_votes_143 ?_
          refine x_bipush X dX10_votes_146 (by decide) ?_
          refine x_iald X hG q42.1 q42.2.1 (n := 30) q42.2.2 ⟨by decide, by decide⟩ (by decide) dX10_votes_148 ?_
          obtain ⟨g11, h⟩ := xgd_of h
          obtain ⟨j12, ej12, h⟩ := xlet_of h
          have Jj12 : ∀ (u13 : uS), j12 u13 = some (r, u') → xG p l e rX10_votes s m args below meth c t Q 5 0 0 202 u13 [(0, .ref (t.2.2.1 40)), (2, .int (iI x2_3))] [] := by
              intro u13 h H locs ls hG hS hl
              replace h := (congrFun ej12 u13).symm.trans h
              refine lv_aload_n X.1.1 X.1.2.1 dX10_votes_202 rfl (lv_at hl 0 rfl) ?_
              refine lv_iload_n X.1.1 X.1.2.1 dX10_votes_203 rfl (lv_at hl 1 rfl) ?_
              obtain ⟨v14, u15, hf, h⟩ := xbd_of h
              refine x_callVv0 X hG hS (c_X10_frees l t _ _ _ _ hf) (cwV 1 X.1.2.2.2.2 gX10_votes_X10_frees rfl rfl rfl hd_X10_frees ⟨Nat.le_of_ble_eq_true rfl, Nat.le_of_ble_eq_true rfl⟩) q40.1 q40.2 rfl (by decide) (by rfl) hl.1 (Nat.le_of_ble_eq_true rfl) dX10_votes_204 ⟨by decide, by decide⟩ rfl (fun H locs hG hS => ?_)
              cases h
              exact hret _ _ _ _ dX10_votes_207 hG hS
          refine x_icmp_lt (tgt := 202) X g11.1 g11.2 dX10_votes_149 (by decide) (fun c16 => ?_) (fun c16 => ?_)
          · replace h := xif_t h c16
            exact Jj12 _ h _ _ _ hG hS (lv_sub hl [0, 1] rfl)
          · replace h := xif_f h c16
            refine lv_iload_n X.1.1 X.1.2.1 dX10_votes_152 rfl (lv_at hl 1 rfl) ?_
            refine x_bipush X dX10_votes_153 (by decide) ?_
            obtain ⟨g17, h⟩ := xgd_of h
            refine x_icmp_ge (tgt := 202) X g17 ⟨by decide, by decide⟩ dX10_votes_155 (by decide) (fun c18 => ?_) (fun c18 => ?_)
            · replace h := xif_t h c18
              exact Jj12 _ h _ _ _ hG hS (lv_sub hl [0, 1] rfl)
            · replace h := xif_f h c18
              refine lv_aload_n X.1.1 X.1.2.1 dX10_votes_158 rfl (lv_at hl 0 rfl) ?_
              refine x_getr X hG 14 1 40 1 (inC := iX10) rfl q40.1 q40.2 ⟨by decide, by decide, by decide, rfl, by decide, by decide⟩ w1 dX10_votes_159 ?_
              refine x_sipush X dX10_votes_162 (by decide) ?_
              refine x_iconst X dX10_votes_165 ?_
              refine lv_iload_n X.1.1 X.1.2.1 dX10_votes_166 rfl (lv_at hl 1 rfl) ?_
              refine x_imul X dX10_votes_167 ?_
              refine x_iadd X dX10_votes_168 ?_
              refine x_iconst X dX10_votes_169 ?_
              obtain ⟨g19, h⟩ := xgd_of h
              refine x_iast X hG hS q41.1 q41.2.1 (n := 1167) q41.2.2 g19 (by decide) dX10_votes_170 (fun H locs hG hS => ?_)
              obtain ⟨u20, eu20, h⟩ := xlet_of h
              replace hG : G t u20 H := by rw [eu20]; exact hG
              refine lv_aload_n X.1.1 X.1.2.1 dX10_votes_171 rfl (lv_at hl 0 rfl) ?_
              refine x_getr X hG 14 1 40 1 (inC := iX10) rfl q40.1 q40.2 ⟨by decide, by decide, by decide, rfl, by decide, by decide⟩ w1 dX10_votes_172 ?_
              refine x_sipush X dX10_votes_175 (by decide) ?_
              refine x_iconst X dX10_votes_178 ?_
              refine lv_iload_n X.1.1 X.1.2.1 dX10_votes_179 rfl (lv_at hl 1 rfl) ?_
              refine x_imul X dX10_votes_180 ?_
              refine x_iadd X dX10_votes_181 ?_
              refine x_iconst X dX10_votes_182 ?_
              refine x_iadd X dX10_votes_183 ?_
              refine lv_aload_n X.1.1 X.1.2.1 dX10_votes_184 rfl (lv_at hl 0 rfl) ?_
              refine x_getr X hG 14 1 40 1 (inC := iX10) rfl q40.1 q40.2 ⟨by decide, by decide, by decide, rfl, by decide, by decide⟩ w1 dX10_votes_185 ?_
              refine x_iconst X dX10_votes_188 ?_
              refine x_iald X hG q41.1 q41.2.1 (n := 1167) q41.2.2 ⟨by decide, by decide⟩ (by decide) dX10_votes_189 ?_
              obtain ⟨g21, h⟩ := xgd_of h
              refine x_iast X hG hS q41.1 q41.2.1 (n := 1167) q41.2.2 g21 (by decide) dX10_votes_190 (fun H locs hG hS => ?_)
              obtain ⟨u22, eu22, h⟩ := xlet_of h
              replace hG : G t u22 H := by rw [eu22]; exact hG
              refine lv_aload_n X.1.1 X.1.2.1 dX10_votes_191 rfl (lv_at hl 0 rfl) ?_
              refine x_getr X hG 14 1 40 1 (inC := iX10) rfl q40.1 q40.2 ⟨by decide, by decide, by decide, rfl, by decide, by decide⟩ w1 dX10_votes_192 ?_
              refine x_iconst X dX10_votes_195 ?_
              refine lv_dup2_11 X.1.1 X.1.2.1 dX10_votes_196 rfl rfl ?_
              refine x_iald X hG q41.1 q41.2.1 (n := 1167) q41.2.2 ⟨by decide, by decide⟩ (by decide) dX10_votes_197 ?_
              refine x_iconst X dX10_votes_198 ?_
              refine x_iadd X dX10_votes_199 ?_
              refine x_iast X hG hS q41.1 q41.2.1 (n := 1167) q41.2.2 ⟨by decide, by decide⟩ (by decide) dX10_votes_200 (fun H locs hG hS => ?_)
              obtain ⟨u23, eu23, h⟩ := xlet_of h
              replace hG : G t u23 H := by rw [eu23]; exact hG
              cases h
              exact hret _ _ _ _ dX10_votes_201 hG hS
      have Lgo24 : ∀ (n : Nat) (x3_25 : Int) (x4_26 : Int) (u27 : uS), xl3 (s_X10_votes_70 j8 x2_3) n x3_25 x4_26 u27 = some (r, u') → xG p l e rX10_votes s m args below meth c t Q 5 0 0 70 u27 [(3, .int (iI x3_25)), (4, .int (iI x4_26)), (0, .ref (t.2.2.1 40)), (2, .int (iI x2_3))] [] := by
        intro n x3_25 x4_26 u27 h
        refine xl3_W (F := s_X10_votes_70 j8 x2_3) (fun x3_25 x4_26 u27 q => q = (r, u') → xG p l e rX10_votes s m args below meth c t Q 5 0 0 70 u27 [(3, .int (iI x3_25)), (4, .int (iI x4_26)), (0, .ref (t.2.2.1 40)), (2, .int (iI x2_3))] []) ?_ n x3_25 x4_26 u27 _ h rfl
        intro go24 igo24 x3_25 x4_26 u27 q h hq H locs ls hG hS hl
        subst hq
        unfold s_X10_votes_70 at h
        refine lv_iload X.1.1 X.1.2.1 dX10_votes_70 (lv_at hl 1 rfl) ?_
        refine lv_aload_n X.1.1 X.1.2.1 dX10_votes_72 rfl (lv_at hl 2 rfl) ?_
        refine x_getr X hG 14 1 40 1 (inC := iX10) rfl q40.1 q40.2 ⟨by decide, by decide, by decide, rfl, by decide, by decide⟩ w1 dX10_votes_73 ?_
        refine x_iconst X dX10_votes_76 ?_
        refine x_iald X hG q41.1 q41.2.1 (n := 1167) q41.2.2 ⟨by decide, by decide⟩ (by decide) dX10_votes_77 ?_
        obtain ⟨g28, h⟩ := xgd_of h
        refine x_icmp_ge (tgt := 141) X g28.1 g28.2 dX10_votes_78 (by decide) (fun c29 => ?_) (fun c29 => ?_)
        · replace h := xif_t h c29
          exact Jj8 _ _ h _ _ _ hG hS (lv_sub hl [2, 3, 0] rfl)
        · replace h := xif_f h c29
          refine lv_aload_n X.1.1 X.1.2.1 dX10_votes_81 rfl (lv_at hl 2 rfl) ?_
          refine x_getr X hG 14 1 40 1 (inC := iX10) rfl q40.1 q40.2 ⟨by decide, by decide, by decide, rfl, by decide, by decide⟩ w1 dX10_votes_82 ?_
          refine lv_iload X.1.1 X.1.2.1 dX10_votes_85 (lv_at hl 1 rfl) ?_
          refine x_iconst X dX10_votes_87 ?_
          obtain ⟨v30, u31, hf, h⟩ := xbd_of h
          refine x_callSi0 X hG hS (c_X10_of l t _ _ _ _ _ hf) (va_cwS 2 X.1.2.2.2.2 gX10_votes_X10_of rfl rfl rfl hds_X10_of ⟨Nat.le_of_ble_eq_true rfl, Nat.le_of_ble_eq_true rfl⟩) (by rfl) hl.1 (Nat.le_of_ble_eq_true rfl) dX10_votes_88 ⟨by decide, by decide⟩ rfl (fun H locs hG hS => ?_)
          obtain ⟨g32, h⟩ := xgd_of h
          refine x_iald X hG q41.1 q41.2.1 (n := 1167) q41.2.2 g32 (by decide) dX10_votes_91 ?_
          refine x_iconst X dX10_votes_92 ?_
          obtain ⟨g33, h⟩ := xgd_of h
          refine x_icmp_ne (tgt := 135) X g33 ⟨by decide, by decide⟩ dX10_votes_93 (by decide) (fun c34 => ?_) (fun c34 => ?_)
          · replace h := xif_f h c34
            refine lv_iinc (v := (iI (x4_26 + 1))) (lv' := [(4, .int (iI (x4_26 + 1))), (3, .int (iI x3_25)), (0, .ref (t.2.2.1 40)), (2, .int (iI x2_3))]) X.1.1 X.1.2.1 dX10_votes_135 hl (k := 1) rfl (iI_add _ _) (by decide) rfl (fun ls hl => ?_)
            refine lv_goto (tgt := 70) X.1.1 X.1.2.1 dX10_votes_138 (by decide) ?_
            exact igo24 _ _ _ _ h rfl _ _ _ hG hS (lv_sub hl [1, 0, 2, 3] rfl)
          · replace h := xif_t h c34
            refine lv_aload_n X.1.1 X.1.2.1 dX10_votes_96 rfl (lv_at hl 2 rfl) ?_
            refine x_getr X hG 14 1 40 1 (inC := iX10) rfl q40.1 q40.2 ⟨by decide, by decide, by decide, rfl, by decide, by decide⟩ w1 dX10_votes_97 ?_
            refine lv_iload X.1.1 X.1.2.1 dX10_votes_100 (lv_at hl 1 rfl) ?_
            refine x_iconst X dX10_votes_102 ?_
            obtain ⟨v35, u36, hf, h⟩ := xbd_of h
            refine x_callSi0 X hG hS (c_X10_of l t _ _ _ _ _ hf) (va_cwS 2 X.1.2.2.2.2 gX10_votes_X10_of rfl rfl rfl hds_X10_of ⟨Nat.le_of_ble_eq_true rfl, Nat.le_of_ble_eq_true rfl⟩) (by rfl) hl.1 (Nat.le_of_ble_eq_true rfl) dX10_votes_103 ⟨by decide, by decide⟩ rfl (fun H locs hG hS => ?_)
            obtain ⟨g37, h⟩ := xgd_of h
            refine x_iald X hG q41.1 q41.2.1 (n := 1167) q41.2.2 g37 (by decide) dX10_votes_106 ?_
            obtain ⟨g38, h⟩ := xgd_of h
            refine x_if_ne (tgt := 135) X g38 dX10_votes_107 (by decide) (fun c39 => ?_) (fun c39 => ?_)
            · replace h := xif_f h c39
              refine lv_iinc (v := (iI (x4_26 + 1))) (lv' := [(4, .int (iI (x4_26 + 1))), (3, .int (iI x3_25)), (0, .ref (t.2.2.1 40)), (2, .int (iI x2_3))]) X.1.1 X.1.2.1 dX10_votes_135 hl (k := 1) rfl (iI_add _ _) (by decide) rfl (fun ls hl => ?_)
              refine lv_goto (tgt := 70) X.1.1 X.1.2.1 dX10_votes_138 (by decide) ?_
              exact igo24 _ _ _ _ h rfl _ _ _ hG hS (lv_sub hl [1, 0, 2, 3] rfl)
            · replace h := xif_t h c39
              refine lv_aload_n X.1.1 X.1.2.1 dX10_votes_110 rfl (lv_at hl 2 rfl) ?_
              refine lv_iload X.1.1 X.1.2.1 dX10_votes_111 (lv_at hl 1 rfl) ?_
              refine lv_iload_n X.1.1 X.1.2.1 dX10_votes_113 rfl (lv_at hl 3 rfl) ?_
              obtain ⟨v40, u41, hf, h⟩ := xbd_of h
              refine x_callVi0 X hG hS (c_X10_fitsAll l t _ _ _ _ _ hf) (cwV 2 X.1.2.2.2.2 gX10_votes_X10_fitsAll rfl rfl rfl hd_X10_fitsAll ⟨Nat.le_of_ble_eq_true rfl, Nat.le_of_ble_eq_true rfl⟩) q40.1 q40.2 rfl (by decide) (by rfl) hl.1 (Nat.le_of_ble_eq_true rfl) dX10_votes_114 ⟨by decide, by decide⟩ rfl (fun H locs hG hS => ?_)
              obtain ⟨g42, h⟩ := xgd_of h
              refine x_if_eq (tgt := 135) X g42 dX10_votes_117 (by decide) (fun c43 => ?_) (fun c43 => ?_)
              · replace h := xif_t h c43
                refine lv_iinc (v := (iI (x4_26 + 1))) (lv' := [(4, .int (iI (x4_26 + 1))), (3, .int (iI x3_25)), (0, .ref (t.2.2.1 40)), (2, .int (iI x2_3))]) X.1.1 X.1.2.1 dX10_votes_135 hl (k := 1) rfl (iI_add _ _) (by decide) rfl (fun ls hl => ?_)
                refine lv_goto (tgt := 70) X.1.1 X.1.2.1 dX10_votes_138 (by decide) ?_
                exact igo24 _ _ _ _ h rfl _ _ _ hG hS (lv_sub hl [1, 0, 2, 3] rfl)
              · replace h := xif_f h c43
                refine lv_aload_n X.1.1 X.1.2.1 dX10_votes_120 rfl (lv_at hl 2 rfl) ?_
                refine x_getr X hG 14 1 40 1 (inC := iX10) rfl q40.1 q40.2 ⟨by decide, by decide, by decide, rfl, by decide, by decide⟩ w1 dX10_votes_121 ?_
                refine lv_iload X.1.1 X.1.2.1 dX10_votes_124 (lv_at hl 1 rfl) ?_
                refine x_iconst X dX10_votes_126 ?_
                obtain ⟨v44, u45, hf, h⟩ := xbd_of h
                refine x_callSi0 X hG hS (c_X10_of l t _ _ _ _ _ hf) (va_cwS 2 X.1.2.2.2.2 gX10_votes_X10_of rfl rfl rfl hds_X10_of ⟨Nat.le_of_ble_eq_true rfl, Nat.le_of_ble_eq_true rfl⟩) (by rfl) hl.1 (Nat.le_of_ble_eq_true rfl) dX10_votes_127 ⟨by decide, by decide⟩ rfl (fun H locs hG hS => ?_)
                refine lv_iload_n X.1.1 X.1.2.1 dX10_votes_130 rfl (lv_at hl 3 rfl) ?_
                obtain ⟨g46, h⟩ := xgd_of h
                refine x_iast X hG hS q41.1 q41.2.1 (n := 1167) q41.2.2 g46 (by decide) dX10_votes_131 (fun H locs hG hS => ?_)
                obtain ⟨u47, eu47, h⟩ := xlet_of h
                replace hG : G t u47 H := by rw [eu47]; exact hG
                refine lv_iinc (v := (iI (x3_25 + 1))) (lv' := [(3, .int (iI (x3_25 + 1))), (4, .int (iI x4_26)), (0, .ref (t.2.2.1 40)), (2, .int (iI x2_3))]) X.1.1 X.1.2.1 dX10_votes_132 hl (k := 0) rfl (iI_add _ _) (by decide) rfl (fun ls hl => ?_)
                refine lv_iinc (v := (iI (x4_26 + 1))) (lv' := [(4, .int (iI (x4_26 + 1))), (3, .int (iI (x3_25 + 1))), (0, .ref (t.2.2.1 40)), (2, .int (iI x2_3))]) X.1.1 X.1.2.1 dX10_votes_135 hl (k := 1) rfl (iI_add _ _) (by decide) rfl (fun ls hl => ?_)
                refine lv_goto (tgt := 70) X.1.1 X.1.2.1 dX10_votes_138 (by decide) ?_
                exact igo24 _ _ _ _ h rfl _ _ _ hG hS (lv_sub hl [1, 0, 2, 3] rfl)
      exact Lgo24 FU _ _ _ h _ _ _ hG hS (lv_sub hl [1, 0, 3, 2] rfl)
  obtain ⟨j48, ej48, h⟩ := xlet_of h
  have Jj48 : ∀ (x2_49 : Int) (u50 : uS), j48 x2_49 u50 = some (r, u') → xG p l e rX10_votes s m args below meth c t Q 5 0 0 29 u50 [(0, .ref (t.2.2.1 40)), (1, .int (iI x1)), (2, .int (iI x2_49))] [] := by
      intro x2_49 u50 h H locs ls hG hS hl
      replace h := (congrFun (congrFun ej48 x2_49) u50).symm.trans h
      refine lv_aload_n X.1.1 X.1.2.1 dX10_votes_29 rfl (lv_at hl 0 rfl) ?_
      refine x_getr X hG 14 1 40 1 (inC := iX10) rfl q40.1 q40.2 ⟨by decide, by decide, by decide, rfl, by decide, by decide⟩ w1 dX10_votes_30 ?_
      refine lv_iload_n X.1.1 X.1.2.1 dX10_votes_33 rfl (lv_at hl 1 rfl) ?_
      refine x_iconst X dX10_votes_34 ?_
      obtain ⟨v51, u52, hf, h⟩ := xbd_of h
      refine x_callSi0 X hG hS (c_X10_of l t _ _ _ _ _ hf) (va_cwS 2 X.1.2.2.2.2 gX10_votes_X10_of rfl rfl rfl hds_X10_of ⟨Nat.le_of_ble_eq_true rfl, Nat.le_of_ble_eq_true rfl⟩) (by rfl) hl.1 (Nat.le_of_ble_eq_true rfl) dX10_votes_35 ⟨by decide, by decide⟩ rfl (fun H locs hG hS => ?_)
      refine lv_iload_n X.1.1 X.1.2.1 dX10_votes_38 rfl (lv_at hl 2 rfl) ?_
      obtain ⟨g53, h⟩ := xgd_of h
      refine x_iast X hG hS q41.1 q41.2.1 (n := 1167) q41.2.2 g53 (by decide) dX10_votes_39 (fun H locs hG hS => ?_)
      obtain ⟨u54, eu54, h⟩ := xlet_of h
      replace hG : G t u54 H := by rw [eu54]; exact hG
      cases h
      exact hret _ _ _ _ dX10_votes_40 hG hS
  have Lgo55 : ∀ (n : Nat) (x2_56 : Int) (u57 : uS), xl2 (s_X10_votes_2 j1 x1 j48) n x2_56 u57 = some (r, u') → xG p l e rX10_votes s m args below meth c t Q 5 0 0 2 u57 [(2, .int (iI x2_56)), (0, .ref (t.2.2.1 40)), (1, .int (iI x1))] [] := by
    intro n x2_56 u57 h
    refine xl2_W (F := s_X10_votes_2 j1 x1 j48) (fun x2_56 u57 q => q = (r, u') → xG p l e rX10_votes s m args below meth c t Q 5 0 0 2 u57 [(2, .int (iI x2_56)), (0, .ref (t.2.2.1 40)), (1, .int (iI x1))] []) ?_ n x2_56 u57 _ h rfl
    intro go55 igo55 x2_56 u57 q h hq H locs ls hG hS hl
    subst hq
    unfold s_X10_votes_2 at h
    refine lv_iload_n X.1.1 X.1.2.1 dX10_votes_2 rfl (lv_at hl 0 rfl) ?_
    refine lv_aload_n X.1.1 X.1.2.1 dX10_votes_3 rfl (lv_at hl 1 rfl) ?_
    refine x_getr X hG 14 1 40 1 (inC := iX10) rfl q40.1 q40.2 ⟨by decide, by decide, by decide, rfl, by decide, by decide⟩ w1 dX10_votes_4 ?_
    refine x_iconst X dX10_votes_7 ?_
    refine x_iald X hG q41.1 q41.2.1 (n := 1167) q41.2.2 ⟨by decide, by decide⟩ (by decide) dX10_votes_8 ?_
    obtain ⟨g58, h⟩ := xgd_of h
    refine x_icmp_ge (tgt := 47) X g58.1 g58.2 dX10_votes_9 (by decide) (fun c59 => ?_) (fun c59 => ?_)
    · replace h := xif_t h c59
      exact Jj1 _ h _ _ _ hG hS (lv_sub hl [1, 2] rfl)
    · replace h := xif_f h c59
      refine lv_aload_n X.1.1 X.1.2.1 dX10_votes_12 rfl (lv_at hl 1 rfl) ?_
      refine lv_iload_n X.1.1 X.1.2.1 dX10_votes_13 rfl (lv_at hl 0 rfl) ?_
      obtain ⟨v60, u61, hf, h⟩ := xbd_of h
      refine x_callVi0 X hG hS (c_X10_isRetracted l t _ _ _ _ hf) (cwV 1 X.1.2.2.2.2 gX10_votes_X10_isRetracted rfl rfl rfl hd_X10_isRetracted ⟨Nat.le_of_ble_eq_true rfl, Nat.le_of_ble_eq_true rfl⟩) q40.1 q40.2 rfl (by decide) (by rfl) hl.1 (Nat.le_of_ble_eq_true rfl) dX10_votes_14 ⟨by decide, by decide⟩ rfl (fun H locs hG hS => ?_)
      obtain ⟨g62, h⟩ := xgd_of h
      refine x_if_ne (tgt := 41) X g62 dX10_votes_17 (by decide) (fun c63 => ?_) (fun c63 => ?_)
      · replace h := xif_f h c63
        refine lv_iinc (v := (iI (x2_56 + 1))) (lv' := [(2, .int (iI (x2_56 + 1))), (0, .ref (t.2.2.1 40)), (1, .int (iI x1))]) X.1.1 X.1.2.1 dX10_votes_41 hl (k := 0) rfl (iI_add _ _) (by decide) rfl (fun ls hl => ?_)
        refine lv_goto (tgt := 2) X.1.1 X.1.2.1 dX10_votes_44 (by decide) ?_
        exact igo55 _ _ _ h rfl _ _ _ hG hS (lv_sub hl [0, 1, 2] rfl)
      · replace h := xif_t h c63
        refine lv_aload_n X.1.1 X.1.2.1 dX10_votes_20 rfl (lv_at hl 1 rfl) ?_
        refine lv_iload_n X.1.1 X.1.2.1 dX10_votes_21 rfl (lv_at hl 2 rfl) ?_
        refine lv_iload_n X.1.1 X.1.2.1 dX10_votes_22 rfl (lv_at hl 0 rfl) ?_
        obtain ⟨v64, u65, hf, h⟩ := xbd_of h
        refine x_callVi0 X hG hS (c_X10_fitsAll l t _ _ _ _ _ hf) (cwV 2 X.1.2.2.2.2 gX10_votes_X10_fitsAll rfl rfl rfl hd_X10_fitsAll ⟨Nat.le_of_ble_eq_true rfl, Nat.le_of_ble_eq_true rfl⟩) q40.1 q40.2 rfl (by decide) (by rfl) hl.1 (Nat.le_of_ble_eq_true rfl) dX10_votes_23 ⟨by decide, by decide⟩ rfl (fun H locs hG hS => ?_)
        obtain ⟨g66, h⟩ := xgd_of h
        refine x_if_eq (tgt := 41) X g66 dX10_votes_26 (by decide) (fun c67 => ?_) (fun c67 => ?_)
        · replace h := xif_t h c67
          refine lv_iinc (v := (iI (x2_56 + 1))) (lv' := [(2, .int (iI (x2_56 + 1))), (0, .ref (t.2.2.1 40)), (1, .int (iI x1))]) X.1.1 X.1.2.1 dX10_votes_41 hl (k := 0) rfl (iI_add _ _) (by decide) rfl (fun ls hl => ?_)
          refine lv_goto (tgt := 2) X.1.1 X.1.2.1 dX10_votes_44 (by decide) ?_
          exact igo55 _ _ _ h rfl _ _ _ hG hS (lv_sub hl [0, 1, 2] rfl)
        · replace h := xif_f h c67
          exact Jj48 _ _ h _ _ _ hG hS (lv_sub hl [1, 2, 0] rfl)
  exact Lgo55 FU _ _ h _ _ _ hG hS (lv_sub hl [0, 1, 2] rfl)
theorem hd_X10_votes : yX10_votes.cls = RX10 ∧ yX10_votes.cls ≠ "java/lang/invoke/MethodHandle" ∧ yX10_votes.cls ≠ "java/lang/invoke/VarHandle" ∧ (parseMethodDescriptor yX10_votes.desc).map (fun d => d.parameters.length) = some 1 := by decide +kernel
abbrev rX10_picks : Room := { frames := 5, cells := 0, slots := 0, locals := 120 }
set_option maxRecDepth 100000 in
set_option maxHeartbeats 8000000 in
theorem c_X10_picks (l : Launch) (t : gP) (x1 : Int) (u : uS) (r : Int) (u' : uS) (h : f_X10_picks x1 u = some (r, u')) : xMv l yX10_picks wsX10_picks rX10_picks t [.ref (t.2.2.1 40), .int (iI x1)] u u' 0 0 := by
  refine x_ofWv (cc := cX10_picks) (maxL := 3) (own := RX10) (by decide) rfl rfl (Nat.le_of_ble_eq_true rfl) ?_
  intro p e s m args below meth c Q X hret H locs ls hG hS hl
  replace hl : lv_has ls 3 [(0, .ref (t.2.2.1 40)), (1, .int (iI x1))] := hl
  have q40 : 40 < NN ∧ sT 40 = 14 := by decide
  have iX10 : ∀ w ∈ wsX100, w ∈ wsX10_picks := by decide +kernel
  have w1 : Cond.fieldLink RX10 7 "TriggerNetworkModel" "now" "[I" ∈ wsX10_picks := x_w 1 rfl
  have q41 : 41 < NN ∧ sT 41 = 100 ∧ sN 41 = 1167 := by decide
  unfold f_X10_picks at h
  refine lv_aload_n X.1.1 X.1.2.1 dX10_picks_0 rfl (lv_at hl 0 rfl) ?_
  refine x_getr X hG 14 1 40 1 (inC := iX10) rfl q40.1 q40.2 ⟨by decide, by decide, by decide, rfl, by decide, by decide⟩ w1 dX10_picks_1 ?_
  refine x_iconst X dX10_picks_4 ?_
  refine x_iald X hG q41.1 q41.2.1 (n := 1167) q41.2.2 ⟨by decide, by decide⟩ (by decide) dX10_picks_5 ?_
  refine x_name (fun x2_1 ex2_1 => ?_)
  replace h := xlet_at ex2_1 h
  refine lv_istore_n (lv' := [(2, .int (iI x2_1)), (0, .ref (t.2.2.1 40)), (1, .int (iI x1))]) X.1.1 X.1.2.1 dX10_picks_6 rfl hl (by decide) rfl (fun ls hl => ?_)
  refine lv_aload_n X.1.1 X.1.2.1 dX10_picks_7 rfl (lv_at hl 1 rfl) ?_
  refine x_getr X hG 14 1 40 1 (inC := iX10) rfl q40.1 q40.2 ⟨by decide, by decide, by decide, rfl, by decide, by decide⟩ w1 dX10_picks_8 ?_
  refine lv_iload_n X.1.1 X.1.2.1 dX10_picks_11 rfl (lv_at hl 0 rfl) ?_
  refine x_iconst X dX10_picks_12 ?_
  obtain ⟨v2, u3, hf, h⟩ := xbd_of h
  refine x_callSi0 X hG hS (c_X10_of l t _ _ _ _ _ hf) (va_cwS 2 X.1.2.2.2.2 gX10_picks_X10_of rfl rfl rfl hds_X10_of ⟨Nat.le_of_ble_eq_true rfl, Nat.le_of_ble_eq_true rfl⟩) (by rfl) hl.1 (Nat.le_of_ble_eq_true rfl) dX10_picks_13 ⟨by decide, by decide⟩ rfl (fun H locs hG hS => ?_)
  refine lv_iload_n X.1.1 X.1.2.1 dX10_picks_16 rfl (lv_at hl 2 rfl) ?_
  obtain ⟨g4, h⟩ := xgd_of h
  refine x_iast X hG hS q41.1 q41.2.1 (n := 1167) q41.2.2 g4 (by decide) dX10_picks_17 (fun H locs hG hS => ?_)
  obtain ⟨u5, eu5, h⟩ := xlet_of h
  replace hG : G t u5 H := by rw [eu5]; exact hG
  refine lv_aload_n X.1.1 X.1.2.1 dX10_picks_18 rfl (lv_at hl 1 rfl) ?_
  refine x_getr X hG 14 1 40 1 (inC := iX10) rfl q40.1 q40.2 ⟨by decide, by decide, by decide, rfl, by decide, by decide⟩ w1 dX10_picks_19 ?_
  refine lv_iload_n X.1.1 X.1.2.1 dX10_picks_22 rfl (lv_at hl 0 rfl) ?_
  refine x_iconst X dX10_picks_23 ?_
  obtain ⟨v6, u7, hf, h⟩ := xbd_of h
  refine x_callSi0 X hG hS (c_X10_of l t _ _ _ _ _ hf) (va_cwS 2 X.1.2.2.2.2 gX10_picks_X10_of rfl rfl rfl hds_X10_of ⟨Nat.le_of_ble_eq_true rfl, Nat.le_of_ble_eq_true rfl⟩) (by rfl) hl.1 (Nat.le_of_ble_eq_true rfl) dX10_picks_24 ⟨by decide, by decide⟩ rfl (fun H locs hG hS => ?_)
  refine lv_aload_n X.1.1 X.1.2.1 dX10_picks_27 rfl (lv_at hl 1 rfl) ?_
  refine x_getr X hG 14 1 40 1 (inC := iX10) rfl q40.1 q40.2 ⟨by decide, by decide, by decide, rfl, by decide, by decide⟩ w1 dX10_picks_28 ?_
  refine x_iconst X dX10_picks_31 ?_
  refine x_iald X hG q41.1 q41.2.1 (n := 1167) q41.2.2 ⟨by decide, by decide⟩ (by decide) dX10_picks_32 ?_
  obtain ⟨g8, h⟩ := xgd_of h
  refine x_iast X hG hS q41.1 q41.2.1 (n := 1167) q41.2.2 g8 (by decide) dX10_picks_33 (fun H locs hG hS => ?_)
  obtain ⟨u9, eu9, h⟩ := xlet_of h
  replace hG : G t u9 H := by rw [eu9]; exact hG
  refine lv_aload_n X.1.1 X.1.2.1 dX10_picks_34 rfl (lv_at hl 1 rfl) ?_
  refine x_getr X hG 14 1 40 1 (inC := iX10) rfl q40.1 q40.2 ⟨by decide, by decide, by decide, rfl, by decide, by decide⟩ w1 dX10_picks_35 ?_
  refine lv_iload_n X.1.1 X.1.2.1 dX10_picks_38 rfl (lv_at hl 0 rfl) ?_
  refine x_iconst X dX10_picks_39 ?_
  obtain ⟨v10, u11, hf, h⟩ := xbd_of h
  refine x_callSi0 X hG hS (c_X10_of l t _ _ _ _ _ hf) (va_cwS 2 X.1.2.2.2.2 gX10_picks_X10_of rfl rfl rfl hds_X10_of ⟨Nat.le_of_ble_eq_true rfl, Nat.le_of_ble_eq_true rfl⟩) (by rfl) hl.1 (Nat.le_of_ble_eq_true rfl) dX10_picks_40 ⟨by decide, by decide⟩ rfl (fun H locs hG hS => ?_)
  refine lv_aload_n X.1.1 X.1.2.1 dX10_picks_43 rfl (lv_at hl 1 rfl) ?_
  refine x_getr X hG 14 1 40 1 (inC := iX10) rfl q40.1 q40.2 ⟨by decide, by decide, by decide, rfl, by decide, by decide⟩ w1 dX10_picks_44 ?_
  refine lv_iload_n X.1.1 X.1.2.1 dX10_picks_47 rfl (lv_at hl 2 rfl) ?_
  refine x_iconst X dX10_picks_48 ?_
  obtain ⟨v12, u13, hf, h⟩ := xbd_of h
  refine x_callSi0 X hG hS (c_X10_at l t _ _ _ _ _ hf) (va_cwS 2 X.1.2.2.2.2 gX10_picks_X10_at rfl rfl rfl hds_X10_at ⟨Nat.le_of_ble_eq_true rfl, Nat.le_of_ble_eq_true rfl⟩) (by rfl) hl.1 (Nat.le_of_ble_eq_true rfl) dX10_picks_49 ⟨by decide, by decide⟩ rfl (fun H locs hG hS => ?_)
  obtain ⟨g14, h⟩ := xgd_of h
  refine x_iald X hG q41.1 q41.2.1 (n := 1167) q41.2.2 g14 (by decide) dX10_picks_52 ?_
  obtain ⟨g15, h⟩ := xgd_of h
  refine x_iast X hG hS q41.1 q41.2.1 (n := 1167) q41.2.2 g15 (by decide) dX10_picks_53 (fun H locs hG hS => ?_)
  obtain ⟨u16, eu16, h⟩ := xlet_of h
  replace hG : G t u16 H := by rw [eu16]; exact hG
  refine lv_aload_n X.1.1 X.1.2.1 dX10_picks_54 rfl (lv_at hl 1 rfl) ?_
  refine x_getr X hG 14 1 40 1 (inC := iX10) rfl q40.1 q40.2 ⟨by decide, by decide, by decide, rfl, by decide, by decide⟩ w1 dX10_picks_55 ?_
  refine lv_iload_n X.1.1 X.1.2.1 dX10_picks_58 rfl (lv_at hl 0 rfl) ?_
  refine x_iconst X dX10_picks_59 ?_
  obtain ⟨v17, u18, hf, h⟩ := xbd_of h
  refine x_callSi0 X hG hS (c_X10_of l t _ _ _ _ _ hf) (va_cwS 2 X.1.2.2.2.2 gX10_picks_X10_of rfl rfl rfl hds_X10_of ⟨Nat.le_of_ble_eq_true rfl, Nat.le_of_ble_eq_true rfl⟩) (by rfl) hl.1 (Nat.le_of_ble_eq_true rfl) dX10_picks_60 ⟨by decide, by decide⟩ rfl (fun H locs hG hS => ?_)
  refine x_iconst X dX10_picks_63 ?_
  obtain ⟨g19, h⟩ := xgd_of h
  refine x_iast X hG hS q41.1 q41.2.1 (n := 1167) q41.2.2 g19 (by decide) dX10_picks_64 (fun H locs hG hS => ?_)
  obtain ⟨u20, eu20, h⟩ := xlet_of h
  replace hG : G t u20 H := by rw [eu20]; exact hG
  refine lv_aload_n X.1.1 X.1.2.1 dX10_picks_65 rfl (lv_at hl 1 rfl) ?_
  refine x_getr X hG 14 1 40 1 (inC := iX10) rfl q40.1 q40.2 ⟨by decide, by decide, by decide, rfl, by decide, by decide⟩ w1 dX10_picks_66 ?_
  refine lv_iload_n X.1.1 X.1.2.1 dX10_picks_69 rfl (lv_at hl 0 rfl) ?_
  refine x_iconst X dX10_picks_70 ?_
  obtain ⟨v21, u22, hf, h⟩ := xbd_of h
  refine x_callSi0 X hG hS (c_X10_of l t _ _ _ _ _ hf) (va_cwS 2 X.1.2.2.2.2 gX10_picks_X10_of rfl rfl rfl hds_X10_of ⟨Nat.le_of_ble_eq_true rfl, Nat.le_of_ble_eq_true rfl⟩) (by rfl) hl.1 (Nat.le_of_ble_eq_true rfl) dX10_picks_71 ⟨by decide, by decide⟩ rfl (fun H locs hG hS => ?_)
  refine x_iconst X dX10_picks_74 ?_
  obtain ⟨g23, h⟩ := xgd_of h
  refine x_iast X hG hS q41.1 q41.2.1 (n := 1167) q41.2.2 g23 (by decide) dX10_picks_75 (fun H locs hG hS => ?_)
  obtain ⟨u24, eu24, h⟩ := xlet_of h
  replace hG : G t u24 H := by rw [eu24]; exact hG
  refine lv_aload_n X.1.1 X.1.2.1 dX10_picks_76 rfl (lv_at hl 1 rfl) ?_
  refine x_getr X hG 14 1 40 1 (inC := iX10) rfl q40.1 q40.2 ⟨by decide, by decide, by decide, rfl, by decide, by decide⟩ w1 dX10_picks_77 ?_
  refine x_iconst X dX10_picks_80 ?_
  refine lv_dup2_11 X.1.1 X.1.2.1 dX10_picks_81 rfl rfl ?_
  refine x_iald X hG q41.1 q41.2.1 (n := 1167) q41.2.2 ⟨by decide, by decide⟩ (by decide) dX10_picks_82 ?_
  refine x_iconst X dX10_picks_83 ?_
  refine x_iadd X dX10_picks_84 ?_
  refine x_iast X hG hS q41.1 q41.2.1 (n := 1167) q41.2.2 ⟨by decide, by decide⟩ (by decide) dX10_picks_85 (fun H locs hG hS => ?_)
  obtain ⟨u25, eu25, h⟩ := xlet_of h
  replace hG : G t u25 H := by rw [eu25]; exact hG
  refine lv_aload_n X.1.1 X.1.2.1 dX10_picks_86 rfl (lv_at hl 1 rfl) ?_
  refine x_getr X hG 14 1 40 1 (inC := iX10) rfl q40.1 q40.2 ⟨by decide, by decide, by decide, rfl, by decide, by decide⟩ w1 dX10_picks_87 ?_
  refine lv_iload_n X.1.1 X.1.2.1 dX10_picks_90 rfl (lv_at hl 2 rfl) ?_
  refine x_iconst X dX10_picks_91 ?_
  obtain ⟨v26, u27, hf, h⟩ := xbd_of h
  refine x_callSi0 X hG hS (c_X10_at l t _ _ _ _ _ hf) (va_cwS 2 X.1.2.2.2.2 gX10_picks_X10_at rfl rfl rfl hds_X10_at ⟨Nat.le_of_ble_eq_true rfl, Nat.le_of_ble_eq_true rfl⟩) (by rfl) hl.1 (Nat.le_of_ble_eq_true rfl) dX10_picks_92 ⟨by decide, by decide⟩ rfl (fun H locs hG hS => ?_)
  refine x_iconst X dX10_picks_95 ?_
  obtain ⟨g28, h⟩ := xgd_of h
  refine x_iast X hG hS q41.1 q41.2.1 (n := 1167) q41.2.2 g28 (by decide) dX10_picks_96 (fun H locs hG hS => ?_)
  obtain ⟨u29, eu29, h⟩ := xlet_of h
  replace hG : G t u29 H := by rw [eu29]; exact hG
  refine lv_aload_n X.1.1 X.1.2.1 dX10_picks_97 rfl (lv_at hl 1 rfl) ?_
  refine x_getr X hG 14 1 40 1 (inC := iX10) rfl q40.1 q40.2 ⟨by decide, by decide, by decide, rfl, by decide, by decide⟩ w1 dX10_picks_98 ?_
  refine lv_iload_n X.1.1 X.1.2.1 dX10_picks_101 rfl (lv_at hl 2 rfl) ?_
  refine x_iconst X dX10_picks_102 ?_
  obtain ⟨v30, u31, hf, h⟩ := xbd_of h
  refine x_callSi0 X hG hS (c_X10_at l t _ _ _ _ _ hf) (va_cwS 2 X.1.2.2.2.2 gX10_picks_X10_at rfl rfl rfl hds_X10_at ⟨Nat.le_of_ble_eq_true rfl, Nat.le_of_ble_eq_true rfl⟩) (by rfl) hl.1 (Nat.le_of_ble_eq_true rfl) dX10_picks_103 ⟨by decide, by decide⟩ rfl (fun H locs hG hS => ?_)
  refine lv_iload_n X.1.1 X.1.2.1 dX10_picks_106 rfl (lv_at hl 0 rfl) ?_
  obtain ⟨g32, h⟩ := xgd_of h
  refine x_iast X hG hS q41.1 q41.2.1 (n := 1167) q41.2.2 g32 (by decide) dX10_picks_107 (fun H locs hG hS => ?_)
  obtain ⟨u33, eu33, h⟩ := xlet_of h
  replace hG : G t u33 H := by rw [eu33]; exact hG
  refine lv_aload_n X.1.1 X.1.2.1 dX10_picks_108 rfl (lv_at hl 1 rfl) ?_
  refine lv_iload_n X.1.1 X.1.2.1 dX10_picks_109 rfl (lv_at hl 0 rfl) ?_
  obtain ⟨v34, u35, hf, h⟩ := xbd_of h
  refine x_callVv0 X hG hS (c_X10_votes l t _ _ _ _ hf) (cwV 1 X.1.2.2.2.2 gX10_picks_X10_votes rfl rfl rfl hd_X10_votes ⟨Nat.le_of_ble_eq_true rfl, Nat.le_of_ble_eq_true rfl⟩) q40.1 q40.2 rfl (by decide) (by rfl) hl.1 (Nat.le_of_ble_eq_true rfl) dX10_picks_110 ⟨by decide, by decide⟩ rfl (fun H locs hG hS => ?_)
  cases h
  exact hret _ _ _ _ dX10_picks_113 hG hS
theorem hd_X10_picks : yX10_picks.cls = RX10 ∧ yX10_picks.cls ≠ "java/lang/invoke/MethodHandle" ∧ yX10_picks.cls ≠ "java/lang/invoke/VarHandle" ∧ (parseMethodDescriptor yX10_picks.desc).map (fun d => d.parameters.length) = some 1 := by decide +kernel
abbrev rX10_passes : Room := { frames := 6, cells := 0, slots := 0, locals := 142 }
set_option maxRecDepth 100000 in
set_option maxHeartbeats 8000000 in
theorem c_X10_passes (l : Launch) (t : gP) (u : uS) (r : Int) (u' : uS) (h : f_X10_passes u = some (r, u')) : xMv l yX10_passes wsX10_passes rX10_passes t [.ref (t.2.2.1 40)] u u' 0 0 := by
  refine x_ofWv (cc := cX10_passes) (maxL := 3) (own := RX10) (by decide) rfl rfl (Nat.le_of_ble_eq_true rfl) ?_
  intro p e s m args below meth c Q X hret H locs ls hG hS hl
  replace hl : lv_has ls 3 [(0, .ref (t.2.2.1 40))] := hl
  have q40 : 40 < NN ∧ sT 40 = 14 := by decide
  have iX10 : ∀ w ∈ wsX100, w ∈ wsX10_passes := by decide +kernel
  have w1 : Cond.fieldLink RX10 7 "TriggerNetworkModel" "now" "[I" ∈ wsX10_passes := x_w 1 rfl
  have q41 : 41 < NN ∧ sT 41 = 100 ∧ sN 41 = 1167 := by decide
  have w2 : Cond.fieldLink RX10 13 "TriggerNetworkModel" "told" "[I" ∈ wsX10_passes := x_w 2 rfl
  have q42 : 42 < NN ∧ sT 42 = 100 ∧ sN 42 = 30 := by decide
  unfold f_X10_passes at h
  refine lv_aload_n X.1.1 X.1.2.1 dX10_passes_0 rfl (lv_at hl 0 rfl) ?_
  refine x_getr X hG 14 1 40 1 (inC := iX10) rfl q40.1 q40.2 ⟨by decide, by decide, by decide, rfl, by decide, by decide⟩ w1 dX10_passes_1 ?_
  refine x_iconst X dX10_passes_4 ?_
  refine lv_dup2_11 X.1.1 X.1.2.1 dX10_passes_5 rfl rfl ?_
  refine x_iald X hG q41.1 q41.2.1 (n := 1167) q41.2.2 ⟨by decide, by decide⟩ (by decide) dX10_passes_6 ?_
  refine x_iconst X dX10_passes_7 ?_
  refine x_iadd X dX10_passes_8 ?_
  refine x_iast X hG hS q41.1 q41.2.1 (n := 1167) q41.2.2 ⟨by decide, by decide⟩ (by decide) dX10_passes_9 (fun H locs hG hS => ?_)
  obtain ⟨u1, eu1, h⟩ := xlet_of h
  replace hG : G t u1 H := by rw [eu1]; exact hG
  refine x_iconst X dX10_passes_10 ?_
  refine lv_istore_n (lv' := [(1, .int (iI 0)), (0, .ref (t.2.2.1 40))]) X.1.1 X.1.2.1 dX10_passes_11 rfl hl (by decide) rfl (fun ls hl => ?_)
  obtain ⟨j2, ej2, h⟩ := xlet_of h
  have Jj2 : ∀ (u3 : uS), j2 u3 = some (r, u') → xG p l e rX10_passes s m args below meth c t Q 3 0 0 53 u3 [(0, .ref (t.2.2.1 40))] [] := by
      intro u3 h H locs ls hG hS hl
      replace h := (congrFun ej2 u3).symm.trans h
      refine x_iconst X dX10_passes_53 ?_
      refine lv_istore_n (lv' := [(1, .int (iI 0)), (0, .ref (t.2.2.1 40))]) X.1.1 X.1.2.1 dX10_passes_54 rfl hl (by decide) rfl (fun ls hl => ?_)
      have Lgo4 : ∀ (n : Nat) (x1_5 : Int) (u6 : uS), xl2 (s_X10_passes_55) n x1_5 u6 = some (r, u') → xG p l e rX10_passes s m args below meth c t Q 3 0 0 55 u6 [(1, .int (iI x1_5)), (0, .ref (t.2.2.1 40))] [] := by
        intro n x1_5 u6 h
        refine xl2_W (F := s_X10_passes_55) (fun x1_5 u6 q => q = (r, u') → xG p l e rX10_passes s m args below meth c t Q 3 0 0 55 u6 [(1, .int (iI x1_5)), (0, .ref (t.2.2.1 40))] []) ?_ n x1_5 u6 _ h rfl
        intro go4 igo4 x1_5 u6 q h hq H locs ls hG hS hl
        subst hq
        unfold s_X10_passes_55 at h
        refine lv_iload_n X.1.1 X.1.2.1 dX10_passes_55 rfl (lv_at hl 0 rfl) ?_
        refine lv_aload_n X.1.1 X.1.2.1 dX10_passes_56 rfl (lv_at hl 1 rfl) ?_
        refine x_getr X hG 14 2 40 2 (inC := iX10) rfl q40.1 q40.2 ⟨by decide, by decide, by decide, rfl, by decide, by decide⟩ w2 dX10_passes_57 ?_
        refine x_iconst X dX10_passes_60 ?_
        refine x_iald X hG q42.1 q42.2.1 (n := 30) q42.2.2 ⟨by decide, by decide⟩ (by decide) dX10_passes_61 ?_
        obtain ⟨g7, h⟩ := xgd_of h
        refine x_icmp_ge (tgt := 237) X g7.1 g7.2 dX10_passes_62 (by decide) (fun c8 => ?_) (fun c8 => ?_)
        · replace h := xif_t h c8
          cases h
          exact hret _ _ _ _ dX10_passes_237 hG hS
        · replace h := xif_f h c8
          refine lv_aload_n X.1.1 X.1.2.1 dX10_passes_65 rfl (lv_at hl 1 rfl) ?_
          refine x_getr X hG 14 1 40 1 (inC := iX10) rfl q40.1 q40.2 ⟨by decide, by decide, by decide, rfl, by decide, by decide⟩ w1 dX10_passes_66 ?_
          refine lv_iload_n X.1.1 X.1.2.1 dX10_passes_69 rfl (lv_at hl 0 rfl) ?_
          refine x_iconst X dX10_passes_70 ?_
          obtain ⟨v9, u10, hf, h⟩ := xbd_of h
          refine x_callSi0 X hG hS (c_X10_at l t _ _ _ _ _ hf) (va_cwS 2 X.1.2.2.2.2 gX10_passes_X10_at rfl rfl rfl hds_X10_at ⟨Nat.le_of_ble_eq_true rfl, Nat.le_of_ble_eq_true rfl⟩) (by rfl) hl.1 (Nat.le_of_ble_eq_true rfl) dX10_passes_71 ⟨by decide, by decide⟩ rfl (fun H locs hG hS => ?_)
          obtain ⟨g11, h⟩ := xgd_of h
          refine x_iald X hG q41.1 q41.2.1 (n := 1167) q41.2.2 g11 (by decide) dX10_passes_74 ?_
          refine x_iconst X dX10_passes_75 ?_
          obtain ⟨g12, h⟩ := xgd_of h
          refine x_icmp_ne (tgt := 171) X g12 ⟨by decide, by decide⟩ dX10_passes_76 (by decide) (fun c13 => ?_) (fun c13 => ?_)
          · replace h := xif_f h c13
            refine lv_aload_n X.1.1 X.1.2.1 dX10_passes_171 rfl (lv_at hl 1 rfl) ?_
            refine x_getr X hG 14 1 40 1 (inC := iX10) rfl q40.1 q40.2 ⟨by decide, by decide, by decide, rfl, by decide, by decide⟩ w1 dX10_passes_172 ?_
            refine x_iconst X dX10_passes_175 ?_
            refine x_iald X hG q41.1 q41.2.1 (n := 1167) q41.2.2 ⟨by decide, by decide⟩ (by decide) dX10_passes_176 ?_
            refine lv_aload_n X.1.1 X.1.2.1 dX10_passes_177 rfl (lv_at hl 1 rfl) ?_
            refine x_getr X hG 14 2 40 2 (inC := iX10) rfl q40.1 q40.2 ⟨by decide, by decide, by decide, rfl, by decide, by decide⟩ w2 dX10_passes_178 ?_
            refine x_bipush X dX10_passes_181 (by decide) ?_
            refine x_iald X hG q42.1 q42.2.1 (n := 30) q42.2.2 ⟨by decide, by decide⟩ (by decide) dX10_passes_183 ?_
            obtain ⟨g14, h⟩ := xgd_of h
            refine x_icmp_lt (tgt := 231) X g14.1 g14.2 dX10_passes_184 (by decide) (fun c15 => ?_) (fun c15 => ?_)
            · replace h := xif_t h c15
              refine lv_iinc (v := (iI (x1_5 + 1))) (lv' := [(1, .int (iI (x1_5 + 1))), (0, .ref (t.2.2.1 40))]) X.1.1 X.1.2.1 dX10_passes_231 hl (k := 0) rfl (iI_add _ _) (by decide) rfl (fun ls hl => ?_)
              refine lv_goto (tgt := 55) X.1.1 X.1.2.1 dX10_passes_234 (by decide) ?_
              exact igo4 _ _ _ h rfl _ _ _ hG hS (lv_sub hl [0, 1] rfl)
            · replace h := xif_f h c15
              refine lv_aload_n X.1.1 X.1.2.1 dX10_passes_187 rfl (lv_at hl 1 rfl) ?_
              refine x_getr X hG 14 1 40 1 (inC := iX10) rfl q40.1 q40.2 ⟨by decide, by decide, by decide, rfl, by decide, by decide⟩ w1 dX10_passes_188 ?_
              refine lv_iload_n X.1.1 X.1.2.1 dX10_passes_191 rfl (lv_at hl 0 rfl) ?_
              refine x_iconst X dX10_passes_192 ?_
              obtain ⟨v16, u17, hf, h⟩ := xbd_of h
              refine x_callSi0 X hG hS (c_X10_at l t _ _ _ _ _ hf) (va_cwS 2 X.1.2.2.2.2 gX10_passes_X10_at rfl rfl rfl hds_X10_at ⟨Nat.le_of_ble_eq_true rfl, Nat.le_of_ble_eq_true rfl⟩) (by rfl) hl.1 (Nat.le_of_ble_eq_true rfl) dX10_passes_193 ⟨by decide, by decide⟩ rfl (fun H locs hG hS => ?_)
              obtain ⟨g18, h⟩ := xgd_of h
              refine x_iald X hG q41.1 q41.2.1 (n := 1167) q41.2.2 g18 (by decide) dX10_passes_196 ?_
              obtain ⟨g19, h⟩ := xgd_of h
              refine x_if_ne (tgt := 231) X g19 dX10_passes_197 (by decide) (fun c20 => ?_) (fun c20 => ?_)
              · replace h := xif_f h c20
                refine lv_iinc (v := (iI (x1_5 + 1))) (lv' := [(1, .int (iI (x1_5 + 1))), (0, .ref (t.2.2.1 40))]) X.1.1 X.1.2.1 dX10_passes_231 hl (k := 0) rfl (iI_add _ _) (by decide) rfl (fun ls hl => ?_)
                refine lv_goto (tgt := 55) X.1.1 X.1.2.1 dX10_passes_234 (by decide) ?_
                exact igo4 _ _ _ h rfl _ _ _ hG hS (lv_sub hl [0, 1] rfl)
              · replace h := xif_t h c20
                refine lv_aload_n X.1.1 X.1.2.1 dX10_passes_200 rfl (lv_at hl 1 rfl) ?_
                refine x_getr X hG 14 1 40 1 (inC := iX10) rfl q40.1 q40.2 ⟨by decide, by decide, by decide, rfl, by decide, by decide⟩ w1 dX10_passes_201 ?_
                refine x_iconst X dX10_passes_204 ?_
                refine x_iald X hG q41.1 q41.2.1 (n := 1167) q41.2.2 ⟨by decide, by decide⟩ (by decide) dX10_passes_205 ?_
                refine x_bipush X dX10_passes_206 (by decide) ?_
                obtain ⟨g21, h⟩ := xgd_of h
                refine x_icmp_ge (tgt := 231) X g21 ⟨by decide, by decide⟩ dX10_passes_208 (by decide) (fun c22 => ?_) (fun c22 => ?_)
                · replace h := xif_t h c22
                  refine lv_iinc (v := (iI (x1_5 + 1))) (lv' := [(1, .int (iI (x1_5 + 1))), (0, .ref (t.2.2.1 40))]) X.1.1 X.1.2.1 dX10_passes_231 hl (k := 0) rfl (iI_add _ _) (by decide) rfl (fun ls hl => ?_)
                  refine lv_goto (tgt := 55) X.1.1 X.1.2.1 dX10_passes_234 (by decide) ?_
                  exact igo4 _ _ _ h rfl _ _ _ hG hS (lv_sub hl [0, 1] rfl)
                · replace h := xif_f h c22
                  refine lv_aload_n X.1.1 X.1.2.1 dX10_passes_211 rfl (lv_at hl 1 rfl) ?_
                  refine lv_iload_n X.1.1 X.1.2.1 dX10_passes_212 rfl (lv_at hl 0 rfl) ?_
                  obtain ⟨v23, u24, hf, h⟩ := xbd_of h
                  refine x_callVi0 X hG hS (c_X10_ratioOf l t _ _ _ _ hf) (cwV 1 X.1.2.2.2.2 gX10_passes_X10_ratioOf rfl rfl rfl hd_X10_ratioOf ⟨Nat.le_of_ble_eq_true rfl, Nat.le_of_ble_eq_true rfl⟩) q40.1 q40.2 rfl (by decide) (by rfl) hl.1 (Nat.le_of_ble_eq_true rfl) dX10_passes_213 ⟨by decide, by decide⟩ rfl (fun H locs hG hS => ?_)
                  refine lv_aload_n X.1.1 X.1.2.1 dX10_passes_216 rfl (lv_at hl 1 rfl) ?_
                  refine x_getr X hG 14 2 40 2 (inC := iX10) rfl q40.1 q40.2 ⟨by decide, by decide, by decide, rfl, by decide, by decide⟩ w2 dX10_passes_217 ?_
                  refine x_bipush X dX10_passes_220 (by decide) ?_
                  refine x_iald X hG q42.1 q42.2.1 (n := 30) q42.2.2 ⟨by decide, by decide⟩ (by decide) dX10_passes_222 ?_
                  obtain ⟨g25, h⟩ := xgd_of h
                  refine x_icmp_lt (tgt := 231) X g25.1 g25.2 dX10_passes_223 (by decide) (fun c26 => ?_) (fun c26 => ?_)
                  · replace h := xif_t h c26
                    refine lv_iinc (v := (iI (x1_5 + 1))) (lv' := [(1, .int (iI (x1_5 + 1))), (0, .ref (t.2.2.1 40))]) X.1.1 X.1.2.1 dX10_passes_231 hl (k := 0) rfl (iI_add _ _) (by decide) rfl (fun ls hl => ?_)
                    refine lv_goto (tgt := 55) X.1.1 X.1.2.1 dX10_passes_234 (by decide) ?_
                    exact igo4 _ _ _ h rfl _ _ _ hG hS (lv_sub hl [0, 1] rfl)
                  · replace h := xif_f h c26
                    refine lv_aload_n X.1.1 X.1.2.1 dX10_passes_226 rfl (lv_at hl 1 rfl) ?_
                    refine lv_iload_n X.1.1 X.1.2.1 dX10_passes_227 rfl (lv_at hl 0 rfl) ?_
                    obtain ⟨v27, u28, hf, h⟩ := xbd_of h
                    refine x_callVv0 X hG hS (c_X10_picks l t _ _ _ _ hf) (cwV 1 X.1.2.2.2.2 gX10_passes_X10_picks rfl rfl rfl hd_X10_picks ⟨Nat.le_of_ble_eq_true rfl, Nat.le_of_ble_eq_true rfl⟩) q40.1 q40.2 rfl (by decide) (by rfl) hl.1 (Nat.le_of_ble_eq_true rfl) dX10_passes_228 ⟨by decide, by decide⟩ rfl (fun H locs hG hS => ?_)
                    refine lv_iinc (v := (iI (x1_5 + 1))) (lv' := [(1, .int (iI (x1_5 + 1))), (0, .ref (t.2.2.1 40))]) X.1.1 X.1.2.1 dX10_passes_231 hl (k := 0) rfl (iI_add _ _) (by decide) rfl (fun ls hl => ?_)
                    refine lv_goto (tgt := 55) X.1.1 X.1.2.1 dX10_passes_234 (by decide) ?_
                    exact igo4 _ _ _ h rfl _ _ _ hG hS (lv_sub hl [0, 1] rfl)
          · replace h := xif_t h c13
            refine lv_aload_n X.1.1 X.1.2.1 dX10_passes_79 rfl (lv_at hl 1 rfl) ?_
            refine x_getr X hG 14 1 40 1 (inC := iX10) rfl q40.1 q40.2 ⟨by decide, by decide, by decide, rfl, by decide, by decide⟩ w1 dX10_passes_80 ?_
            refine lv_iload_n X.1.1 X.1.2.1 dX10_passes_83 rfl (lv_at hl 0 rfl) ?_
            refine x_iconst X dX10_passes_84 ?_
            obtain ⟨v29, u30, hf, h⟩ := xbd_of h
            refine x_callSi0 X hG hS (c_X10_at l t _ _ _ _ _ hf) (va_cwS 2 X.1.2.2.2.2 gX10_passes_X10_at rfl rfl rfl hds_X10_at ⟨Nat.le_of_ble_eq_true rfl, Nat.le_of_ble_eq_true rfl⟩) (by rfl) hl.1 (Nat.le_of_ble_eq_true rfl) dX10_passes_85 ⟨by decide, by decide⟩ rfl (fun H locs hG hS => ?_)
            obtain ⟨g31, h⟩ := xgd_of h
            refine x_iald X hG q41.1 q41.2.1 (n := 1167) q41.2.2 g31 (by decide) dX10_passes_88 ?_
            refine x_iconst X dX10_passes_89 ?_
            obtain ⟨v32, u33, hf, h⟩ := xbd_of h
            refine x_callSi0 X hG hS (c_X10_of l t _ _ _ _ _ hf) (va_cwS 2 X.1.2.2.2.2 gX10_passes_X10_of rfl rfl rfl hds_X10_of ⟨Nat.le_of_ble_eq_true rfl, Nat.le_of_ble_eq_true rfl⟩) (by rfl) hl.1 (Nat.le_of_ble_eq_true rfl) dX10_passes_90 ⟨by decide, by decide⟩ rfl (fun H locs hG hS => ?_)
            refine lv_istore_n (lv' := [(2, .int (iI v32)), (1, .int (iI x1_5)), (0, .ref (t.2.2.1 40))]) X.1.1 X.1.2.1 dX10_passes_93 rfl hl (by decide) rfl (fun ls hl => ?_)
            refine lv_aload_n X.1.1 X.1.2.1 dX10_passes_94 rfl (lv_at hl 2 rfl) ?_
            refine x_getr X hG 14 1 40 1 (inC := iX10) rfl q40.1 q40.2 ⟨by decide, by decide, by decide, rfl, by decide, by decide⟩ w1 dX10_passes_95 ?_
            refine lv_iload_n X.1.1 X.1.2.1 dX10_passes_98 rfl (lv_at hl 0 rfl) ?_
            refine lv_aload_n X.1.1 X.1.2.1 dX10_passes_99 rfl (lv_at hl 2 rfl) ?_
            refine x_getr X hG 14 1 40 1 (inC := iX10) rfl q40.1 q40.2 ⟨by decide, by decide, by decide, rfl, by decide, by decide⟩ w1 dX10_passes_100 ?_
            refine lv_iload_n X.1.1 X.1.2.1 dX10_passes_103 rfl (lv_at hl 1 rfl) ?_
            refine x_iconst X dX10_passes_104 ?_
            obtain ⟨v34, u35, hf, h⟩ := xbd_of h
            refine x_callSi0 X hG hS (c_X10_at l t _ _ _ _ _ hf) (va_cwS 2 X.1.2.2.2.2 gX10_passes_X10_at rfl rfl rfl hds_X10_at ⟨Nat.le_of_ble_eq_true rfl, Nat.le_of_ble_eq_true rfl⟩) (by rfl) hl.1 (Nat.le_of_ble_eq_true rfl) dX10_passes_105 ⟨by decide, by decide⟩ rfl (fun H locs hG hS => ?_)
            obtain ⟨g36, h⟩ := xgd_of h
            refine x_iald X hG q41.1 q41.2.1 (n := 1167) q41.2.2 g36 (by decide) dX10_passes_108 ?_
            refine lv_aload_n X.1.1 X.1.2.1 dX10_passes_109 rfl (lv_at hl 2 rfl) ?_
            refine x_getr X hG 14 1 40 1 (inC := iX10) rfl q40.1 q40.2 ⟨by decide, by decide, by decide, rfl, by decide, by decide⟩ w1 dX10_passes_110 ?_
            refine lv_iload_n X.1.1 X.1.2.1 dX10_passes_113 rfl (lv_at hl 0 rfl) ?_
            obtain ⟨g37, h⟩ := xgd_of h
            refine x_iald X hG q41.1 q41.2.1 (n := 1167) q41.2.2 g37 (by decide) dX10_passes_114 ?_
            obtain ⟨g38, h⟩ := xgd_of h
            obtain ⟨j39, ej39, h⟩ := xlet_of h
            have Jj39 : ∀ (s40 : Int) (u41 : uS), j39 s40 u41 = some (r, u') → xG p l e rX10_passes s m args below meth c t Q 3 0 0 137 u41 [(0, .ref (t.2.2.1 40)), (1, .int (iI x1_5))] [.int (iI s40), .int (iI v32), .ref (t.2.2.1 41)] := by
                intro s40 u41 h H locs ls hG hS hl
                replace h := (congrFun (congrFun ej39 s40) u41).symm.trans h
                obtain ⟨g42, h⟩ := xgd_of h
                refine x_iast X hG hS q41.1 q41.2.1 (n := 1167) q41.2.2 g42 (by decide) dX10_passes_137 (fun H locs hG hS => ?_)
                obtain ⟨u43, eu43, h⟩ := xlet_of h
                replace hG : G t u43 H := by rw [eu43]; exact hG
                refine lv_aload_n X.1.1 X.1.2.1 dX10_passes_138 rfl (lv_at hl 0 rfl) ?_
                refine x_getr X hG 14 1 40 1 (inC := iX10) rfl q40.1 q40.2 ⟨by decide, by decide, by decide, rfl, by decide, by decide⟩ w1 dX10_passes_139 ?_
                refine lv_iload_n X.1.1 X.1.2.1 dX10_passes_142 rfl (lv_at hl 1 rfl) ?_
                refine x_iconst X dX10_passes_143 ?_
                obtain ⟨v44, u45, hf, h⟩ := xbd_of h
                refine x_callSi0 X hG hS (c_X10_at l t _ _ _ _ _ hf) (va_cwS 2 X.1.2.2.2.2 gX10_passes_X10_at rfl rfl rfl hds_X10_at ⟨Nat.le_of_ble_eq_true rfl, Nat.le_of_ble_eq_true rfl⟩) (by rfl) hl.1 (Nat.le_of_ble_eq_true rfl) dX10_passes_144 ⟨by decide, by decide⟩ rfl (fun H locs hG hS => ?_)
                refine lv_aload_n X.1.1 X.1.2.1 dX10_passes_147 rfl (lv_at hl 0 rfl) ?_
                refine lv_iload_n X.1.1 X.1.2.1 dX10_passes_148 rfl (lv_at hl 1 rfl) ?_
                obtain ⟨v46, u47, hf, h⟩ := xbd_of h
                refine x_callVi0 X hG hS (c_X10_ratioOf l t _ _ _ _ hf) (cwV 1 X.1.2.2.2.2 gX10_passes_X10_ratioOf rfl rfl rfl hd_X10_ratioOf ⟨Nat.le_of_ble_eq_true rfl, Nat.le_of_ble_eq_true rfl⟩) q40.1 q40.2 rfl (by decide) (by rfl) hl.1 (Nat.le_of_ble_eq_true rfl) dX10_passes_149 ⟨by decide, by decide⟩ rfl (fun H locs hG hS => ?_)
                refine lv_aload_n X.1.1 X.1.2.1 dX10_passes_152 rfl (lv_at hl 0 rfl) ?_
                refine x_getr X hG 14 2 40 2 (inC := iX10) rfl q40.1 q40.2 ⟨by decide, by decide, by decide, rfl, by decide, by decide⟩ w2 dX10_passes_153 ?_
                refine x_bipush X dX10_passes_156 (by decide) ?_
                refine x_iald X hG q42.1 q42.2.1 (n := 30) q42.2.2 ⟨by decide, by decide⟩ (by decide) dX10_passes_158 ?_
                obtain ⟨g48, h⟩ := xgd_of h
                obtain ⟨j49, ej49, h⟩ := xlet_of h
                have Jj49 : ∀ (s50 : Int) (u51 : uS), j49 s50 u51 = some (r, u') → xG p l e rX10_passes s m args below meth c t Q 3 0 0 167 u51 [(0, .ref (t.2.2.1 40)), (1, .int (iI x1_5))] [.int (iI s50), .int (iI v44), .ref (t.2.2.1 41)] := by
                    intro s50 u51 h H locs ls hG hS hl
                    replace h := (congrFun (congrFun ej49 s50) u51).symm.trans h
                    obtain ⟨g52, h⟩ := xgd_of h
                    refine x_iast X hG hS q41.1 q41.2.1 (n := 1167) q41.2.2 g52 (by decide) dX10_passes_167 (fun H locs hG hS => ?_)
                    obtain ⟨u53, eu53, h⟩ := xlet_of h
                    replace hG : G t u53 H := by rw [eu53]; exact hG
                    refine lv_goto (tgt := 231) X.1.1 X.1.2.1 dX10_passes_168 (by decide) ?_
                    refine lv_iinc (v := (iI (x1_5 + 1))) (lv' := [(1, .int (iI (x1_5 + 1))), (0, .ref (t.2.2.1 40))]) X.1.1 X.1.2.1 dX10_passes_231 hl (k := 1) rfl (iI_add _ _) (by decide) rfl (fun ls hl => ?_)
                    refine lv_goto (tgt := 55) X.1.1 X.1.2.1 dX10_passes_234 (by decide) ?_
                    exact igo4 _ _ _ h rfl _ _ _ hG hS (lv_sub hl [0, 1] rfl)
                refine x_icmp_ge (tgt := 166) X g48.1 g48.2 dX10_passes_159 (by decide) (fun c54 => ?_) (fun c54 => ?_)
                · replace h := xif_t h c54
                  refine x_iconst X dX10_passes_166 ?_
                  exact Jj49 _ _ h _ _ _ hG hS (lv_sub hl [0, 1] rfl)
                · replace h := xif_f h c54
                  refine x_iconst X dX10_passes_162 ?_
                  refine lv_goto (tgt := 167) X.1.1 X.1.2.1 dX10_passes_163 (by decide) ?_
                  exact Jj49 _ _ h _ _ _ hG hS (lv_sub hl [0, 1] rfl)
            refine x_icmp_le (tgt := 131) X g38.1 g38.2 dX10_passes_115 (by decide) (fun c55 => ?_) (fun c55 => ?_)
            · replace h := xif_t h c55
              refine lv_aload_n X.1.1 X.1.2.1 dX10_passes_131 rfl (lv_at hl 2 rfl) ?_
              refine x_getr X hG 14 1 40 1 (inC := iX10) rfl q40.1 q40.2 ⟨by decide, by decide, by decide, rfl, by decide, by decide⟩ w1 dX10_passes_132 ?_
              refine lv_iload_n X.1.1 X.1.2.1 dX10_passes_135 rfl (lv_at hl 0 rfl) ?_
              obtain ⟨g56, h⟩ := xgd_of h
              refine x_iald X hG q41.1 q41.2.1 (n := 1167) q41.2.2 g56 (by decide) dX10_passes_136 ?_
              exact Jj39 _ _ h _ _ _ hG hS (lv_sub hl [2, 1] rfl)
            · replace h := xif_f h c55
              refine lv_aload_n X.1.1 X.1.2.1 dX10_passes_118 rfl (lv_at hl 2 rfl) ?_
              refine x_getr X hG 14 1 40 1 (inC := iX10) rfl q40.1 q40.2 ⟨by decide, by decide, by decide, rfl, by decide, by decide⟩ w1 dX10_passes_119 ?_
              refine lv_iload_n X.1.1 X.1.2.1 dX10_passes_122 rfl (lv_at hl 1 rfl) ?_
              refine x_iconst X dX10_passes_123 ?_
              obtain ⟨v57, u58, hf, h⟩ := xbd_of h
              refine x_callSi0 X hG hS (c_X10_at l t _ _ _ _ _ hf) (va_cwS 2 X.1.2.2.2.2 gX10_passes_X10_at rfl rfl rfl hds_X10_at ⟨Nat.le_of_ble_eq_true rfl, Nat.le_of_ble_eq_true rfl⟩) (by rfl) hl.1 (Nat.le_of_ble_eq_true rfl) dX10_passes_124 ⟨by decide, by decide⟩ rfl (fun H locs hG hS => ?_)
              obtain ⟨g59, h⟩ := xgd_of h
              refine x_iald X hG q41.1 q41.2.1 (n := 1167) q41.2.2 g59 (by decide) dX10_passes_127 ?_
              refine lv_goto (tgt := 137) X.1.1 X.1.2.1 dX10_passes_128 (by decide) ?_
              exact Jj39 _ _ h _ _ _ hG hS (lv_sub hl [2, 1] rfl)
      exact Lgo4 FU _ _ h _ _ _ hG hS (lv_sub hl [0, 1] rfl)
  have Lgo60 : ∀ (n : Nat) (x1_61 : Int) (u62 : uS), xl2 (s_X10_passes_12 j2) n x1_61 u62 = some (r, u') → xG p l e rX10_passes s m args below meth c t Q 3 0 0 12 u62 [(1, .int (iI x1_61)), (0, .ref (t.2.2.1 40))] [] := by
    intro n x1_61 u62 h
    refine xl2_W (F := s_X10_passes_12 j2) (fun x1_61 u62 q => q = (r, u') → xG p l e rX10_passes s m args below meth c t Q 3 0 0 12 u62 [(1, .int (iI x1_61)), (0, .ref (t.2.2.1 40))] []) ?_ n x1_61 u62 _ h rfl
    intro go60 igo60 x1_61 u62 q h hq H locs ls hG hS hl
    subst hq
    unfold s_X10_passes_12 at h
    refine lv_iload_n X.1.1 X.1.2.1 dX10_passes_12 rfl (lv_at hl 0 rfl) ?_
    refine lv_aload_n X.1.1 X.1.2.1 dX10_passes_13 rfl (lv_at hl 1 rfl) ?_
    refine x_getr X hG 14 2 40 2 (inC := iX10) rfl q40.1 q40.2 ⟨by decide, by decide, by decide, rfl, by decide, by decide⟩ w2 dX10_passes_14 ?_
    refine x_iconst X dX10_passes_17 ?_
    refine x_iald X hG q42.1 q42.2.1 (n := 30) q42.2.2 ⟨by decide, by decide⟩ (by decide) dX10_passes_18 ?_
    obtain ⟨g63, h⟩ := xgd_of h
    refine x_icmp_ge (tgt := 53) X g63.1 g63.2 dX10_passes_19 (by decide) (fun c64 => ?_) (fun c64 => ?_)
    · replace h := xif_t h c64
      exact Jj2 _ h _ _ _ hG hS (lv_sub hl [1] rfl)
    · replace h := xif_f h c64
      refine lv_aload_n X.1.1 X.1.2.1 dX10_passes_22 rfl (lv_at hl 1 rfl) ?_
      refine x_getr X hG 14 1 40 1 (inC := iX10) rfl q40.1 q40.2 ⟨by decide, by decide, by decide, rfl, by decide, by decide⟩ w1 dX10_passes_23 ?_
      refine lv_iload_n X.1.1 X.1.2.1 dX10_passes_26 rfl (lv_at hl 0 rfl) ?_
      refine lv_aload_n X.1.1 X.1.2.1 dX10_passes_27 rfl (lv_at hl 1 rfl) ?_
      refine x_getr X hG 14 1 40 1 (inC := iX10) rfl q40.1 q40.2 ⟨by decide, by decide, by decide, rfl, by decide, by decide⟩ w1 dX10_passes_28 ?_
      refine x_iconst X dX10_passes_31 ?_
      refine x_iald X hG q41.1 q41.2.1 (n := 1167) q41.2.2 ⟨by decide, by decide⟩ (by decide) dX10_passes_32 ?_
      obtain ⟨v65, u66, hf, h⟩ := xbd_of h
      refine x_callSi0 X hG hS (c_X10_ringAt l t _ _ _ _ _ hf) (va_cwS 2 X.1.2.2.2.2 gX10_passes_X10_ringAt rfl rfl rfl hds_X10_ringAt ⟨Nat.le_of_ble_eq_true rfl, Nat.le_of_ble_eq_true rfl⟩) (by rfl) hl.1 (Nat.le_of_ble_eq_true rfl) dX10_passes_33 ⟨by decide, by decide⟩ rfl (fun H locs hG hS => ?_)
      refine lv_aload_n X.1.1 X.1.2.1 dX10_passes_36 rfl (lv_at hl 1 rfl) ?_
      refine x_getr X hG 14 1 40 1 (inC := iX10) rfl q40.1 q40.2 ⟨by decide, by decide, by decide, rfl, by decide, by decide⟩ w1 dX10_passes_37 ?_
      refine lv_iload_n X.1.1 X.1.2.1 dX10_passes_40 rfl (lv_at hl 0 rfl) ?_
      refine x_iconst X dX10_passes_41 ?_
      obtain ⟨v67, u68, hf, h⟩ := xbd_of h
      refine x_callSi0 X hG hS (c_X10_at l t _ _ _ _ _ hf) (va_cwS 2 X.1.2.2.2.2 gX10_passes_X10_at rfl rfl rfl hds_X10_at ⟨Nat.le_of_ble_eq_true rfl, Nat.le_of_ble_eq_true rfl⟩) (by rfl) hl.1 (Nat.le_of_ble_eq_true rfl) dX10_passes_42 ⟨by decide, by decide⟩ rfl (fun H locs hG hS => ?_)
      obtain ⟨g69, h⟩ := xgd_of h
      refine x_iald X hG q41.1 q41.2.1 (n := 1167) q41.2.2 g69 (by decide) dX10_passes_45 ?_
      obtain ⟨g70, h⟩ := xgd_of h
      refine x_iast X hG hS q41.1 q41.2.1 (n := 1167) q41.2.2 g70 (by decide) dX10_passes_46 (fun H locs hG hS => ?_)
      obtain ⟨u71, eu71, h⟩ := xlet_of h
      replace hG : G t u71 H := by rw [eu71]; exact hG
      refine lv_iinc (v := (iI (x1_61 + 1))) (lv' := [(1, .int (iI (x1_61 + 1))), (0, .ref (t.2.2.1 40))]) X.1.1 X.1.2.1 dX10_passes_47 hl (k := 0) rfl (iI_add _ _) (by decide) rfl (fun ls hl => ?_)
      refine lv_goto (tgt := 12) X.1.1 X.1.2.1 dX10_passes_50 (by decide) ?_
      exact igo60 _ _ _ h rfl _ _ _ hG hS (lv_sub hl [0, 1] rfl)
  exact Lgo60 FU _ _ h _ _ _ hG hS (lv_sub hl [0, 1] rfl)
theorem hd_X10_passes : yX10_passes.cls = RX10 ∧ yX10_passes.cls ≠ "java/lang/invoke/MethodHandle" ∧ yX10_passes.cls ≠ "java/lang/invoke/VarHandle" ∧ (parseMethodDescriptor yX10_passes.desc).map (fun d => d.parameters.length) = some 0 := by decide +kernel
abbrev rX10_delayOf : Room := { frames := 2, cells := 0, slots := 0, locals := 47 }
set_option maxRecDepth 100000 in
set_option maxHeartbeats 8000000 in
theorem c_X10_delayOf (l : Launch) (t : gP) (x1 : Int) (x2 : Int) (u : uS) (r : Int) (u' : uS) (h : f_X10_delayOf x1 x2 u = some (r, u')) : xMi l yX10_delayOf wsX10_delayOf rX10_delayOf t [.ref (t.2.2.1 40), .int (iI x1), .int (iI x2)] u r u' 0 0 := by
  refine x_ofWi (cc := cX10_delayOf) (maxL := 3) (ret := .int) (own := RX10) (by decide) rfl rfl (Nat.le_of_ble_eq_true rfl) ?_
  intro p e s m args below meth c Q X hret H locs ls hG hS hl
  replace hl : lv_has ls 3 [(0, .ref (t.2.2.1 40)), (1, .int (iI x1)), (2, .int (iI x2))] := hl
  have q40 : 40 < NN ∧ sT 40 = 14 := by decide
  have iX10 : ∀ w ∈ wsX100, w ∈ wsX10_delayOf := by decide +kernel
  have w1 : Cond.fieldLink RX10 7 "TriggerNetworkModel" "now" "[I" ∈ wsX10_delayOf := x_w 1 rfl
  have q41 : 41 < NN ∧ sT 41 = 100 ∧ sN 41 = 1167 := by decide
  unfold f_X10_delayOf at h
  refine lv_aload_n X.1.1 X.1.2.1 dX10_delayOf_0 rfl (lv_at hl 0 rfl) ?_
  refine x_getr X hG 14 1 40 1 (inC := iX10) rfl q40.1 q40.2 ⟨by decide, by decide, by decide, rfl, by decide, by decide⟩ w1 dX10_delayOf_1 ?_
  refine lv_iload_n X.1.1 X.1.2.1 dX10_delayOf_4 rfl (lv_at hl 2 rfl) ?_
  refine x_iconst X dX10_delayOf_5 ?_
  obtain ⟨v1, u2, hf, h⟩ := xbd_of h
  refine x_callSi0 X hG hS (c_X10_of l t _ _ _ _ _ hf) (va_cwS 2 X.1.2.2.2.2 gX10_delayOf_X10_of rfl rfl rfl hds_X10_of ⟨Nat.le_of_ble_eq_true rfl, Nat.le_of_ble_eq_true rfl⟩) (by rfl) hl.1 (Nat.le_of_ble_eq_true rfl) dX10_delayOf_6 ⟨by decide, by decide⟩ rfl (fun H locs hG hS => ?_)
  obtain ⟨g3, h⟩ := xgd_of h
  refine x_iald X hG q41.1 q41.2.1 (n := 1167) q41.2.2 g3 (by decide) dX10_delayOf_9 ?_
  refine lv_aload_n X.1.1 X.1.2.1 dX10_delayOf_10 rfl (lv_at hl 0 rfl) ?_
  refine lv_aload_n X.1.1 X.1.2.1 dX10_delayOf_11 rfl (lv_at hl 0 rfl) ?_
  refine lv_iload_n X.1.1 X.1.2.1 dX10_delayOf_12 rfl (lv_at hl 1 rfl) ?_
  refine lv_aload_n X.1.1 X.1.2.1 dX10_delayOf_13 rfl (lv_at hl 0 rfl) ?_
  refine x_getr X hG 14 1 40 1 (inC := iX10) rfl q40.1 q40.2 ⟨by decide, by decide, by decide, rfl, by decide, by decide⟩ w1 dX10_delayOf_14 ?_
  refine lv_iload_n X.1.1 X.1.2.1 dX10_delayOf_17 rfl (lv_at hl 2 rfl) ?_
  refine x_iconst X dX10_delayOf_18 ?_
  obtain ⟨v4, u5, hf, h⟩ := xbd_of h
  refine x_callSi0 X hG hS (c_X10_of l t _ _ _ _ _ hf) (va_cwS 2 X.1.2.2.2.2 gX10_delayOf_X10_of rfl rfl rfl hds_X10_of ⟨Nat.le_of_ble_eq_true rfl, Nat.le_of_ble_eq_true rfl⟩) (by rfl) hl.1 (Nat.le_of_ble_eq_true rfl) dX10_delayOf_19 ⟨by decide, by decide⟩ rfl (fun H locs hG hS => ?_)
  obtain ⟨g6, h⟩ := xgd_of h
  refine x_iald X hG q41.1 q41.2.1 (n := 1167) q41.2.2 g6 (by decide) dX10_delayOf_22 ?_
  obtain ⟨v7, u8, hf, h⟩ := xbd_of h
  refine x_callVi0 X hG hS (c_X10_nodeApart l t _ _ _ _ _ hf) (cwV 2 X.1.2.2.2.2 gX10_delayOf_X10_nodeApart rfl rfl rfl hd_X10_nodeApart ⟨Nat.le_of_ble_eq_true rfl, Nat.le_of_ble_eq_true rfl⟩) q40.1 q40.2 rfl (by decide) (by rfl) hl.1 (Nat.le_of_ble_eq_true rfl) dX10_delayOf_23 ⟨by decide, by decide⟩ rfl (fun H locs hG hS => ?_)
  obtain ⟨v9, u10, hf, h⟩ := xbd_of h
  refine x_callVi0 X hG hS (c_X10_timeFor l t _ _ _ _ hf) (cwV 1 X.1.2.2.2.2 gX10_delayOf_X10_timeFor rfl rfl rfl hd_X10_timeFor ⟨Nat.le_of_ble_eq_true rfl, Nat.le_of_ble_eq_true rfl⟩) q40.1 q40.2 rfl (by decide) (by rfl) hl.1 (Nat.le_of_ble_eq_true rfl) dX10_delayOf_26 ⟨by decide, by decide⟩ rfl (fun H locs hG hS => ?_)
  refine x_isub X dX10_delayOf_29 ?_
  cases h
  exact hret _ _ _ _ dX10_delayOf_30 rfl hG hS
theorem hd_X10_delayOf : yX10_delayOf.cls = RX10 ∧ yX10_delayOf.cls ≠ "java/lang/invoke/MethodHandle" ∧ yX10_delayOf.cls ≠ "java/lang/invoke/VarHandle" ∧ (parseMethodDescriptor yX10_delayOf.desc).map (fun d => d.parameters.length) = some 2 := by decide +kernel
abbrev rX10_originOf : Room := { frames := 3, cells := 0, slots := 0, locals := 69 }
set_option maxRecDepth 100000 in
set_option maxHeartbeats 8000000 in
theorem c_X10_originOf (l : Launch) (t : gP) (x1 : Int) (x2 : Int) (u : uS) (r : Int) (u' : uS) (h : f_X10_originOf x1 x2 u = some (r, u')) : xMi l yX10_originOf wsX10_originOf rX10_originOf t [.ref (t.2.2.1 40), .int (iI x1), .int (iI x2)] u r u' 0 0 := by
  refine x_ofWi (cc := cX10_originOf) (maxL := 5) (ret := .int) (own := RX10) (by decide) rfl rfl (Nat.le_of_ble_eq_true rfl) ?_
  intro p e s m args below meth c Q X hret H locs ls hG hS hl
  replace hl : lv_has ls 5 [(0, .ref (t.2.2.1 40)), (1, .int (iI x1)), (2, .int (iI x2))] := hl
  have q40 : 40 < NN ∧ sT 40 = 14 := by decide
  have iX10 : ∀ w ∈ wsX100, w ∈ wsX10_originOf := by decide +kernel
  have w1 : Cond.fieldLink RX10 7 "TriggerNetworkModel" "now" "[I" ∈ wsX10_originOf := x_w 1 rfl
  have q41 : 41 < NN ∧ sT 41 = 100 ∧ sN 41 = 1167 := by decide
  unfold f_X10_originOf at h
  refine x_iconst X dX10_originOf_0 ?_
  refine lv_istore_n (lv' := [(3, .int (iI 0)), (0, .ref (t.2.2.1 40)), (1, .int (iI x1)), (2, .int (iI x2))]) X.1.1 X.1.2.1 dX10_originOf_1 rfl hl (by decide) rfl (fun ls hl => ?_)
  refine x_iconst X dX10_originOf_2 ?_
  refine lv_istore (lv' := [(4, .int (iI 0)), (3, .int (iI 0)), (0, .ref (t.2.2.1 40)), (1, .int (iI x1)), (2, .int (iI x2))]) X.1.1 X.1.2.1 dX10_originOf_3 hl (by decide) rfl (fun ls hl => ?_)
  obtain ⟨j1, ej1, h⟩ := xlet_of h
  have Jj1 : ∀ (x3_2 : Int) (u3 : uS), j1 x3_2 u3 = some (r, u') → xG p l e rX10_originOf s m args below meth c t Q 5 0 0 51 u3 [(0, .ref (t.2.2.1 40)), (2, .int (iI x2)), (3, .int (iI x3_2))] [] := by
      intro x3_2 u3 h H locs ls hG hS hl
      replace h := (congrFun (congrFun ej1 x3_2) u3).symm.trans h
      refine lv_iload_n X.1.1 X.1.2.1 dX10_originOf_51 rfl (lv_at hl 2 rfl) ?_
      refine lv_aload_n X.1.1 X.1.2.1 dX10_originOf_52 rfl (lv_at hl 0 rfl) ?_
      refine lv_iload_n X.1.1 X.1.2.1 dX10_originOf_53 rfl (lv_at hl 1 rfl) ?_
      obtain ⟨v4, u5, hf, h⟩ := xbd_of h
      refine x_callVi0 X hG hS (c_X10_picksOf l t _ _ _ _ hf) (cwV 1 X.1.2.2.2.2 gX10_originOf_X10_picksOf rfl rfl rfl hd_X10_picksOf ⟨Nat.le_of_ble_eq_true rfl, Nat.le_of_ble_eq_true rfl⟩) q40.1 q40.2 rfl (by decide) (by rfl) hl.1 (Nat.le_of_ble_eq_true rfl) dX10_originOf_54 ⟨by decide, by decide⟩ rfl (fun H locs hG hS => ?_)
      obtain ⟨g6, h⟩ := xgd_of h
      refine x_idiv X g6.1 g6.2.1 g6.2.2 dX10_originOf_57 ?_
      cases h
      exact hret _ _ _ _ dX10_originOf_58 rfl hG hS
  have Lgo7 : ∀ (n : Nat) (x3_8 : Int) (x4_9 : Int) (u10 : uS), xl3 (s_X10_originOf_5 j1 x2 x1) n x3_8 x4_9 u10 = some (r, u') → xG p l e rX10_originOf s m args below meth c t Q 5 0 0 5 u10 [(3, .int (iI x3_8)), (4, .int (iI x4_9)), (0, .ref (t.2.2.1 40)), (1, .int (iI x1)), (2, .int (iI x2))] [] := by
    intro n x3_8 x4_9 u10 h
    refine xl3_W (F := s_X10_originOf_5 j1 x2 x1) (fun x3_8 x4_9 u10 q => q = (r, u') → xG p l e rX10_originOf s m args below meth c t Q 5 0 0 5 u10 [(3, .int (iI x3_8)), (4, .int (iI x4_9)), (0, .ref (t.2.2.1 40)), (1, .int (iI x1)), (2, .int (iI x2))] []) ?_ n x3_8 x4_9 u10 _ h rfl
    intro go7 igo7 x3_8 x4_9 u10 q h hq H locs ls hG hS hl
    subst hq
    unfold s_X10_originOf_5 at h
    refine lv_iload X.1.1 X.1.2.1 dX10_originOf_5 (lv_at hl 1 rfl) ?_
    refine lv_aload_n X.1.1 X.1.2.1 dX10_originOf_7 rfl (lv_at hl 2 rfl) ?_
    refine x_getr X hG 14 1 40 1 (inC := iX10) rfl q40.1 q40.2 ⟨by decide, by decide, by decide, rfl, by decide, by decide⟩ w1 dX10_originOf_8 ?_
    refine x_iconst X dX10_originOf_11 ?_
    refine x_iald X hG q41.1 q41.2.1 (n := 1167) q41.2.2 ⟨by decide, by decide⟩ (by decide) dX10_originOf_12 ?_
    obtain ⟨g11, h⟩ := xgd_of h
    refine x_icmp_ge (tgt := 51) X g11.1 g11.2 dX10_originOf_13 (by decide) (fun c12 => ?_) (fun c12 => ?_)
    · replace h := xif_t h c12
      exact Jj1 _ _ h _ _ _ hG hS (lv_sub hl [2, 4, 0] rfl)
    · replace h := xif_f h c12
      refine lv_iload_n X.1.1 X.1.2.1 dX10_originOf_16 rfl (lv_at hl 0 rfl) ?_
      refine lv_aload_n X.1.1 X.1.2.1 dX10_originOf_17 rfl (lv_at hl 2 rfl) ?_
      refine x_getr X hG 14 1 40 1 (inC := iX10) rfl q40.1 q40.2 ⟨by decide, by decide, by decide, rfl, by decide, by decide⟩ w1 dX10_originOf_18 ?_
      refine lv_iload X.1.1 X.1.2.1 dX10_originOf_21 (lv_at hl 1 rfl) ?_
      refine x_iconst X dX10_originOf_23 ?_
      obtain ⟨v13, u14, hf, h⟩ := xbd_of h
      refine x_callSi0 X hG hS (c_X10_of l t _ _ _ _ _ hf) (va_cwS 2 X.1.2.2.2.2 gX10_originOf_X10_of rfl rfl rfl hds_X10_of ⟨Nat.le_of_ble_eq_true rfl, Nat.le_of_ble_eq_true rfl⟩) (by rfl) hl.1 (Nat.le_of_ble_eq_true rfl) dX10_originOf_24 ⟨by decide, by decide⟩ rfl (fun H locs hG hS => ?_)
      obtain ⟨g15, h⟩ := xgd_of h
      refine x_iald X hG q41.1 q41.2.1 (n := 1167) q41.2.2 g15 (by decide) dX10_originOf_27 ?_
      refine lv_iload_n X.1.1 X.1.2.1 dX10_originOf_28 rfl (lv_at hl 4 rfl) ?_
      obtain ⟨g16, h⟩ := xgd_of h
      obtain ⟨j17, ej17, h⟩ := xlet_of h
      have Jj17 : ∀ (s18 : Int) (u19 : uS), j17 s18 u19 = some (r, u') → xG p l e rX10_originOf s m args below meth c t Q 5 0 0 43 u19 [(0, .ref (t.2.2.1 40)), (1, .int (iI x1)), (2, .int (iI x2)), (4, .int (iI x4_9))] [.int (iI s18), .int (iI x3_8)] := by
          intro s18 u19 h H locs ls hG hS hl
          replace h := (congrFun (congrFun ej17 s18) u19).symm.trans h
          refine x_iadd X dX10_originOf_43 ?_
          refine x_name (fun x3_20 ex3_20 => ?_)
          replace h := xlet_at ex3_20 h
          refine lv_istore_n (lv' := [(3, .int (iI x3_20)), (0, .ref (t.2.2.1 40)), (1, .int (iI x1)), (2, .int (iI x2)), (4, .int (iI x4_9))]) X.1.1 X.1.2.1 dX10_originOf_44 rfl hl (by decide) rfl (fun ls hl => ?_)
          refine lv_iinc (v := (iI (x4_9 + 1))) (lv' := [(4, .int (iI (x4_9 + 1))), (3, .int (iI x3_20)), (0, .ref (t.2.2.1 40)), (1, .int (iI x1)), (2, .int (iI x2))]) X.1.1 X.1.2.1 dX10_originOf_45 hl (k := 4) rfl (iI_add _ _) (by decide) rfl (fun ls hl => ?_)
          refine lv_goto (tgt := 5) X.1.1 X.1.2.1 dX10_originOf_48 (by decide) ?_
          exact igo7 _ _ _ _ h rfl _ _ _ hG hS (lv_sub hl [1, 0, 2, 3, 4] rfl)
      refine x_icmp_ne (tgt := 42) X g16.1 g16.2 dX10_originOf_29 (by decide) (fun c21 => ?_) (fun c21 => ?_)
      · replace h := xif_f h c21
        refine x_iconst X dX10_originOf_42 ?_
        exact Jj17 _ _ h _ _ _ hG hS (lv_sub hl [2, 3, 4, 1] rfl)
      · replace h := xif_t h c21
        refine lv_aload_n X.1.1 X.1.2.1 dX10_originOf_32 rfl (lv_at hl 2 rfl) ?_
        refine lv_iload_n X.1.1 X.1.2.1 dX10_originOf_33 rfl (lv_at hl 3 rfl) ?_
        refine lv_iload X.1.1 X.1.2.1 dX10_originOf_34 (lv_at hl 1 rfl) ?_
        obtain ⟨v22, u23, hf, h⟩ := xbd_of h
        refine x_callVi0 X hG hS (c_X10_delayOf l t _ _ _ _ _ hf) (cwV 2 X.1.2.2.2.2 gX10_originOf_X10_delayOf rfl rfl rfl hd_X10_delayOf ⟨Nat.le_of_ble_eq_true rfl, Nat.le_of_ble_eq_true rfl⟩) q40.1 q40.2 rfl (by decide) (by rfl) hl.1 (Nat.le_of_ble_eq_true rfl) dX10_originOf_36 ⟨by decide, by decide⟩ rfl (fun H locs hG hS => ?_)
        refine lv_goto (tgt := 43) X.1.1 X.1.2.1 dX10_originOf_39 (by decide) ?_
        exact Jj17 _ _ h _ _ _ hG hS (lv_sub hl [2, 3, 4, 1] rfl)
  exact Lgo7 FU _ _ _ h _ _ _ hG hS (lv_sub hl [1, 0, 2, 3, 4] rfl)
theorem hd_X10_originOf : yX10_originOf.cls = RX10 ∧ yX10_originOf.cls ≠ "java/lang/invoke/MethodHandle" ∧ yX10_originOf.cls ≠ "java/lang/invoke/VarHandle" ∧ (parseMethodDescriptor yX10_originOf.desc).map (fun d => d.parameters.length) = some 2 := by decide +kernel
abbrev rX10_misfitOf : Room := { frames := 4, cells := 0, slots := 0, locals := 93 }
set_option maxRecDepth 100000 in
set_option maxHeartbeats 8000000 in
theorem c_X10_misfitOf (l : Launch) (t : gP) (x1 : Int) (x2 : Int) (u : uS) (r : Int) (u' : uS) (h : f_X10_misfitOf x1 x2 u = some (r, u')) : xMi l yX10_misfitOf wsX10_misfitOf rX10_misfitOf t [.ref (t.2.2.1 40), .int (iI x1), .int (iI x2)] u r u' 0 0 := by
  refine x_ofWi (cc := cX10_misfitOf) (maxL := 7) (ret := .int) (own := RX10) (by decide) rfl rfl (Nat.le_of_ble_eq_true rfl) ?_
  intro p e s m args below meth c Q X hret H locs ls hG hS hl
  replace hl : lv_has ls 7 [(0, .ref (t.2.2.1 40)), (1, .int (iI x1)), (2, .int (iI x2))] := hl
  have q40 : 40 < NN ∧ sT 40 = 14 := by decide
  have iX10 : ∀ w ∈ wsX100, w ∈ wsX10_misfitOf := by decide +kernel
  have w1 : Cond.fieldLink RX10 7 "TriggerNetworkModel" "now" "[I" ∈ wsX10_misfitOf := x_w 1 rfl
  have q41 : 41 < NN ∧ sT 41 = 100 ∧ sN 41 = 1167 := by decide
  unfold f_X10_misfitOf at h
  refine lv_aload_n X.1.1 X.1.2.1 dX10_misfitOf_0 rfl (lv_at hl 0 rfl) ?_
  refine lv_iload_n X.1.1 X.1.2.1 dX10_misfitOf_1 rfl (lv_at hl 1 rfl) ?_
  refine lv_iload_n X.1.1 X.1.2.1 dX10_misfitOf_2 rfl (lv_at hl 2 rfl) ?_
  obtain ⟨v1, u2, hf, h⟩ := xbd_of h
  refine x_callVi0 X hG hS (c_X10_originOf l t _ _ _ _ _ hf) (cwV 2 X.1.2.2.2.2 gX10_misfitOf_X10_originOf rfl rfl rfl hd_X10_originOf ⟨Nat.le_of_ble_eq_true rfl, Nat.le_of_ble_eq_true rfl⟩) q40.1 q40.2 rfl (by decide) (by rfl) hl.1 (Nat.le_of_ble_eq_true rfl) dX10_misfitOf_3 ⟨by decide, by decide⟩ rfl (fun H locs hG hS => ?_)
  refine lv_istore_n (lv' := [(3, .int (iI v1)), (0, .ref (t.2.2.1 40)), (1, .int (iI x1)), (2, .int (iI x2))]) X.1.1 X.1.2.1 dX10_misfitOf_6 rfl hl (by decide) rfl (fun ls hl => ?_)
  refine x_iconst X dX10_misfitOf_7 ?_
  refine lv_istore (lv' := [(4, .int (iI 0)), (3, .int (iI v1)), (0, .ref (t.2.2.1 40)), (1, .int (iI x1)), (2, .int (iI x2))]) X.1.1 X.1.2.1 dX10_misfitOf_8 hl (by decide) rfl (fun ls hl => ?_)
  refine x_iconst X dX10_misfitOf_10 ?_
  refine lv_istore (lv' := [(5, .int (iI 0)), (4, .int (iI 0)), (3, .int (iI v1)), (0, .ref (t.2.2.1 40)), (1, .int (iI x1)), (2, .int (iI x2))]) X.1.1 X.1.2.1 dX10_misfitOf_11 hl (by decide) rfl (fun ls hl => ?_)
  have Lgo3 : ∀ (n : Nat) (x4_4 : Int) (x5_5 : Int) (u6 : uS), xl3 (s_X10_misfitOf_13 x2 x1 v1) n x4_4 x5_5 u6 = some (r, u') → xG p l e rX10_misfitOf s m args below meth c t Q 7 0 0 13 u6 [(4, .int (iI x4_4)), (5, .int (iI x5_5)), (0, .ref (t.2.2.1 40)), (1, .int (iI x1)), (2, .int (iI x2)), (3, .int (iI v1))] [] := by
    intro n x4_4 x5_5 u6 h
    refine xl3_W (F := s_X10_misfitOf_13 x2 x1 v1) (fun x4_4 x5_5 u6 q => q = (r, u') → xG p l e rX10_misfitOf s m args below meth c t Q 7 0 0 13 u6 [(4, .int (iI x4_4)), (5, .int (iI x5_5)), (0, .ref (t.2.2.1 40)), (1, .int (iI x1)), (2, .int (iI x2)), (3, .int (iI v1))] []) ?_ n x4_4 x5_5 u6 _ h rfl
    intro go3 igo3 x4_4 x5_5 u6 q h hq H locs ls hG hS hl
    subst hq
    unfold s_X10_misfitOf_13 at h
    refine lv_iload X.1.1 X.1.2.1 dX10_misfitOf_13 (lv_at hl 1 rfl) ?_
    refine lv_aload_n X.1.1 X.1.2.1 dX10_misfitOf_15 rfl (lv_at hl 2 rfl) ?_
    refine x_getr X hG 14 1 40 1 (inC := iX10) rfl q40.1 q40.2 ⟨by decide, by decide, by decide, rfl, by decide, by decide⟩ w1 dX10_misfitOf_16 ?_
    refine x_iconst X dX10_misfitOf_19 ?_
    refine x_iald X hG q41.1 q41.2.1 (n := 1167) q41.2.2 ⟨by decide, by decide⟩ (by decide) dX10_misfitOf_20 ?_
    obtain ⟨g7, h⟩ := xgd_of h
    refine x_icmp_ge (tgt := 74) X g7.1 g7.2 dX10_misfitOf_21 (by decide) (fun c8 => ?_) (fun c8 => ?_)
    · replace h := xif_t h c8
      refine lv_iload X.1.1 X.1.2.1 dX10_misfitOf_74 (lv_at hl 0 rfl) ?_
      cases h
      exact hret _ _ _ _ dX10_misfitOf_76 rfl hG hS
    · replace h := xif_f h c8
      refine lv_aload_n X.1.1 X.1.2.1 dX10_misfitOf_24 rfl (lv_at hl 2 rfl) ?_
      refine x_getr X hG 14 1 40 1 (inC := iX10) rfl q40.1 q40.2 ⟨by decide, by decide, by decide, rfl, by decide, by decide⟩ w1 dX10_misfitOf_25 ?_
      refine lv_iload X.1.1 X.1.2.1 dX10_misfitOf_28 (lv_at hl 1 rfl) ?_
      refine x_iconst X dX10_misfitOf_30 ?_
      obtain ⟨v9, u10, hf, h⟩ := xbd_of h
      refine x_callSi0 X hG hS (c_X10_of l t _ _ _ _ _ hf) (va_cwS 2 X.1.2.2.2.2 gX10_misfitOf_X10_of rfl rfl rfl hds_X10_of ⟨Nat.le_of_ble_eq_true rfl, Nat.le_of_ble_eq_true rfl⟩) (by rfl) hl.1 (Nat.le_of_ble_eq_true rfl) dX10_misfitOf_31 ⟨by decide, by decide⟩ rfl (fun H locs hG hS => ?_)
      obtain ⟨g11, h⟩ := xgd_of h
      refine x_iald X hG q41.1 q41.2.1 (n := 1167) q41.2.2 g11 (by decide) dX10_misfitOf_34 ?_
      refine lv_iload_n X.1.1 X.1.2.1 dX10_misfitOf_35 rfl (lv_at hl 4 rfl) ?_
      obtain ⟨g12, h⟩ := xgd_of h
      refine x_icmp_ne (tgt := 68) X g12.1 g12.2 dX10_misfitOf_36 (by decide) (fun c13 => ?_) (fun c13 => ?_)
      · replace h := xif_f h c13
        refine lv_iinc (v := (iI (x5_5 + 1))) (lv' := [(5, .int (iI (x5_5 + 1))), (4, .int (iI x4_4)), (0, .ref (t.2.2.1 40)), (1, .int (iI x1)), (2, .int (iI x2)), (3, .int (iI v1))]) X.1.1 X.1.2.1 dX10_misfitOf_68 hl (k := 1) rfl (iI_add _ _) (by decide) rfl (fun ls hl => ?_)
        refine lv_goto (tgt := 13) X.1.1 X.1.2.1 dX10_misfitOf_71 (by decide) ?_
        exact igo3 _ _ _ _ h rfl _ _ _ hG hS (lv_sub hl [1, 0, 2, 3, 4, 5] rfl)
      · replace h := xif_t h c13
        refine lv_aload_n X.1.1 X.1.2.1 dX10_misfitOf_39 rfl (lv_at hl 2 rfl) ?_
        refine lv_iload_n X.1.1 X.1.2.1 dX10_misfitOf_40 rfl (lv_at hl 3 rfl) ?_
        refine lv_iload X.1.1 X.1.2.1 dX10_misfitOf_41 (lv_at hl 1 rfl) ?_
        obtain ⟨v14, u15, hf, h⟩ := xbd_of h
        refine x_callVi0 X hG hS (c_X10_delayOf l t _ _ _ _ _ hf) (cwV 2 X.1.2.2.2.2 gX10_misfitOf_X10_delayOf rfl rfl rfl hd_X10_delayOf ⟨Nat.le_of_ble_eq_true rfl, Nat.le_of_ble_eq_true rfl⟩) q40.1 q40.2 rfl (by decide) (by rfl) hl.1 (Nat.le_of_ble_eq_true rfl) dX10_misfitOf_43 ⟨by decide, by decide⟩ rfl (fun H locs hG hS => ?_)
        refine lv_iload_n X.1.1 X.1.2.1 dX10_misfitOf_46 rfl (lv_at hl 5 rfl) ?_
        refine x_isub X dX10_misfitOf_47 ?_
        refine x_name (fun x6_16 ex6_16 => ?_)
        replace h := xlet_at ex6_16 h
        refine lv_istore (lv' := [(6, .int (iI x6_16)), (4, .int (iI x4_4)), (5, .int (iI x5_5)), (0, .ref (t.2.2.1 40)), (1, .int (iI x1)), (2, .int (iI x2)), (3, .int (iI v1))]) X.1.1 X.1.2.1 dX10_misfitOf_48 hl (by decide) rfl (fun ls hl => ?_)
        refine lv_iload X.1.1 X.1.2.1 dX10_misfitOf_50 (lv_at hl 1 rfl) ?_
        refine lv_iload X.1.1 X.1.2.1 dX10_misfitOf_52 (lv_at hl 0 rfl) ?_
        obtain ⟨g17, h⟩ := xgd_of h
        obtain ⟨j18, ej18, h⟩ := xlet_of h
        have Jj18 : ∀ (s19 : Int) (u20 : uS), j18 s19 u20 = some (r, u') → xG p l e rX10_misfitOf s m args below meth c t Q 7 0 0 65 u20 [(0, .ref (t.2.2.1 40)), (1, .int (iI x1)), (2, .int (iI x2)), (3, .int (iI v1)), (5, .int (iI x5_5))] [.int (iI s19), .int (iI x4_4)] := by
            intro s19 u20 h H locs ls hG hS hl
            replace h := (congrFun (congrFun ej18 s19) u20).symm.trans h
            refine x_iadd X dX10_misfitOf_65 ?_
            refine x_name (fun x4_21 ex4_21 => ?_)
            replace h := xlet_at ex4_21 h
            refine lv_istore (lv' := [(4, .int (iI x4_21)), (0, .ref (t.2.2.1 40)), (1, .int (iI x1)), (2, .int (iI x2)), (3, .int (iI v1)), (5, .int (iI x5_5))]) X.1.1 X.1.2.1 dX10_misfitOf_66 hl (by decide) rfl (fun ls hl => ?_)
            refine lv_iinc (v := (iI (x5_5 + 1))) (lv' := [(5, .int (iI (x5_5 + 1))), (4, .int (iI x4_21)), (0, .ref (t.2.2.1 40)), (1, .int (iI x1)), (2, .int (iI x2)), (3, .int (iI v1))]) X.1.1 X.1.2.1 dX10_misfitOf_68 hl (k := 5) rfl (iI_add _ _) (by decide) rfl (fun ls hl => ?_)
            refine lv_goto (tgt := 13) X.1.1 X.1.2.1 dX10_misfitOf_71 (by decide) ?_
            exact igo3 _ _ _ _ h rfl _ _ _ hG hS (lv_sub hl [1, 0, 2, 3, 4, 5] rfl)
        refine x_if_ge (tgt := 63) X g17 dX10_misfitOf_54 (by decide) (fun c22 => ?_) (fun c22 => ?_)
        · replace h := xif_t h c22
          refine lv_iload X.1.1 X.1.2.1 dX10_misfitOf_63 (lv_at hl 0 rfl) ?_
          exact Jj18 _ _ h _ _ _ hG hS (lv_sub hl [3, 4, 5, 6, 2] rfl)
        · replace h := xif_f h c22
          refine lv_iload X.1.1 X.1.2.1 dX10_misfitOf_57 (lv_at hl 0 rfl) ?_
          refine x_ineg X dX10_misfitOf_59 ?_
          refine lv_goto (tgt := 65) X.1.1 X.1.2.1 dX10_misfitOf_60 (by decide) ?_
          exact Jj18 _ _ h _ _ _ hG hS (lv_sub hl [3, 4, 5, 6, 2] rfl)
  exact Lgo3 FU _ _ _ h _ _ _ hG hS (lv_sub hl [1, 0, 3, 4, 5, 2] rfl)
theorem hd_X10_misfitOf : yX10_misfitOf.cls = RX10 ∧ yX10_misfitOf.cls ≠ "java/lang/invoke/MethodHandle" ∧ yX10_misfitOf.cls ≠ "java/lang/invoke/VarHandle" ∧ (parseMethodDescriptor yX10_misfitOf.desc).map (fun d => d.parameters.length) = some 2 := by decide +kernel
abbrev rX10_nodeOf : Room := { frames := 5, cells := 0, slots := 0, locals := 119 }
set_option maxRecDepth 100000 in
set_option maxHeartbeats 8000000 in
theorem c_X10_nodeOf (l : Launch) (t : gP) (x1 : Int) (u : uS) (r : Int) (u' : uS) (h : f_X10_nodeOf x1 u = some (r, u')) : xMi l yX10_nodeOf wsX10_nodeOf rX10_nodeOf t [.ref (t.2.2.1 40), .int (iI x1)] u r u' 0 0 := by
  refine x_ofWi (cc := cX10_nodeOf) (maxL := 6) (ret := .int) (own := RX10) (by decide) rfl rfl (Nat.le_of_ble_eq_true rfl) ?_
  intro p e s m args below meth c Q X hret H locs ls hG hS hl
  replace hl : lv_has ls 6 [(0, .ref (t.2.2.1 40)), (1, .int (iI x1))] := hl
  have q40 : 40 < NN ∧ sT 40 = 14 := by decide
  unfold f_X10_nodeOf at h
  refine x_iconst X dX10_nodeOf_0 ?_
  refine lv_istore_n (lv' := [(2, .int (iI 0)), (0, .ref (t.2.2.1 40)), (1, .int (iI x1))]) X.1.1 X.1.2.1 dX10_nodeOf_1 rfl hl (by decide) rfl (fun ls hl => ?_)
  refine lv_aload_n X.1.1 X.1.2.1 dX10_nodeOf_2 rfl (lv_at hl 1 rfl) ?_
  refine x_iconst X dX10_nodeOf_3 ?_
  refine lv_iload_n X.1.1 X.1.2.1 dX10_nodeOf_4 rfl (lv_at hl 2 rfl) ?_
  obtain ⟨v1, u2, hf, h⟩ := xbd_of h
  refine x_callVi0 X hG hS (c_X10_misfitOf l t _ _ _ _ _ hf) (cwV 2 X.1.2.2.2.2 gX10_nodeOf_X10_misfitOf rfl rfl rfl hd_X10_misfitOf ⟨Nat.le_of_ble_eq_true rfl, Nat.le_of_ble_eq_true rfl⟩) q40.1 q40.2 rfl (by decide) (by rfl) hl.1 (Nat.le_of_ble_eq_true rfl) dX10_nodeOf_5 ⟨by decide, by decide⟩ rfl (fun H locs hG hS => ?_)
  refine lv_istore_n (lv' := [(3, .int (iI v1)), (2, .int (iI 0)), (0, .ref (t.2.2.1 40)), (1, .int (iI x1))]) X.1.1 X.1.2.1 dX10_nodeOf_8 rfl hl (by decide) rfl (fun ls hl => ?_)
  refine x_iconst X dX10_nodeOf_9 ?_
  refine lv_istore (lv' := [(4, .int (iI 1)), (3, .int (iI v1)), (2, .int (iI 0)), (0, .ref (t.2.2.1 40)), (1, .int (iI x1))]) X.1.1 X.1.2.1 dX10_nodeOf_10 hl (by decide) rfl (fun ls hl => ?_)
  have Lgo3 : ∀ (n : Nat) (x2_4 : Int) (x3_5 : Int) (x4_6 : Int) (u7 : uS), xl4 (s_X10_nodeOf_12 x1) n x2_4 x3_5 x4_6 u7 = some (r, u') → xG p l e rX10_nodeOf s m args below meth c t Q 6 0 0 12 u7 [(2, .int (iI x2_4)), (3, .int (iI x3_5)), (4, .int (iI x4_6)), (0, .ref (t.2.2.1 40)), (1, .int (iI x1))] [] := by
    intro n x2_4 x3_5 x4_6 u7 h
    refine xl4_W (F := s_X10_nodeOf_12 x1) (fun x2_4 x3_5 x4_6 u7 q => q = (r, u') → xG p l e rX10_nodeOf s m args below meth c t Q 6 0 0 12 u7 [(2, .int (iI x2_4)), (3, .int (iI x3_5)), (4, .int (iI x4_6)), (0, .ref (t.2.2.1 40)), (1, .int (iI x1))] []) ?_ n x2_4 x3_5 x4_6 u7 _ h rfl
    intro go3 igo3 x2_4 x3_5 x4_6 u7 q h hq H locs ls hG hS hl
    subst hq
    unfold s_X10_nodeOf_12 at h
    refine lv_iload X.1.1 X.1.2.1 dX10_nodeOf_12 (lv_at hl 2 rfl) ?_
    refine lv_aload_n X.1.1 X.1.2.1 dX10_nodeOf_14 rfl (lv_at hl 3 rfl) ?_
    obtain ⟨v8, u9, hf, h⟩ := xbd_of h
    refine x_callVi0 X hG hS (c_X10_nodes l t  _ _ _ hf) (cwV 0 X.1.2.2.2.2 gX10_nodeOf_X10_nodes rfl rfl rfl hd_X10_nodes ⟨Nat.le_of_ble_eq_true rfl, Nat.le_of_ble_eq_true rfl⟩) q40.1 q40.2 rfl (by decide) (by rfl) hl.1 (Nat.le_of_ble_eq_true rfl) dX10_nodeOf_15 ⟨by decide, by decide⟩ rfl (fun H locs hG hS => ?_)
    obtain ⟨g10, h⟩ := xgd_of h
    refine x_icmp_ge (tgt := 62) X g10.1 g10.2 dX10_nodeOf_18 (by decide) (fun c11 => ?_) (fun c11 => ?_)
    · replace h := xif_t h c11
      refine lv_iload_n X.1.1 X.1.2.1 dX10_nodeOf_62 rfl (lv_at hl 0 rfl) ?_
      cases h
      exact hret _ _ _ _ dX10_nodeOf_63 rfl hG hS
    · replace h := xif_f h c11
      refine lv_aload_n X.1.1 X.1.2.1 dX10_nodeOf_21 rfl (lv_at hl 3 rfl) ?_
      refine lv_iload X.1.1 X.1.2.1 dX10_nodeOf_22 (lv_at hl 2 rfl) ?_
      refine lv_iload_n X.1.1 X.1.2.1 dX10_nodeOf_24 rfl (lv_at hl 4 rfl) ?_
      obtain ⟨v12, u13, hf, h⟩ := xbd_of h
      refine x_callVi0 X hG hS (c_X10_misfitOf l t _ _ _ _ _ hf) (cwV 2 X.1.2.2.2.2 gX10_nodeOf_X10_misfitOf rfl rfl rfl hd_X10_misfitOf ⟨Nat.le_of_ble_eq_true rfl, Nat.le_of_ble_eq_true rfl⟩) q40.1 q40.2 rfl (by decide) (by rfl) hl.1 (Nat.le_of_ble_eq_true rfl) dX10_nodeOf_25 ⟨by decide, by decide⟩ rfl (fun H locs hG hS => ?_)
      refine lv_istore (lv' := [(5, .int (iI v12)), (2, .int (iI x2_4)), (3, .int (iI x3_5)), (4, .int (iI x4_6)), (0, .ref (t.2.2.1 40)), (1, .int (iI x1))]) X.1.1 X.1.2.1 dX10_nodeOf_28 hl (by decide) rfl (fun ls hl => ?_)
      refine lv_iload X.1.1 X.1.2.1 dX10_nodeOf_30 (lv_at hl 0 rfl) ?_
      refine lv_iload_n X.1.1 X.1.2.1 dX10_nodeOf_32 rfl (lv_at hl 2 rfl) ?_
      obtain ⟨g14, h⟩ := xgd_of h
      obtain ⟨j15, ej15, h⟩ := xlet_of h
      have Jj15 : ∀ (s16 : Int) (u17 : uS), j15 s16 u17 = some (r, u') → xG p l e rX10_nodeOf s m args below meth c t Q 6 0 0 42 u17 [(0, .ref (t.2.2.1 40)), (1, .int (iI x1)), (3, .int (iI x3_5)), (4, .int (iI x4_6)), (5, .int (iI v12))] [.int (iI s16)] := by
          intro s16 u17 h H locs ls hG hS hl
          replace h := (congrFun (congrFun ej15 s16) u17).symm.trans h
          refine lv_istore_n (lv' := [(2, .int (iI s16)), (0, .ref (t.2.2.1 40)), (1, .int (iI x1)), (3, .int (iI x3_5)), (4, .int (iI x4_6)), (5, .int (iI v12))]) X.1.1 X.1.2.1 dX10_nodeOf_42 rfl hl (by decide) rfl (fun ls hl => ?_)
          refine lv_iload X.1.1 X.1.2.1 dX10_nodeOf_43 (lv_at hl 5 rfl) ?_
          refine lv_iload_n X.1.1 X.1.2.1 dX10_nodeOf_45 rfl (lv_at hl 3 rfl) ?_
          obtain ⟨g18, h⟩ := xgd_of h
          obtain ⟨j19, ej19, h⟩ := xlet_of h
          have Jj19 : ∀ (s20 : Int) (u21 : uS), j19 s20 u21 = some (r, u') → xG p l e rX10_nodeOf s m args below meth c t Q 6 0 0 55 u21 [(0, .ref (t.2.2.1 40)), (1, .int (iI x1)), (2, .int (iI s16)), (4, .int (iI x4_6))] [.int (iI s20)] := by
              intro s20 u21 h H locs ls hG hS hl
              replace h := (congrFun (congrFun ej19 s20) u21).symm.trans h
              refine lv_istore_n (lv' := [(3, .int (iI s20)), (0, .ref (t.2.2.1 40)), (1, .int (iI x1)), (2, .int (iI s16)), (4, .int (iI x4_6))]) X.1.1 X.1.2.1 dX10_nodeOf_55 rfl hl (by decide) rfl (fun ls hl => ?_)
              refine lv_iinc (v := (iI (x4_6 + 1))) (lv' := [(4, .int (iI (x4_6 + 1))), (3, .int (iI s20)), (0, .ref (t.2.2.1 40)), (1, .int (iI x1)), (2, .int (iI s16))]) X.1.1 X.1.2.1 dX10_nodeOf_56 hl (k := 4) rfl (iI_add _ _) (by decide) rfl (fun ls hl => ?_)
              refine lv_goto (tgt := 12) X.1.1 X.1.2.1 dX10_nodeOf_59 (by decide) ?_
              exact igo3 _ _ _ _ _ h rfl _ _ _ hG hS (lv_sub hl [4, 1, 0, 2, 3] rfl)
          refine x_icmp_ge (tgt := 54) X g18.1 g18.2 dX10_nodeOf_46 (by decide) (fun c22 => ?_) (fun c22 => ?_)
          · replace h := xif_t h c22
            refine lv_iload_n X.1.1 X.1.2.1 dX10_nodeOf_54 rfl (lv_at hl 3 rfl) ?_
            exact Jj19 _ _ h _ _ _ hG hS (lv_sub hl [1, 2, 0, 4] rfl)
          · replace h := xif_f h c22
            refine lv_iload X.1.1 X.1.2.1 dX10_nodeOf_49 (lv_at hl 5 rfl) ?_
            refine lv_goto (tgt := 55) X.1.1 X.1.2.1 dX10_nodeOf_51 (by decide) ?_
            exact Jj19 _ _ h _ _ _ hG hS (lv_sub hl [1, 2, 0, 4] rfl)
      refine x_icmp_ge (tgt := 41) X g14.1 g14.2 dX10_nodeOf_33 (by decide) (fun c23 => ?_) (fun c23 => ?_)
      · replace h := xif_t h c23
        refine lv_iload_n X.1.1 X.1.2.1 dX10_nodeOf_41 rfl (lv_at hl 1 rfl) ?_
        exact Jj15 _ _ h _ _ _ hG hS (lv_sub hl [4, 5, 2, 3, 0] rfl)
      · replace h := xif_f h c23
        refine lv_iload X.1.1 X.1.2.1 dX10_nodeOf_36 (lv_at hl 3 rfl) ?_
        refine lv_goto (tgt := 42) X.1.1 X.1.2.1 dX10_nodeOf_38 (by decide) ?_
        exact Jj15 _ _ h _ _ _ hG hS (lv_sub hl [4, 5, 2, 3, 0] rfl)
  exact Lgo3 FU _ _ _ _ h _ _ _ hG hS (lv_sub hl [2, 1, 0, 3, 4] rfl)
theorem hd_X10_nodeOf : yX10_nodeOf.cls = RX10 ∧ yX10_nodeOf.cls ≠ "java/lang/invoke/MethodHandle" ∧ yX10_nodeOf.cls ≠ "java/lang/invoke/VarHandle" ∧ (parseMethodDescriptor yX10_nodeOf.desc).map (fun d => d.parameters.length) = some 1 := by decide +kernel
abbrev rX10_magnitudeOf : Room := { frames := 2, cells := 0, slots := 0, locals := 47 }
set_option maxRecDepth 100000 in
set_option maxHeartbeats 8000000 in
theorem c_X10_magnitudeOf (l : Launch) (t : gP) (x1 : Int) (x2 : Int) (u : uS) (r : Int) (u' : uS) (h : f_X10_magnitudeOf x1 x2 u = some (r, u')) : xMi l yX10_magnitudeOf wsX10_magnitudeOf rX10_magnitudeOf t [.ref (t.2.2.1 40), .int (iI x1), .int (iI x2)] u r u' 0 0 := by
  refine x_ofWi (cc := cX10_magnitudeOf) (maxL := 5) (ret := .int) (own := RX10) (by decide) rfl rfl (Nat.le_of_ble_eq_true rfl) ?_
  intro p e s m args below meth c Q X hret H locs ls hG hS hl
  replace hl : lv_has ls 5 [(0, .ref (t.2.2.1 40)), (1, .int (iI x1)), (2, .int (iI x2))] := hl
  have q40 : 40 < NN ∧ sT 40 = 14 := by decide
  have iX10 : ∀ w ∈ wsX100, w ∈ wsX10_magnitudeOf := by decide +kernel
  have w1 : Cond.fieldLink RX10 36 "TriggerNetworkModel" "counts" "[I" ∈ wsX10_magnitudeOf := x_w 1 rfl
  have q48 : 48 < NN ∧ sT 48 = 100 ∧ sN 48 = 101 := by decide
  have w2 : Cond.fieldLink RX10 7 "TriggerNetworkModel" "now" "[I" ∈ wsX10_magnitudeOf := x_w 2 rfl
  have q41 : 41 < NN ∧ sT 41 = 100 ∧ sN 41 = 1167 := by decide
  have w3 : Cond.fieldLink RX10 13 "TriggerNetworkModel" "told" "[I" ∈ wsX10_magnitudeOf := x_w 3 rfl
  have q42 : 42 < NN ∧ sT 42 = 100 ∧ sN 42 = 30 := by decide
  unfold f_X10_magnitudeOf at h
  refine x_iconst X dX10_magnitudeOf_0 ?_
  refine lv_istore_n (lv' := [(3, .int (iI 0)), (0, .ref (t.2.2.1 40)), (1, .int (iI x1)), (2, .int (iI x2))]) X.1.1 X.1.2.1 dX10_magnitudeOf_1 rfl hl (by decide) rfl (fun ls hl => ?_)
  obtain ⟨j1, ej1, h⟩ := xlet_of h
  have Jj1 : ∀ (u2 : uS), j1 u2 = some (r, u') → xG p l e rX10_magnitudeOf s m args below meth c t Q 5 0 0 21 u2 [(0, .ref (t.2.2.1 40)), (1, .int (iI x1)), (2, .int (iI x2))] [] := by
      intro u2 h H locs ls hG hS hl
      replace h := (congrFun ej1 u2).symm.trans h
      refine x_iconst X dX10_magnitudeOf_21 ?_
      refine lv_istore_n (lv' := [(3, .int (iI 0)), (0, .ref (t.2.2.1 40)), (1, .int (iI x1)), (2, .int (iI x2))]) X.1.1 X.1.2.1 dX10_magnitudeOf_22 rfl hl (by decide) rfl (fun ls hl => ?_)
      obtain ⟨j3, ej3, h⟩ := xlet_of h
      have Jj3 : ∀ (u4 : uS), j3 u4 = some (r, u') → xG p l e rX10_magnitudeOf s m args below meth c t Q 5 0 0 102 u4 [(0, .ref (t.2.2.1 40)), (1, .int (iI x1))] [] := by
          intro u4 h H locs ls hG hS hl
          replace h := (congrFun ej3 u4).symm.trans h
          refine lv_aload_n X.1.1 X.1.2.1 dX10_magnitudeOf_102 rfl (lv_at hl 0 rfl) ?_
          refine lv_iload_n X.1.1 X.1.2.1 dX10_magnitudeOf_103 rfl (lv_at hl 1 rfl) ?_
          obtain ⟨v5, u6, hf, h⟩ := xbd_of h
          refine x_callVi0 X hG hS (c_X10_picksOf l t _ _ _ _ hf) (cwV 1 X.1.2.2.2.2 gX10_magnitudeOf_X10_picksOf rfl rfl rfl hd_X10_picksOf ⟨Nat.le_of_ble_eq_true rfl, Nat.le_of_ble_eq_true rfl⟩) q40.1 q40.2 rfl (by decide) (by rfl) hl.1 (Nat.le_of_ble_eq_true rfl) dX10_magnitudeOf_104 ⟨by decide, by decide⟩ rfl (fun H locs hG hS => ?_)
          refine x_iconst X dX10_magnitudeOf_107 ?_
          refine x_isub X dX10_magnitudeOf_108 ?_
          refine x_iconst X dX10_magnitudeOf_109 ?_
          obtain ⟨g7, h⟩ := xgd_of h
          refine x_idiv X g7 ⟨by decide, by decide⟩ (by decide) dX10_magnitudeOf_110 ?_
          refine x_name (fun x3_8 ex3_8 => ?_)
          replace h := xlet_at ex3_8 h
          refine lv_istore_n (lv' := [(3, .int (iI x3_8)), (0, .ref (t.2.2.1 40)), (1, .int (iI x1))]) X.1.1 X.1.2.1 dX10_magnitudeOf_111 rfl hl (by decide) rfl (fun ls hl => ?_)
          refine x_iconst X dX10_magnitudeOf_112 ?_
          refine lv_istore (lv' := [(4, .int (iI 0)), (3, .int (iI x3_8)), (0, .ref (t.2.2.1 40)), (1, .int (iI x1))]) X.1.1 X.1.2.1 dX10_magnitudeOf_113 hl (by decide) rfl (fun ls hl => ?_)
          obtain ⟨j9, ej9, h⟩ := xlet_of h
          have Jj9 : ∀ (x4_10 : Int) (u11 : uS), j9 x4_10 u11 = some (r, u') → xG p l e rX10_magnitudeOf s m args below meth c t Q 5 0 0 142 u11 [(4, .int (iI x4_10))] [] := by
              intro x4_10 u11 h H locs ls hG hS hl
              replace h := (congrFun (congrFun ej9 x4_10) u11).symm.trans h
              refine lv_iload X.1.1 X.1.2.1 dX10_magnitudeOf_142 (lv_at hl 0 rfl) ?_
              refine x_iconst X dX10_magnitudeOf_144 ?_
              refine x_isub X dX10_magnitudeOf_145 ?_
              cases h
              exact hret _ _ _ _ dX10_magnitudeOf_146 rfl hG hS
          have Lgo12 : ∀ (n : Nat) (x3_13 : Int) (x4_14 : Int) (u15 : uS), xl3 (s_X10_magnitudeOf_115 j9) n x3_13 x4_14 u15 = some (r, u') → xG p l e rX10_magnitudeOf s m args below meth c t Q 5 0 0 115 u15 [(3, .int (iI x3_13)), (4, .int (iI x4_14)), (0, .ref (t.2.2.1 40))] [] := by
            intro n x3_13 x4_14 u15 h
            refine xl3_W (F := s_X10_magnitudeOf_115 j9) (fun x3_13 x4_14 u15 q => q = (r, u') → xG p l e rX10_magnitudeOf s m args below meth c t Q 5 0 0 115 u15 [(3, .int (iI x3_13)), (4, .int (iI x4_14)), (0, .ref (t.2.2.1 40))] []) ?_ n x3_13 x4_14 u15 _ h rfl
            intro go12 igo12 x3_13 x4_14 u15 q h hq H locs ls hG hS hl
            subst hq
            unfold s_X10_magnitudeOf_115 at h
            refine lv_iload_n X.1.1 X.1.2.1 dX10_magnitudeOf_115 rfl (lv_at hl 0 rfl) ?_
            refine lv_aload_n X.1.1 X.1.2.1 dX10_magnitudeOf_116 rfl (lv_at hl 2 rfl) ?_
            refine x_getr X hG 14 18 40 8 (inC := iX10) rfl q40.1 q40.2 ⟨by decide, by decide, by decide, rfl, by decide, by decide⟩ w1 dX10_magnitudeOf_117 ?_
            refine lv_iload X.1.1 X.1.2.1 dX10_magnitudeOf_120 (lv_at hl 1 rfl) ?_
            obtain ⟨g16, h⟩ := xgd_of h
            refine x_iald X hG q48.1 q48.2.1 (n := 101) q48.2.2 g16 (by decide) dX10_magnitudeOf_122 ?_
            obtain ⟨g17, h⟩ := xgd_of h
            refine x_icmp_lt (tgt := 142) X g17.1 g17.2 dX10_magnitudeOf_123 (by decide) (fun c18 => ?_) (fun c18 => ?_)
            · replace h := xif_t h c18
              exact Jj9 _ _ h _ _ _ hG hS (lv_sub hl [1] rfl)
            · replace h := xif_f h c18
              refine lv_iload_n X.1.1 X.1.2.1 dX10_magnitudeOf_126 rfl (lv_at hl 0 rfl) ?_
              refine lv_aload_n X.1.1 X.1.2.1 dX10_magnitudeOf_127 rfl (lv_at hl 2 rfl) ?_
              refine x_getr X hG 14 18 40 8 (inC := iX10) rfl q40.1 q40.2 ⟨by decide, by decide, by decide, rfl, by decide, by decide⟩ w1 dX10_magnitudeOf_128 ?_
              refine lv_iload X.1.1 X.1.2.1 dX10_magnitudeOf_131 (lv_at hl 1 rfl) ?_
              obtain ⟨g19, h⟩ := xgd_of h
              refine x_iald X hG q48.1 q48.2.1 (n := 101) q48.2.2 g19 (by decide) dX10_magnitudeOf_133 ?_
              refine x_isub X dX10_magnitudeOf_134 ?_
              refine x_name (fun x3_20 ex3_20 => ?_)
              replace h := xlet_at ex3_20 h
              refine lv_istore_n (lv' := [(3, .int (iI x3_20)), (4, .int (iI x4_14)), (0, .ref (t.2.2.1 40))]) X.1.1 X.1.2.1 dX10_magnitudeOf_135 rfl hl (by decide) rfl (fun ls hl => ?_)
              refine lv_iinc (v := (iI (x4_14 + 1))) (lv' := [(4, .int (iI (x4_14 + 1))), (3, .int (iI x3_20)), (0, .ref (t.2.2.1 40))]) X.1.1 X.1.2.1 dX10_magnitudeOf_136 hl (k := 1) rfl (iI_add _ _) (by decide) rfl (fun ls hl => ?_)
              refine lv_goto (tgt := 115) X.1.1 X.1.2.1 dX10_magnitudeOf_139 (by decide) ?_
              exact igo12 _ _ _ _ h rfl _ _ _ hG hS (lv_sub hl [1, 0, 2] rfl)
          exact Lgo12 FU _ _ _ h _ _ _ hG hS (lv_sub hl [1, 0, 2] rfl)
      have Lgo21 : ∀ (n : Nat) (x3_22 : Int) (u23 : uS), xl2 (s_X10_magnitudeOf_23 j3 x1 x2) n x3_22 u23 = some (r, u') → xG p l e rX10_magnitudeOf s m args below meth c t Q 5 0 0 23 u23 [(3, .int (iI x3_22)), (0, .ref (t.2.2.1 40)), (1, .int (iI x1)), (2, .int (iI x2))] [] := by
        intro n x3_22 u23 h
        refine xl2_W (F := s_X10_magnitudeOf_23 j3 x1 x2) (fun x3_22 u23 q => q = (r, u') → xG p l e rX10_magnitudeOf s m args below meth c t Q 5 0 0 23 u23 [(3, .int (iI x3_22)), (0, .ref (t.2.2.1 40)), (1, .int (iI x1)), (2, .int (iI x2))] []) ?_ n x3_22 u23 _ h rfl
        intro go21 igo21 x3_22 u23 q h hq H locs ls hG hS hl
        subst hq
        unfold s_X10_magnitudeOf_23 at h
        refine lv_iload_n X.1.1 X.1.2.1 dX10_magnitudeOf_23 rfl (lv_at hl 0 rfl) ?_
        refine lv_aload_n X.1.1 X.1.2.1 dX10_magnitudeOf_24 rfl (lv_at hl 1 rfl) ?_
        refine x_getr X hG 14 1 40 1 (inC := iX10) rfl q40.1 q40.2 ⟨by decide, by decide, by decide, rfl, by decide, by decide⟩ w2 dX10_magnitudeOf_25 ?_
        refine x_iconst X dX10_magnitudeOf_28 ?_
        refine x_iald X hG q41.1 q41.2.1 (n := 1167) q41.2.2 ⟨by decide, by decide⟩ (by decide) dX10_magnitudeOf_29 ?_
        obtain ⟨g24, h⟩ := xgd_of h
        refine x_icmp_ge (tgt := 102) X g24.1 g24.2 dX10_magnitudeOf_30 (by decide) (fun c25 => ?_) (fun c25 => ?_)
        · replace h := xif_t h c25
          exact Jj3 _ h _ _ _ hG hS (lv_sub hl [1, 2] rfl)
        · replace h := xif_f h c25
          refine lv_aload_n X.1.1 X.1.2.1 dX10_magnitudeOf_33 rfl (lv_at hl 1 rfl) ?_
          refine x_getr X hG 14 1 40 1 (inC := iX10) rfl q40.1 q40.2 ⟨by decide, by decide, by decide, rfl, by decide, by decide⟩ w2 dX10_magnitudeOf_34 ?_
          refine lv_iload_n X.1.1 X.1.2.1 dX10_magnitudeOf_37 rfl (lv_at hl 0 rfl) ?_
          refine x_iconst X dX10_magnitudeOf_38 ?_
          obtain ⟨v26, u27, hf, h⟩ := xbd_of h
          refine x_callSi0 X hG hS (c_X10_of l t _ _ _ _ _ hf) (va_cwS 2 X.1.2.2.2.2 gX10_magnitudeOf_X10_of rfl rfl rfl hds_X10_of ⟨Nat.le_of_ble_eq_true rfl, Nat.le_of_ble_eq_true rfl⟩) (by rfl) hl.1 (Nat.le_of_ble_eq_true rfl) dX10_magnitudeOf_39 ⟨by decide, by decide⟩ rfl (fun H locs hG hS => ?_)
          obtain ⟨g28, h⟩ := xgd_of h
          refine x_iald X hG q41.1 q41.2.1 (n := 1167) q41.2.2 g28 (by decide) dX10_magnitudeOf_42 ?_
          refine lv_iload_n X.1.1 X.1.2.1 dX10_magnitudeOf_43 rfl (lv_at hl 2 rfl) ?_
          obtain ⟨g29, h⟩ := xgd_of h
          refine x_icmp_ne (tgt := 96) X g29.1 g29.2 dX10_magnitudeOf_44 (by decide) (fun c30 => ?_) (fun c30 => ?_)
          · replace h := xif_f h c30
            refine lv_iinc (v := (iI (x3_22 + 1))) (lv' := [(3, .int (iI (x3_22 + 1))), (0, .ref (t.2.2.1 40)), (1, .int (iI x1)), (2, .int (iI x2))]) X.1.1 X.1.2.1 dX10_magnitudeOf_96 hl (k := 0) rfl (iI_add _ _) (by decide) rfl (fun ls hl => ?_)
            refine lv_goto (tgt := 23) X.1.1 X.1.2.1 dX10_magnitudeOf_99 (by decide) ?_
            exact igo21 _ _ _ h rfl _ _ _ hG hS (lv_sub hl [0, 1, 2, 3] rfl)
          · replace h := xif_t h c30
            refine lv_aload_n X.1.1 X.1.2.1 dX10_magnitudeOf_47 rfl (lv_at hl 1 rfl) ?_
            refine x_getr X hG 14 18 40 8 (inC := iX10) rfl q40.1 q40.2 ⟨by decide, by decide, by decide, rfl, by decide, by decide⟩ w1 dX10_magnitudeOf_48 ?_
            refine x_iconst X dX10_magnitudeOf_51 ?_
            refine lv_aload_n X.1.1 X.1.2.1 dX10_magnitudeOf_52 rfl (lv_at hl 1 rfl) ?_
            refine lv_aload_n X.1.1 X.1.2.1 dX10_magnitudeOf_53 rfl (lv_at hl 1 rfl) ?_
            refine x_getr X hG 14 1 40 1 (inC := iX10) rfl q40.1 q40.2 ⟨by decide, by decide, by decide, rfl, by decide, by decide⟩ w2 dX10_magnitudeOf_54 ?_
            refine lv_iload_n X.1.1 X.1.2.1 dX10_magnitudeOf_57 rfl (lv_at hl 0 rfl) ?_
            refine x_iconst X dX10_magnitudeOf_58 ?_
            obtain ⟨v31, u32, hf, h⟩ := xbd_of h
            refine x_callSi0 X hG hS (c_X10_of l t _ _ _ _ _ hf) (va_cwS 2 X.1.2.2.2.2 gX10_magnitudeOf_X10_of rfl rfl rfl hds_X10_of ⟨Nat.le_of_ble_eq_true rfl, Nat.le_of_ble_eq_true rfl⟩) (by rfl) hl.1 (Nat.le_of_ble_eq_true rfl) dX10_magnitudeOf_59 ⟨by decide, by decide⟩ rfl (fun H locs hG hS => ?_)
            obtain ⟨g33, h⟩ := xgd_of h
            refine x_iald X hG q41.1 q41.2.1 (n := 1167) q41.2.2 g33 (by decide) dX10_magnitudeOf_62 ?_
            refine lv_aload_n X.1.1 X.1.2.1 dX10_magnitudeOf_63 rfl (lv_at hl 1 rfl) ?_
            refine x_getr X hG 14 2 40 2 (inC := iX10) rfl q40.1 q40.2 ⟨by decide, by decide, by decide, rfl, by decide, by decide⟩ w3 dX10_magnitudeOf_64 ?_
            refine x_bipush X dX10_magnitudeOf_67 (by decide) ?_
            refine x_iald X hG q42.1 q42.2.1 (n := 30) q42.2.2 ⟨by decide, by decide⟩ (by decide) dX10_magnitudeOf_69 ?_
            refine lv_aload_n X.1.1 X.1.2.1 dX10_magnitudeOf_70 rfl (lv_at hl 1 rfl) ?_
            refine lv_iload_n X.1.1 X.1.2.1 dX10_magnitudeOf_71 rfl (lv_at hl 3 rfl) ?_
            refine lv_aload_n X.1.1 X.1.2.1 dX10_magnitudeOf_72 rfl (lv_at hl 1 rfl) ?_
            refine x_getr X hG 14 1 40 1 (inC := iX10) rfl q40.1 q40.2 ⟨by decide, by decide, by decide, rfl, by decide, by decide⟩ w2 dX10_magnitudeOf_73 ?_
            refine lv_iload_n X.1.1 X.1.2.1 dX10_magnitudeOf_76 rfl (lv_at hl 0 rfl) ?_
            refine x_iconst X dX10_magnitudeOf_77 ?_
            obtain ⟨v34, u35, hf, h⟩ := xbd_of h
            refine x_callSi0 X hG hS (c_X10_of l t _ _ _ _ _ hf) (va_cwS 2 X.1.2.2.2.2 gX10_magnitudeOf_X10_of rfl rfl rfl hds_X10_of ⟨Nat.le_of_ble_eq_true rfl, Nat.le_of_ble_eq_true rfl⟩) (by rfl) hl.1 (Nat.le_of_ble_eq_true rfl) dX10_magnitudeOf_78 ⟨by decide, by decide⟩ rfl (fun H locs hG hS => ?_)
            obtain ⟨g36, h⟩ := xgd_of h
            refine x_iald X hG q41.1 q41.2.1 (n := 1167) q41.2.2 g36 (by decide) dX10_magnitudeOf_81 ?_
            obtain ⟨v37, u38, hf, h⟩ := xbd_of h
            refine x_callVi0 X hG hS (c_X10_nodeApart l t _ _ _ _ _ hf) (cwV 2 X.1.2.2.2.2 gX10_magnitudeOf_X10_nodeApart rfl rfl rfl hd_X10_nodeApart ⟨Nat.le_of_ble_eq_true rfl, Nat.le_of_ble_eq_true rfl⟩) q40.1 q40.2 rfl (by decide) (by rfl) hl.1 (Nat.le_of_ble_eq_true rfl) dX10_magnitudeOf_82 ⟨by decide, by decide⟩ rfl (fun H locs hG hS => ?_)
            refine x_imul X dX10_magnitudeOf_85 ?_
            refine x_iadd X dX10_magnitudeOf_86 ?_
            obtain ⟨v39, u40, hf, h⟩ := xbd_of h
            refine x_callVi0 X hG hS (c_X10_rungOf l t _ _ _ _ hf) (cwV 1 X.1.2.2.2.2 gX10_magnitudeOf_X10_rungOf rfl rfl rfl hd_X10_rungOf ⟨Nat.le_of_ble_eq_true rfl, Nat.le_of_ble_eq_true rfl⟩) q40.1 q40.2 rfl (by decide) (by rfl) hl.1 (Nat.le_of_ble_eq_true rfl) dX10_magnitudeOf_87 ⟨by decide, by decide⟩ rfl (fun H locs hG hS => ?_)
            refine x_iadd X dX10_magnitudeOf_90 ?_
            refine lv_dup2_11 X.1.1 X.1.2.1 dX10_magnitudeOf_91 rfl rfl ?_
            obtain ⟨g41, h⟩ := xgd_of h
            refine x_iald X hG q48.1 q48.2.1 (n := 101) q48.2.2 g41 (by decide) dX10_magnitudeOf_92 ?_
            refine x_iconst X dX10_magnitudeOf_93 ?_
            refine x_iadd X dX10_magnitudeOf_94 ?_
            obtain ⟨g42, h⟩ := xgd_of h
            refine x_iast X hG hS q48.1 q48.2.1 (n := 101) q48.2.2 g42 (by decide) dX10_magnitudeOf_95 (fun H locs hG hS => ?_)
            obtain ⟨u43, eu43, h⟩ := xlet_of h
            replace hG : G t u43 H := by rw [eu43]; exact hG
            refine lv_iinc (v := (iI (x3_22 + 1))) (lv' := [(3, .int (iI (x3_22 + 1))), (0, .ref (t.2.2.1 40)), (1, .int (iI x1)), (2, .int (iI x2))]) X.1.1 X.1.2.1 dX10_magnitudeOf_96 hl (k := 0) rfl (iI_add _ _) (by decide) rfl (fun ls hl => ?_)
            refine lv_goto (tgt := 23) X.1.1 X.1.2.1 dX10_magnitudeOf_99 (by decide) ?_
            exact igo21 _ _ _ h rfl _ _ _ hG hS (lv_sub hl [0, 1, 2, 3] rfl)
      exact Lgo21 FU _ _ h _ _ _ hG hS (lv_sub hl [0, 1, 2, 3] rfl)
  have Lgo44 : ∀ (n : Nat) (x3_45 : Int) (u46 : uS), xl2 (s_X10_magnitudeOf_2 j1) n x3_45 u46 = some (r, u') → xG p l e rX10_magnitudeOf s m args below meth c t Q 5 0 0 2 u46 [(3, .int (iI x3_45)), (0, .ref (t.2.2.1 40)), (1, .int (iI x1)), (2, .int (iI x2))] [] := by
    intro n x3_45 u46 h
    refine xl2_W (F := s_X10_magnitudeOf_2 j1) (fun x3_45 u46 q => q = (r, u') → xG p l e rX10_magnitudeOf s m args below meth c t Q 5 0 0 2 u46 [(3, .int (iI x3_45)), (0, .ref (t.2.2.1 40)), (1, .int (iI x1)), (2, .int (iI x2))] []) ?_ n x3_45 u46 _ h rfl
    intro go44 igo44 x3_45 u46 q h hq H locs ls hG hS hl
    subst hq
    unfold s_X10_magnitudeOf_2 at h
    refine lv_iload_n X.1.1 X.1.2.1 dX10_magnitudeOf_2 rfl (lv_at hl 0 rfl) ?_
    refine x_bipush X dX10_magnitudeOf_3 (by decide) ?_
    obtain ⟨g47, h⟩ := xgd_of h
    refine x_icmp_ge (tgt := 21) X g47 ⟨by decide, by decide⟩ dX10_magnitudeOf_5 (by decide) (fun c48 => ?_) (fun c48 => ?_)
    · replace h := xif_t h c48
      exact Jj1 _ h _ _ _ hG hS (lv_sub hl [1, 2, 3] rfl)
    · replace h := xif_f h c48
      refine lv_aload_n X.1.1 X.1.2.1 dX10_magnitudeOf_8 rfl (lv_at hl 1 rfl) ?_
      refine x_getr X hG 14 18 40 8 (inC := iX10) rfl q40.1 q40.2 ⟨by decide, by decide, by decide, rfl, by decide, by decide⟩ w1 dX10_magnitudeOf_9 ?_
      refine lv_iload_n X.1.1 X.1.2.1 dX10_magnitudeOf_12 rfl (lv_at hl 0 rfl) ?_
      refine x_iconst X dX10_magnitudeOf_13 ?_
      obtain ⟨g49, h⟩ := xgd_of h
      refine x_iast X hG hS q48.1 q48.2.1 (n := 101) q48.2.2 g49 (by decide) dX10_magnitudeOf_14 (fun H locs hG hS => ?_)
      obtain ⟨u50, eu50, h⟩ := xlet_of h
      replace hG : G t u50 H := by rw [eu50]; exact hG
      refine lv_iinc (v := (iI (x3_45 + 1))) (lv' := [(3, .int (iI (x3_45 + 1))), (0, .ref (t.2.2.1 40)), (1, .int (iI x1)), (2, .int (iI x2))]) X.1.1 X.1.2.1 dX10_magnitudeOf_15 hl (k := 0) rfl (iI_add _ _) (by decide) rfl (fun ls hl => ?_)
      refine lv_goto (tgt := 2) X.1.1 X.1.2.1 dX10_magnitudeOf_18 (by decide) ?_
      exact igo44 _ _ _ h rfl _ _ _ hG hS (lv_sub hl [0, 1, 2, 3] rfl)
  exact Lgo44 FU _ _ h _ _ _ hG hS (lv_sub hl [0, 1, 2, 3] rfl)
theorem hd_X10_magnitudeOf : yX10_magnitudeOf.cls = RX10 ∧ yX10_magnitudeOf.cls ≠ "java/lang/invoke/MethodHandle" ∧ yX10_magnitudeOf.cls ≠ "java/lang/invoke/VarHandle" ∧ (parseMethodDescriptor yX10_magnitudeOf.desc).map (fun d => d.parameters.length) = some 2 := by decide +kernel
abbrev rX10_event : Room := { frames := 6, cells := 0, slots := 0, locals := 144 }
set_option maxRecDepth 100000 in
set_option maxHeartbeats 8000000 in
theorem c_X10_event (l : Launch) (t : gP) (x1 : Int) (x2 : Int) (u : uS) (r : Int) (u' : uS) (h : f_X10_event x1 x2 u = some (r, u')) : xMi l yX10_event wsX10_event rX10_event t [.ref (t.2.2.1 40), .int (iI x1), .int (iI x2)] u r u' 0 0 := by
  refine x_ofWi (cc := cX10_event) (maxL := 4) (ret := .int) (own := RX10) (by decide) rfl rfl (Nat.le_of_ble_eq_true rfl) ?_
  intro p e s m args below meth c Q X hret H locs ls hG hS hl
  replace hl : lv_has ls 4 [(0, .ref (t.2.2.1 40)), (1, .int (iI x1)), (2, .int (iI x2))] := hl
  have q40 : 40 < NN ∧ sT 40 = 14 := by decide
  have iX10 : ∀ w ∈ wsX100, w ∈ wsX10_event := by decide +kernel
  have w1 : Cond.fieldLink RX10 64 "TriggerNetworkModel" "thrown" "I" ∈ wsX10_event := x_w 1 rfl
  have w2 : Cond.fieldLink RX10 7 "TriggerNetworkModel" "now" "[I" ∈ wsX10_event := x_w 2 rfl
  have q41 : 41 < NN ∧ sT 41 = 100 ∧ sN 41 = 1167 := by decide
  unfold f_X10_event at h
  refine lv_aload_n X.1.1 X.1.2.1 dX10_event_0 rfl (lv_at hl 0 rfl) ?_
  refine x_iconst X dX10_event_1 ?_
  refine x_puti X hG hS 14 0 40 0 _ tyX10 tyX10_ok nmX10 (inC := iX10) rfl q40.1 q40.2 ⟨by decide, by decide, by decide, rfl, rfl⟩ rfl (by decide +kernel) w1 dX10_event_2 (fun H locs hG hS => ?_)
  obtain ⟨u1, eu1, h⟩ := xlet_of h
  replace hG : G t u1 H := by rw [eu1]; exact hG
  refine lv_aload_n X.1.1 X.1.2.1 dX10_event_5 rfl (lv_at hl 0 rfl) ?_
  refine lv_iload_n X.1.1 X.1.2.1 dX10_event_6 rfl (lv_at hl 1 rfl) ?_
  obtain ⟨v2, u3, hf, h⟩ := xbd_of h
  refine x_callVi0 X hG hS (c_X10_noEvent l t _ _ _ _ hf) (cwV 1 X.1.2.2.2.2 gX10_event_X10_noEvent rfl rfl rfl hd_X10_noEvent ⟨Nat.le_of_ble_eq_true rfl, Nat.le_of_ble_eq_true rfl⟩) q40.1 q40.2 rfl (by decide) (by rfl) hl.1 (Nat.le_of_ble_eq_true rfl) dX10_event_7 ⟨by decide, by decide⟩ rfl (fun H locs hG hS => ?_)
  obtain ⟨g4, h⟩ := xgd_of h
  refine x_if_ne (tgt := 36) X g4 dX10_event_10 (by decide) (fun c5 => ?_) (fun c5 => ?_)
  · replace h := xif_f h c5
    refine x_iconst X dX10_event_36 ?_
    cases h
    exact hret _ _ _ _ dX10_event_37 rfl hG hS
  · replace h := xif_t h c5
    refine lv_aload_n X.1.1 X.1.2.1 dX10_event_13 rfl (lv_at hl 0 rfl) ?_
    refine lv_iload_n X.1.1 X.1.2.1 dX10_event_14 rfl (lv_at hl 2 rfl) ?_
    refine x_iconst X dX10_event_15 ?_
    refine x_bipush X dX10_event_16 (by decide) ?_
    obtain ⟨v6, u7, hf, h⟩ := xbd_of h
    refine x_callSi0 X hG hS (c_X10_within l t _ _ _ _ _ _ hf) (va_cwS 3 X.1.2.2.2.2 gX10_event_X10_within rfl rfl rfl hds_X10_within ⟨Nat.le_of_ble_eq_true rfl, Nat.le_of_ble_eq_true rfl⟩) (by rfl) hl.1 (Nat.le_of_ble_eq_true rfl) dX10_event_18 ⟨by decide, by decide⟩ rfl (fun H locs hG hS => ?_)
    obtain ⟨g8, h⟩ := xgd_of h
    obtain ⟨j9, ej9, h⟩ := xlet_of h
    have Jj9 : ∀ (s10 : Int) (u11 : uS), j9 s10 u11 = some (r, u') → xG p l e rX10_event s m args below meth c t Q 4 0 0 29 u11 [(0, .ref (t.2.2.1 40)), (1, .int (iI x1)), (2, .int (iI x2))] [.int (iI s10), .ref (t.2.2.1 40)] := by
        intro s10 u11 h H locs ls hG hS hl
        replace h := (congrFun (congrFun ej9 s10) u11).symm.trans h
        refine x_iconst X dX10_event_29 ?_
        obtain ⟨v12, u13, hf, h⟩ := xbd_of h
        refine x_callVi0 X hG hS (c_X10_throwsIf l t _ _ _ _ _ hf) (cwV 2 X.1.2.2.2.2 gX10_event_X10_throwsIf rfl rfl rfl hd_X10_throwsIf ⟨Nat.le_of_ble_eq_true rfl, Nat.le_of_ble_eq_true rfl⟩) q40.1 q40.2 rfl (by decide) (by rfl) hl.1 (Nat.le_of_ble_eq_true rfl) dX10_event_30 ⟨by decide, by decide⟩ rfl (fun H locs hG hS => ?_)
        obtain ⟨g14, h⟩ := xgd_of h
        refine x_if_eq (tgt := 38) X g14 dX10_event_33 (by decide) (fun c15 => ?_) (fun c15 => ?_)
        · replace h := xif_t h c15
          refine lv_iload_n X.1.1 X.1.2.1 dX10_event_38 rfl (lv_at hl 2 rfl) ?_
          refine x_iconst X dX10_event_39 ?_
          obtain ⟨g16, h⟩ := xgd_of h
          refine x_icmp_ge (tgt := 73) X g16 ⟨by decide, by decide⟩ dX10_event_40 (by decide) (fun c17 => ?_) (fun c17 => ?_)
          · replace h := xif_t h c17
            refine lv_aload_n X.1.1 X.1.2.1 dX10_event_73 rfl (lv_at hl 0 rfl) ?_
            refine lv_iload_n X.1.1 X.1.2.1 dX10_event_74 rfl (lv_at hl 1 rfl) ?_
            obtain ⟨v18, u19, hf, h⟩ := xbd_of h
            refine x_callVi0 X hG hS (c_X10_isRetracted l t _ _ _ _ hf) (cwV 1 X.1.2.2.2.2 gX10_event_X10_isRetracted rfl rfl rfl hd_X10_isRetracted ⟨Nat.le_of_ble_eq_true rfl, Nat.le_of_ble_eq_true rfl⟩) q40.1 q40.2 rfl (by decide) (by rfl) hl.1 (Nat.le_of_ble_eq_true rfl) dX10_event_75 ⟨by decide, by decide⟩ rfl (fun H locs hG hS => ?_)
            obtain ⟨g20, h⟩ := xgd_of h
            refine x_if_eq (tgt := 83) X g20 dX10_event_78 (by decide) (fun c21 => ?_) (fun c21 => ?_)
            · replace h := xif_t h c21
              refine lv_aload_n X.1.1 X.1.2.1 dX10_event_83 rfl (lv_at hl 0 rfl) ?_
              refine lv_iload_n X.1.1 X.1.2.1 dX10_event_84 rfl (lv_at hl 1 rfl) ?_
              obtain ⟨v22, u23, hf, h⟩ := xbd_of h
              refine x_callVi0 X hG hS (c_X10_nodeOf l t _ _ _ _ hf) (cwV 1 X.1.2.2.2.2 gX10_event_X10_nodeOf rfl rfl rfl hd_X10_nodeOf ⟨Nat.le_of_ble_eq_true rfl, Nat.le_of_ble_eq_true rfl⟩) q40.1 q40.2 rfl (by decide) (by rfl) hl.1 (Nat.le_of_ble_eq_true rfl) dX10_event_85 ⟨by decide, by decide⟩ rfl (fun H locs hG hS => ?_)
              refine lv_istore_n (lv' := [(3, .int (iI v22)), (0, .ref (t.2.2.1 40)), (1, .int (iI x1)), (2, .int (iI x2))]) X.1.1 X.1.2.1 dX10_event_88 rfl hl (by decide) rfl (fun ls hl => ?_)
              refine lv_iload_n X.1.1 X.1.2.1 dX10_event_89 rfl (lv_at hl 3 rfl) ?_
              refine x_iconst X dX10_event_90 ?_
              obtain ⟨g24, h⟩ := xgd_of h
              refine x_icmp_ne (tgt := 98) X g24 ⟨by decide, by decide⟩ dX10_event_91 (by decide) (fun c25 => ?_) (fun c25 => ?_)
              · replace h := xif_f h c25
                refine lv_iload_n X.1.1 X.1.2.1 dX10_event_98 rfl (lv_at hl 3 rfl) ?_
                refine x_iconst X dX10_event_99 ?_
                obtain ⟨g26, h⟩ := xgd_of h
                refine x_icmp_ne (tgt := 112) X g26 ⟨by decide, by decide⟩ dX10_event_100 (by decide) (fun c27 => ?_) (fun c27 => ?_)
                · replace h := xif_f h c27
                  refine lv_iload_n X.1.1 X.1.2.1 dX10_event_112 rfl (lv_at hl 3 rfl) ?_
                  refine x_iconst X dX10_event_113 ?_
                  obtain ⟨g28, h⟩ := xgd_of h
                  refine x_icmp_ne (tgt := 126) X g28 ⟨by decide, by decide⟩ dX10_event_114 (by decide) (fun c29 => ?_) (fun c29 => ?_)
                  · replace h := xif_f h c29
                    refine lv_aload_n X.1.1 X.1.2.1 dX10_event_126 rfl (lv_at hl 1 rfl) ?_
                    refine lv_iload_n X.1.1 X.1.2.1 dX10_event_127 rfl (lv_at hl 2 rfl) ?_
                    refine lv_iload_n X.1.1 X.1.2.1 dX10_event_128 rfl (lv_at hl 0 rfl) ?_
                    obtain ⟨v30, u31, hf, h⟩ := xbd_of h
                    refine x_callVi0 X hG hS (c_X10_magnitudeOf l t _ _ _ _ _ hf) (cwV 2 X.1.2.2.2.2 gX10_event_X10_magnitudeOf rfl rfl rfl hd_X10_magnitudeOf ⟨Nat.le_of_ble_eq_true rfl, Nat.le_of_ble_eq_true rfl⟩) q40.1 q40.2 rfl (by decide) (by rfl) hl.1 (Nat.le_of_ble_eq_true rfl) dX10_event_129 ⟨by decide, by decide⟩ rfl (fun H locs hG hS => ?_)
                    cases h
                    exact hret _ _ _ _ dX10_event_132 rfl hG hS
                  · replace h := xif_t h c29
                    refine lv_aload_n X.1.1 X.1.2.1 dX10_event_117 rfl (lv_at hl 1 rfl) ?_
                    refine lv_iload_n X.1.1 X.1.2.1 dX10_event_118 rfl (lv_at hl 0 rfl) ?_
                    refine lv_iload_n X.1.1 X.1.2.1 dX10_event_119 rfl (lv_at hl 2 rfl) ?_
                    obtain ⟨v32, u33, hf, h⟩ := xbd_of h
                    refine x_callVi0 X hG hS (c_X10_misfitOf l t _ _ _ _ _ hf) (cwV 2 X.1.2.2.2.2 gX10_event_X10_misfitOf rfl rfl rfl hd_X10_misfitOf ⟨Nat.le_of_ble_eq_true rfl, Nat.le_of_ble_eq_true rfl⟩) q40.1 q40.2 rfl (by decide) (by rfl) hl.1 (Nat.le_of_ble_eq_true rfl) dX10_event_120 ⟨by decide, by decide⟩ rfl (fun H locs hG hS => ?_)
                    refine lv_goto (tgt := 132) X.1.1 X.1.2.1 dX10_event_123 (by decide) ?_
                    cases h
                    exact hret _ _ _ _ dX10_event_132 rfl hG hS
                · replace h := xif_t h c27
                  refine lv_aload_n X.1.1 X.1.2.1 dX10_event_103 rfl (lv_at hl 1 rfl) ?_
                  refine lv_iload_n X.1.1 X.1.2.1 dX10_event_104 rfl (lv_at hl 0 rfl) ?_
                  refine lv_iload_n X.1.1 X.1.2.1 dX10_event_105 rfl (lv_at hl 2 rfl) ?_
                  obtain ⟨v34, u35, hf, h⟩ := xbd_of h
                  refine x_callVi0 X hG hS (c_X10_originOf l t _ _ _ _ _ hf) (cwV 2 X.1.2.2.2.2 gX10_event_X10_originOf rfl rfl rfl hd_X10_originOf ⟨Nat.le_of_ble_eq_true rfl, Nat.le_of_ble_eq_true rfl⟩) q40.1 q40.2 rfl (by decide) (by rfl) hl.1 (Nat.le_of_ble_eq_true rfl) dX10_event_106 ⟨by decide, by decide⟩ rfl (fun H locs hG hS => ?_)
                  refine lv_goto (tgt := 132) X.1.1 X.1.2.1 dX10_event_109 (by decide) ?_
                  cases h
                  exact hret _ _ _ _ dX10_event_132 rfl hG hS
              · replace h := xif_t h c25
                refine lv_iload_n X.1.1 X.1.2.1 dX10_event_94 rfl (lv_at hl 0 rfl) ?_
                refine lv_goto (tgt := 132) X.1.1 X.1.2.1 dX10_event_95 (by decide) ?_
                cases h
                exact hret _ _ _ _ dX10_event_132 rfl hG hS
            · replace h := xif_f h c21
              refine x_iconst X dX10_event_81 ?_
              cases h
              exact hret _ _ _ _ dX10_event_82 rfl hG hS
          · replace h := xif_f h c17
            refine lv_iload_n X.1.1 X.1.2.1 dX10_event_43 rfl (lv_at hl 2 rfl) ?_
            refine x_iconst X dX10_event_44 ?_
            obtain ⟨g36, h⟩ := xgd_of h
            refine x_icmp_ne (tgt := 56) X g36 ⟨by decide, by decide⟩ dX10_event_45 (by decide) (fun c37 => ?_) (fun c37 => ?_)
            · replace h := xif_f h c37
              refine lv_aload_n X.1.1 X.1.2.1 dX10_event_56 rfl (lv_at hl 0 rfl) ?_
              refine x_getr X hG 14 1 40 1 (inC := iX10) rfl q40.1 q40.2 ⟨by decide, by decide, by decide, rfl, by decide, by decide⟩ w2 dX10_event_57 ?_
              refine x_sipush X dX10_event_60 (by decide) ?_
              refine x_iconst X dX10_event_63 ?_
              refine lv_iload_n X.1.1 X.1.2.1 dX10_event_64 rfl (lv_at hl 1 rfl) ?_
              refine x_imul X dX10_event_65 ?_
              refine x_iadd X dX10_event_66 ?_
              refine lv_iload_n X.1.1 X.1.2.1 dX10_event_67 rfl (lv_at hl 2 rfl) ?_
              refine x_iconst X dX10_event_68 ?_
              obtain ⟨g38, h⟩ := xgd_of h
              refine x_idiv X g38 ⟨by decide, by decide⟩ (by decide) dX10_event_69 ?_
              refine x_iadd X dX10_event_70 ?_
              obtain ⟨g39, h⟩ := xgd_of h
              refine x_iald X hG q41.1 q41.2.1 (n := 1167) q41.2.2 g39 (by decide) dX10_event_71 ?_
              cases h
              exact hret _ _ _ _ dX10_event_72 rfl hG hS
            · replace h := xif_t h c37
              refine lv_aload_n X.1.1 X.1.2.1 dX10_event_48 rfl (lv_at hl 0 rfl) ?_
              refine lv_iload_n X.1.1 X.1.2.1 dX10_event_49 rfl (lv_at hl 1 rfl) ?_
              obtain ⟨v40, u41, hf, h⟩ := xbd_of h
              refine x_callVi0 X hG hS (c_X10_picksOf l t _ _ _ _ hf) (cwV 1 X.1.2.2.2.2 gX10_event_X10_picksOf rfl rfl rfl hd_X10_picksOf ⟨Nat.le_of_ble_eq_true rfl, Nat.le_of_ble_eq_true rfl⟩) q40.1 q40.2 rfl (by decide) (by rfl) hl.1 (Nat.le_of_ble_eq_true rfl) dX10_event_50 ⟨by decide, by decide⟩ rfl (fun H locs hG hS => ?_)
              refine lv_goto (tgt := 72) X.1.1 X.1.2.1 dX10_event_53 (by decide) ?_
              cases h
              exact hret _ _ _ _ dX10_event_72 rfl hG hS
        · replace h := xif_f h c15
          refine x_iconst X dX10_event_36 ?_
          cases h
          exact hret _ _ _ _ dX10_event_37 rfl hG hS
    refine x_if_ne (tgt := 28) X g8 dX10_event_21 (by decide) (fun c42 => ?_) (fun c42 => ?_)
    · replace h := xif_f h c42
      refine x_iconst X dX10_event_28 ?_
      exact Jj9 _ _ h _ _ _ hG hS (lv_sub hl [0, 1, 2] rfl)
    · replace h := xif_t h c42
      refine x_iconst X dX10_event_24 ?_
      refine lv_goto (tgt := 29) X.1.1 X.1.2.1 dX10_event_25 (by decide) ?_
      exact Jj9 _ _ h _ _ _ hG hS (lv_sub hl [0, 1, 2] rfl)
theorem hd_X10_event : yX10_event.cls = RX10 ∧ yX10_event.cls ≠ "java/lang/invoke/MethodHandle" ∧ yX10_event.cls ≠ "java/lang/invoke/VarHandle" ∧ (parseMethodDescriptor yX10_event.desc).map (fun d => d.parameters.length) = some 2 := by decide +kernel
abbrev rX10_eventPick : Room := { frames := 3, cells := 0, slots := 0, locals := 65 }
set_option maxRecDepth 100000 in
set_option maxHeartbeats 8000000 in
theorem c_X10_eventPick (l : Launch) (t : gP) (x1 : Int) (x2 : Int) (u : uS) (r : Int) (u' : uS) (h : f_X10_eventPick x1 x2 u = some (r, u')) : xMi l yX10_eventPick wsX10_eventPick rX10_eventPick t [.ref (t.2.2.1 40), .int (iI x1), .int (iI x2)] u r u' 0 0 := by
  refine x_ofWi (cc := cX10_eventPick) (maxL := 5) (ret := .int) (own := RX10) (by decide) rfl rfl (Nat.le_of_ble_eq_true rfl) ?_
  intro p e s m args below meth c Q X hret H locs ls hG hS hl
  replace hl : lv_has ls 5 [(0, .ref (t.2.2.1 40)), (1, .int (iI x1)), (2, .int (iI x2))] := hl
  have q40 : 40 < NN ∧ sT 40 = 14 := by decide
  have iX10 : ∀ w ∈ wsX100, w ∈ wsX10_eventPick := by decide +kernel
  have w1 : Cond.fieldLink RX10 64 "TriggerNetworkModel" "thrown" "I" ∈ wsX10_eventPick := x_w 1 rfl
  have w2 : Cond.fieldLink RX10 7 "TriggerNetworkModel" "now" "[I" ∈ wsX10_eventPick := x_w 2 rfl
  have q41 : 41 < NN ∧ sT 41 = 100 ∧ sN 41 = 1167 := by decide
  unfold f_X10_eventPick at h
  refine lv_aload_n X.1.1 X.1.2.1 dX10_eventPick_0 rfl (lv_at hl 0 rfl) ?_
  refine x_iconst X dX10_eventPick_1 ?_
  refine x_puti X hG hS 14 0 40 0 _ tyX10 tyX10_ok nmX10 (inC := iX10) rfl q40.1 q40.2 ⟨by decide, by decide, by decide, rfl, rfl⟩ rfl (by decide +kernel) w1 dX10_eventPick_2 (fun H locs hG hS => ?_)
  obtain ⟨u1, eu1, h⟩ := xlet_of h
  replace hG : G t u1 H := by rw [eu1]; exact hG
  refine lv_aload_n X.1.1 X.1.2.1 dX10_eventPick_5 rfl (lv_at hl 0 rfl) ?_
  refine lv_iload_n X.1.1 X.1.2.1 dX10_eventPick_6 rfl (lv_at hl 1 rfl) ?_
  obtain ⟨v2, u3, hf, h⟩ := xbd_of h
  refine x_callVi0 X hG hS (c_X10_noEvent l t _ _ _ _ hf) (cwV 1 X.1.2.2.2.2 gX10_eventPick_X10_noEvent rfl rfl rfl hd_X10_noEvent ⟨Nat.le_of_ble_eq_true rfl, Nat.le_of_ble_eq_true rfl⟩) q40.1 q40.2 rfl (by decide) (by rfl) hl.1 (Nat.le_of_ble_eq_true rfl) dX10_eventPick_7 ⟨by decide, by decide⟩ rfl (fun H locs hG hS => ?_)
  obtain ⟨g4, h⟩ := xgd_of h
  refine x_if_eq (tgt := 15) X g4 dX10_eventPick_10 (by decide) (fun c5 => ?_) (fun c5 => ?_)
  · replace h := xif_t h c5
    refine lv_iload_n X.1.1 X.1.2.1 dX10_eventPick_15 rfl (lv_at hl 2 rfl) ?_
    refine lv_istore_n (lv' := [(3, .int (iI x2)), (0, .ref (t.2.2.1 40)), (1, .int (iI x1)), (2, .int (iI x2))]) X.1.1 X.1.2.1 dX10_eventPick_16 rfl hl (by decide) rfl (fun ls hl => ?_)
    refine x_iconst X dX10_eventPick_17 ?_
    refine lv_istore (lv' := [(4, .int (iI 0)), (3, .int (iI x2)), (0, .ref (t.2.2.1 40)), (1, .int (iI x1)), (2, .int (iI x2))]) X.1.1 X.1.2.1 dX10_eventPick_18 hl (by decide) rfl (fun ls hl => ?_)
    have Lgo6 : ∀ (n : Nat) (x3_7 : Int) (x4_8 : Int) (u9 : uS), xl3 (s_X10_eventPick_20 x2 x1) n x3_7 x4_8 u9 = some (r, u') → xG p l e rX10_eventPick s m args below meth c t Q 5 0 0 20 u9 [(3, .int (iI x3_7)), (4, .int (iI x4_8)), (0, .ref (t.2.2.1 40)), (1, .int (iI x1)), (2, .int (iI x2))] [] := by
      intro n x3_7 x4_8 u9 h
      refine xl3_W (F := s_X10_eventPick_20 x2 x1) (fun x3_7 x4_8 u9 q => q = (r, u') → xG p l e rX10_eventPick s m args below meth c t Q 5 0 0 20 u9 [(3, .int (iI x3_7)), (4, .int (iI x4_8)), (0, .ref (t.2.2.1 40)), (1, .int (iI x1)), (2, .int (iI x2))] []) ?_ n x3_7 x4_8 u9 _ h rfl
      intro go6 igo6 x3_7 x4_8 u9 q h hq H locs ls hG hS hl
      subst hq
      unfold s_X10_eventPick_20 at h
      refine lv_iload X.1.1 X.1.2.1 dX10_eventPick_20 (lv_at hl 1 rfl) ?_
      refine lv_aload_n X.1.1 X.1.2.1 dX10_eventPick_22 rfl (lv_at hl 2 rfl) ?_
      refine x_getr X hG 14 1 40 1 (inC := iX10) rfl q40.1 q40.2 ⟨by decide, by decide, by decide, rfl, by decide, by decide⟩ w2 dX10_eventPick_23 ?_
      refine x_iconst X dX10_eventPick_26 ?_
      refine x_iald X hG q41.1 q41.2.1 (n := 1167) q41.2.2 ⟨by decide, by decide⟩ (by decide) dX10_eventPick_27 ?_
      obtain ⟨g10, h⟩ := xgd_of h
      refine x_icmp_ge (tgt := 66) X g10.1 g10.2 dX10_eventPick_28 (by decide) (fun c11 => ?_) (fun c11 => ?_)
      · replace h := xif_t h c11
        refine x_iconst X dX10_eventPick_66 ?_
        cases h
        exact hret _ _ _ _ dX10_eventPick_67 rfl hG hS
      · replace h := xif_f h c11
        refine lv_iload_n X.1.1 X.1.2.1 dX10_eventPick_31 rfl (lv_at hl 4 rfl) ?_
        obtain ⟨g12, h⟩ := xgd_of h
        refine x_if_lt (tgt := 66) X g12 dX10_eventPick_32 (by decide) (fun c13 => ?_) (fun c13 => ?_)
        · replace h := xif_t h c13
          refine x_iconst X dX10_eventPick_66 ?_
          cases h
          exact hret _ _ _ _ dX10_eventPick_67 rfl hG hS
        · replace h := xif_f h c13
          refine lv_aload_n X.1.1 X.1.2.1 dX10_eventPick_35 rfl (lv_at hl 2 rfl) ?_
          refine x_getr X hG 14 1 40 1 (inC := iX10) rfl q40.1 q40.2 ⟨by decide, by decide, by decide, rfl, by decide, by decide⟩ w2 dX10_eventPick_36 ?_
          refine lv_iload X.1.1 X.1.2.1 dX10_eventPick_39 (lv_at hl 1 rfl) ?_
          refine x_iconst X dX10_eventPick_41 ?_
          obtain ⟨v14, u15, hf, h⟩ := xbd_of h
          refine x_callSi0 X hG hS (c_X10_of l t _ _ _ _ _ hf) (va_cwS 2 X.1.2.2.2.2 gX10_eventPick_X10_of rfl rfl rfl hds_X10_of ⟨Nat.le_of_ble_eq_true rfl, Nat.le_of_ble_eq_true rfl⟩) (by rfl) hl.1 (Nat.le_of_ble_eq_true rfl) dX10_eventPick_42 ⟨by decide, by decide⟩ rfl (fun H locs hG hS => ?_)
          obtain ⟨g16, h⟩ := xgd_of h
          refine x_iald X hG q41.1 q41.2.1 (n := 1167) q41.2.2 g16 (by decide) dX10_eventPick_45 ?_
          refine lv_iload_n X.1.1 X.1.2.1 dX10_eventPick_46 rfl (lv_at hl 3 rfl) ?_
          obtain ⟨g17, h⟩ := xgd_of h
          refine x_icmp_ne (tgt := 60) X g17.1 g17.2 dX10_eventPick_47 (by decide) (fun c18 => ?_) (fun c18 => ?_)
          · replace h := xif_f h c18
            refine lv_iinc (v := (iI (x4_8 + 1))) (lv' := [(4, .int (iI (x4_8 + 1))), (3, .int (iI x3_7)), (0, .ref (t.2.2.1 40)), (1, .int (iI x1)), (2, .int (iI x2))]) X.1.1 X.1.2.1 dX10_eventPick_60 hl (k := 1) rfl (iI_add _ _) (by decide) rfl (fun ls hl => ?_)
            refine lv_goto (tgt := 20) X.1.1 X.1.2.1 dX10_eventPick_63 (by decide) ?_
            exact igo6 _ _ _ _ h rfl _ _ _ hG hS (lv_sub hl [1, 0, 2, 3, 4] rfl)
          · replace h := xif_t h c18
            refine lv_iload_n X.1.1 X.1.2.1 dX10_eventPick_50 rfl (lv_at hl 0 rfl) ?_
            obtain ⟨g19, h⟩ := xgd_of h
            refine x_if_ne (tgt := 57) X g19 dX10_eventPick_51 (by decide) (fun c20 => ?_) (fun c20 => ?_)
            · replace h := xif_f h c20
              refine lv_iinc (v := (iI (x3_7 + (-1)))) (lv' := [(3, .int (iI (x3_7 + (-1)))), (4, .int (iI x4_8)), (0, .ref (t.2.2.1 40)), (1, .int (iI x1)), (2, .int (iI x2))]) X.1.1 X.1.2.1 dX10_eventPick_57 hl (k := 0) rfl (iI_add _ _) (by decide) rfl (fun ls hl => ?_)
              refine lv_iinc (v := (iI (x4_8 + 1))) (lv' := [(4, .int (iI (x4_8 + 1))), (3, .int (iI (x3_7 + (-1)))), (0, .ref (t.2.2.1 40)), (1, .int (iI x1)), (2, .int (iI x2))]) X.1.1 X.1.2.1 dX10_eventPick_60 hl (k := 1) rfl (iI_add _ _) (by decide) rfl (fun ls hl => ?_)
              refine lv_goto (tgt := 20) X.1.1 X.1.2.1 dX10_eventPick_63 (by decide) ?_
              exact igo6 _ _ _ _ h rfl _ _ _ hG hS (lv_sub hl [1, 0, 2, 3, 4] rfl)
            · replace h := xif_t h c20
              refine lv_iload X.1.1 X.1.2.1 dX10_eventPick_54 (lv_at hl 1 rfl) ?_
              cases h
              exact hret _ _ _ _ dX10_eventPick_56 rfl hG hS
    exact Lgo6 FU _ _ _ h _ _ _ hG hS (lv_sub hl [1, 0, 2, 3, 4] rfl)
  · replace h := xif_f h c5
    refine x_iconst X dX10_eventPick_13 ?_
    cases h
    exact hret _ _ _ _ dX10_eventPick_14 rfl hG hS
theorem hd_X10_eventPick : yX10_eventPick.cls = RX10 ∧ yX10_eventPick.cls ≠ "java/lang/invoke/MethodHandle" ∧ yX10_eventPick.cls ≠ "java/lang/invoke/VarHandle" ∧ (parseMethodDescriptor yX10_eventPick.desc).map (fun d => d.parameters.length) = some 2 := by decide +kernel
abbrev rX10_misfit : Room := { frames := 5, cells := 0, slots := 0, locals := 119 }
set_option maxRecDepth 100000 in
set_option maxHeartbeats 8000000 in
theorem c_X10_misfit (l : Launch) (t : gP) (x1 : Int) (x2 : Int) (u : uS) (r : Int) (u' : uS) (h : f_X10_misfit x1 x2 u = some (r, u')) : xMi l yX10_misfit wsX10_misfit rX10_misfit t [.ref (t.2.2.1 40), .int (iI x1), .int (iI x2)] u r u' 0 0 := by
  refine x_ofWi (cc := cX10_misfit) (maxL := 3) (ret := .int) (own := RX10) (by decide) rfl rfl (Nat.le_of_ble_eq_true rfl) ?_
  intro p e s m args below meth c Q X hret H locs ls hG hS hl
  replace hl : lv_has ls 3 [(0, .ref (t.2.2.1 40)), (1, .int (iI x1)), (2, .int (iI x2))] := hl
  have q40 : 40 < NN ∧ sT 40 = 14 := by decide
  have iX10 : ∀ w ∈ wsX100, w ∈ wsX10_misfit := by decide +kernel
  have w1 : Cond.fieldLink RX10 64 "TriggerNetworkModel" "thrown" "I" ∈ wsX10_misfit := x_w 1 rfl
  unfold f_X10_misfit at h
  refine lv_aload_n X.1.1 X.1.2.1 dX10_misfit_0 rfl (lv_at hl 0 rfl) ?_
  refine x_iconst X dX10_misfit_1 ?_
  refine x_puti X hG hS 14 0 40 0 _ tyX10 tyX10_ok nmX10 (inC := iX10) rfl q40.1 q40.2 ⟨by decide, by decide, by decide, rfl, rfl⟩ rfl (by decide +kernel) w1 dX10_misfit_2 (fun H locs hG hS => ?_)
  obtain ⟨u1, eu1, h⟩ := xlet_of h
  replace hG : G t u1 H := by rw [eu1]; exact hG
  refine lv_aload_n X.1.1 X.1.2.1 dX10_misfit_5 rfl (lv_at hl 0 rfl) ?_
  refine lv_iload_n X.1.1 X.1.2.1 dX10_misfit_6 rfl (lv_at hl 1 rfl) ?_
  refine lv_aload_n X.1.1 X.1.2.1 dX10_misfit_7 rfl (lv_at hl 0 rfl) ?_
  obtain ⟨v2, u3, hf, h⟩ := xbd_of h
  refine x_callVi0 X hG hS (c_X10_nodes l t  _ _ _ hf) (cwV 0 X.1.2.2.2.2 gX10_misfit_X10_nodes rfl rfl rfl hd_X10_nodes ⟨Nat.le_of_ble_eq_true rfl, Nat.le_of_ble_eq_true rfl⟩) q40.1 q40.2 rfl (by decide) (by rfl) hl.1 (Nat.le_of_ble_eq_true rfl) dX10_misfit_8 ⟨by decide, by decide⟩ rfl (fun H locs hG hS => ?_)
  obtain ⟨v4, u5, hf, h⟩ := xbd_of h
  refine x_callVi0 X hG hS (c_X10_no l t _ _ _ _ _ hf) (cwV 2 X.1.2.2.2.2 gX10_misfit_X10_no rfl rfl rfl hd_X10_no ⟨Nat.le_of_ble_eq_true rfl, Nat.le_of_ble_eq_true rfl⟩) q40.1 q40.2 rfl (by decide) (by rfl) hl.1 (Nat.le_of_ble_eq_true rfl) dX10_misfit_11 ⟨by decide, by decide⟩ rfl (fun H locs hG hS => ?_)
  obtain ⟨g6, h⟩ := xgd_of h
  refine x_if_ne (tgt := 38) X g6 dX10_misfit_14 (by decide) (fun c7 => ?_) (fun c7 => ?_)
  · replace h := xif_f h c7
    refine x_iconst X dX10_misfit_38 ?_
    refine lv_goto (tgt := 48) X.1.1 X.1.2.1 dX10_misfit_39 (by decide) ?_
    cases h
    exact hret _ _ _ _ dX10_misfit_48 rfl hG hS
  · replace h := xif_t h c7
    refine lv_aload_n X.1.1 X.1.2.1 dX10_misfit_17 rfl (lv_at hl 0 rfl) ?_
    refine lv_iload_n X.1.1 X.1.2.1 dX10_misfit_18 rfl (lv_at hl 2 rfl) ?_
    obtain ⟨v8, u9, hf, h⟩ := xbd_of h
    refine x_callVi0 X hG hS (c_X10_noEvent l t _ _ _ _ hf) (cwV 1 X.1.2.2.2.2 gX10_misfit_X10_noEvent rfl rfl rfl hd_X10_noEvent ⟨Nat.le_of_ble_eq_true rfl, Nat.le_of_ble_eq_true rfl⟩) q40.1 q40.2 rfl (by decide) (by rfl) hl.1 (Nat.le_of_ble_eq_true rfl) dX10_misfit_19 ⟨by decide, by decide⟩ rfl (fun H locs hG hS => ?_)
    obtain ⟨g10, h⟩ := xgd_of h
    refine x_if_ne (tgt := 38) X g10 dX10_misfit_22 (by decide) (fun c11 => ?_) (fun c11 => ?_)
    · replace h := xif_f h c11
      refine x_iconst X dX10_misfit_38 ?_
      refine lv_goto (tgt := 48) X.1.1 X.1.2.1 dX10_misfit_39 (by decide) ?_
      cases h
      exact hret _ _ _ _ dX10_misfit_48 rfl hG hS
    · replace h := xif_t h c11
      refine lv_aload_n X.1.1 X.1.2.1 dX10_misfit_25 rfl (lv_at hl 0 rfl) ?_
      refine lv_aload_n X.1.1 X.1.2.1 dX10_misfit_26 rfl (lv_at hl 0 rfl) ?_
      refine lv_iload_n X.1.1 X.1.2.1 dX10_misfit_27 rfl (lv_at hl 2 rfl) ?_
      obtain ⟨v12, u13, hf, h⟩ := xbd_of h
      refine x_callVi0 X hG hS (c_X10_isRetracted l t _ _ _ _ hf) (cwV 1 X.1.2.2.2.2 gX10_misfit_X10_isRetracted rfl rfl rfl hd_X10_isRetracted ⟨Nat.le_of_ble_eq_true rfl, Nat.le_of_ble_eq_true rfl⟩) q40.1 q40.2 rfl (by decide) (by rfl) hl.1 (Nat.le_of_ble_eq_true rfl) dX10_misfit_28 ⟨by decide, by decide⟩ rfl (fun H locs hG hS => ?_)
      refine x_iconst X dX10_misfit_31 ?_
      obtain ⟨v14, u15, hf, h⟩ := xbd_of h
      refine x_callVi0 X hG hS (c_X10_throwsIf l t _ _ _ _ _ hf) (cwV 2 X.1.2.2.2.2 gX10_misfit_X10_throwsIf rfl rfl rfl hd_X10_throwsIf ⟨Nat.le_of_ble_eq_true rfl, Nat.le_of_ble_eq_true rfl⟩) q40.1 q40.2 rfl (by decide) (by rfl) hl.1 (Nat.le_of_ble_eq_true rfl) dX10_misfit_32 ⟨by decide, by decide⟩ rfl (fun H locs hG hS => ?_)
      obtain ⟨g16, h⟩ := xgd_of h
      refine x_if_eq (tgt := 42) X g16 dX10_misfit_35 (by decide) (fun c17 => ?_) (fun c17 => ?_)
      · replace h := xif_t h c17
        refine lv_aload_n X.1.1 X.1.2.1 dX10_misfit_42 rfl (lv_at hl 0 rfl) ?_
        refine lv_iload_n X.1.1 X.1.2.1 dX10_misfit_43 rfl (lv_at hl 1 rfl) ?_
        refine lv_iload_n X.1.1 X.1.2.1 dX10_misfit_44 rfl (lv_at hl 2 rfl) ?_
        obtain ⟨v18, u19, hf, h⟩ := xbd_of h
        refine x_callVi0 X hG hS (c_X10_misfitOf l t _ _ _ _ _ hf) (cwV 2 X.1.2.2.2.2 gX10_misfit_X10_misfitOf rfl rfl rfl hd_X10_misfitOf ⟨Nat.le_of_ble_eq_true rfl, Nat.le_of_ble_eq_true rfl⟩) q40.1 q40.2 rfl (by decide) (by rfl) hl.1 (Nat.le_of_ble_eq_true rfl) dX10_misfit_45 ⟨by decide, by decide⟩ rfl (fun H locs hG hS => ?_)
        cases h
        exact hret _ _ _ _ dX10_misfit_48 rfl hG hS
      · replace h := xif_f h c17
        refine x_iconst X dX10_misfit_38 ?_
        refine lv_goto (tgt := 48) X.1.1 X.1.2.1 dX10_misfit_39 (by decide) ?_
        cases h
        exact hret _ _ _ _ dX10_misfit_48 rfl hG hS
theorem hd_X10_misfit : yX10_misfit.cls = RX10 ∧ yX10_misfit.cls ≠ "java/lang/invoke/MethodHandle" ∧ yX10_misfit.cls ≠ "java/lang/invoke/VarHandle" ∧ (parseMethodDescriptor yX10_misfit.desc).map (fun d => d.parameters.length) = some 2 := by decide +kernel
abbrev rX10_saysNumber : Room := { frames := 0, cells := 0, slots := 0, locals := 0 }
set_option maxRecDepth 100000 in
set_option maxHeartbeats 8000000 in
theorem c_X10_saysNumber (l : Launch) (t : gP) (x1 : Int) (u : uS) (r : Int) (u' : uS) (h : f_X10_saysNumber x1 u = some (r, u')) : xMv l yX10_saysNumber wsX10_saysNumber rX10_saysNumber t [.ref (t.2.2.1 40), .int (iI x1)] u u' 0 0 := by
  refine x_ofWv (cc := cX10_saysNumber) (maxL := 3) (own := RX10) (by decide) rfl rfl (Nat.le_of_ble_eq_true rfl) ?_
  intro p e s m args below meth c Q X hret H locs ls hG hS hl
  replace hl : lv_has ls 3 [(0, .ref (t.2.2.1 40)), (1, .int (iI x1))] := hl
  have q40 : 40 < NN ∧ sT 40 = 14 := by decide
  have iX10 : ∀ w ∈ wsX100, w ∈ wsX10_saysNumber := by decide +kernel
  have w1 : Cond.fieldLink RX10 39 "TriggerNetworkModel" "said" "[I" ∈ wsX10_saysNumber := x_w 1 rfl
  have q49 : 49 < NN ∧ sT 49 = 100 ∧ sN 49 = 80 := by decide
  have w2 : Cond.fieldLink RX10 283 "TriggerNetworkModel" "saidMany" "I" ∈ wsX10_saysNumber := x_w 2 rfl
  unfold f_X10_saysNumber at h
  refine x_iconst X dX10_saysNumber_0 ?_
  refine lv_istore_n (lv' := [(2, .int (iI 1)), (0, .ref (t.2.2.1 40)), (1, .int (iI x1))]) X.1.1 X.1.2.1 dX10_saysNumber_1 rfl hl (by decide) rfl (fun ls hl => ?_)
  obtain ⟨j1, ej1, h⟩ := xlet_of h
  have Jj1 : ∀ (x2_2 : Int) (u3 : uS), j1 x2_2 u3 = some (r, u') → xG p l e rX10_saysNumber s m args below meth c t Q 3 0 0 18 u3 [(0, .ref (t.2.2.1 40)), (1, .int (iI x1)), (2, .int (iI x2_2))] [] := by
      intro x2_2 u3 h H locs ls hG hS hl
      replace h := (congrFun (congrFun ej1 x2_2) u3).symm.trans h
      have Lgo4 : ∀ (n : Nat) (x2_5 : Int) (u6 : uS), xl2 (s_X10_saysNumber_18 x1) n x2_5 u6 = some (r, u') → xG p l e rX10_saysNumber s m args below meth c t Q 3 0 0 18 u6 [(2, .int (iI x2_5)), (0, .ref (t.2.2.1 40)), (1, .int (iI x1))] [] := by
        intro n x2_5 u6 h
        refine xl2_W (F := s_X10_saysNumber_18 x1) (fun x2_5 u6 q => q = (r, u') → xG p l e rX10_saysNumber s m args below meth c t Q 3 0 0 18 u6 [(2, .int (iI x2_5)), (0, .ref (t.2.2.1 40)), (1, .int (iI x1))] []) ?_ n x2_5 u6 _ h rfl
        intro go4 igo4 x2_5 u6 q h hq H locs ls hG hS hl
        subst hq
        unfold s_X10_saysNumber_18 at h
        refine lv_iload_n X.1.1 X.1.2.1 dX10_saysNumber_18 rfl (lv_at hl 0 rfl) ?_
        obtain ⟨g7, h⟩ := xgd_of h
        refine x_if_le (tgt := 58) X g7 dX10_saysNumber_19 (by decide) (fun c8 => ?_) (fun c8 => ?_)
        · replace h := xif_t h c8
          cases h
          exact hret _ _ _ _ dX10_saysNumber_58 hG hS
        · replace h := xif_f h c8
          refine lv_aload_n X.1.1 X.1.2.1 dX10_saysNumber_22 rfl (lv_at hl 1 rfl) ?_
          refine x_getr X hG 14 19 40 9 (inC := iX10) rfl q40.1 q40.2 ⟨by decide, by decide, by decide, rfl, by decide, by decide⟩ w1 dX10_saysNumber_23 ?_
          refine lv_aload_n X.1.1 X.1.2.1 dX10_saysNumber_26 rfl (lv_at hl 1 rfl) ?_
          refine x_geti X hG 14 20 40 20 (inC := iX10) rfl q40.1 q40.2 ⟨by decide, by decide, by decide, rfl, rfl⟩ w2 dX10_saysNumber_27 ?_
          refine x_bipush X dX10_saysNumber_30 (by decide) ?_
          refine lv_iload_n X.1.1 X.1.2.1 dX10_saysNumber_32 rfl (lv_at hl 2 rfl) ?_
          refine lv_iload_n X.1.1 X.1.2.1 dX10_saysNumber_33 rfl (lv_at hl 0 rfl) ?_
          obtain ⟨g9, h⟩ := xgd_of h
          refine x_idiv X g9.1 g9.2.1 g9.2.2 dX10_saysNumber_34 ?_
          refine x_bipush X dX10_saysNumber_35 (by decide) ?_
          obtain ⟨g10, h⟩ := xgd_of h
          refine x_irem X g10 ⟨by decide, by decide⟩ (by decide) dX10_saysNumber_37 ?_
          refine x_iadd X dX10_saysNumber_38 ?_
          obtain ⟨g11, h⟩ := xgd_of h
          refine x_iast X hG hS q49.1 q49.2.1 (n := 80) q49.2.2 g11 (by decide) dX10_saysNumber_39 (fun H locs hG hS => ?_)
          obtain ⟨u12, eu12, h⟩ := xlet_of h
          replace hG : G t u12 H := by rw [eu12]; exact hG
          refine lv_aload_n X.1.1 X.1.2.1 dX10_saysNumber_40 rfl (lv_at hl 1 rfl) ?_
          refine lv_dup X.1.1 X.1.2.1 dX10_saysNumber_41 rfl ?_
          refine x_geti X hG 14 20 40 20 (inC := iX10) rfl q40.1 q40.2 ⟨by decide, by decide, by decide, rfl, rfl⟩ w2 dX10_saysNumber_42 ?_
          refine x_iconst X dX10_saysNumber_45 ?_
          refine x_iadd X dX10_saysNumber_46 ?_
          refine x_puti X hG hS 14 20 40 20 _ tyX10 tyX10_ok nmX10 (inC := iX10) rfl q40.1 q40.2 ⟨by decide, by decide, by decide, rfl, rfl⟩ rfl (by decide +kernel) w2 dX10_saysNumber_47 (fun H locs hG hS => ?_)
          obtain ⟨u13, eu13, h⟩ := xlet_of h
          replace hG : G t u13 H := by rw [eu13]; exact hG
          refine lv_iload_n X.1.1 X.1.2.1 dX10_saysNumber_50 rfl (lv_at hl 0 rfl) ?_
          refine x_bipush X dX10_saysNumber_51 (by decide) ?_
          obtain ⟨g14, h⟩ := xgd_of h
          refine x_idiv X g14 ⟨by decide, by decide⟩ (by decide) dX10_saysNumber_53 ?_
          refine x_name (fun x2_15 ex2_15 => ?_)
          replace h := xlet_at ex2_15 h
          refine lv_istore_n (lv' := [(2, .int (iI x2_15)), (0, .ref (t.2.2.1 40)), (1, .int (iI x1))]) X.1.1 X.1.2.1 dX10_saysNumber_54 rfl hl (by decide) rfl (fun ls hl => ?_)
          refine lv_goto (tgt := 18) X.1.1 X.1.2.1 dX10_saysNumber_55 (by decide) ?_
          exact igo4 _ _ _ h rfl _ _ _ hG hS (lv_sub hl [0, 1, 2] rfl)
      exact Lgo4 FU _ _ h _ _ _ hG hS (lv_sub hl [2, 0, 1] rfl)
  have Lgo16 : ∀ (n : Nat) (x2_17 : Int) (u18 : uS), xl2 (s_X10_saysNumber_2 x1 j1) n x2_17 u18 = some (r, u') → xG p l e rX10_saysNumber s m args below meth c t Q 3 0 0 2 u18 [(2, .int (iI x2_17)), (0, .ref (t.2.2.1 40)), (1, .int (iI x1))] [] := by
    intro n x2_17 u18 h
    refine xl2_W (F := s_X10_saysNumber_2 x1 j1) (fun x2_17 u18 q => q = (r, u') → xG p l e rX10_saysNumber s m args below meth c t Q 3 0 0 2 u18 [(2, .int (iI x2_17)), (0, .ref (t.2.2.1 40)), (1, .int (iI x1))] []) ?_ n x2_17 u18 _ h rfl
    intro go16 igo16 x2_17 u18 q h hq H locs ls hG hS hl
    subst hq
    unfold s_X10_saysNumber_2 at h
    refine lv_iload_n X.1.1 X.1.2.1 dX10_saysNumber_2 rfl (lv_at hl 2 rfl) ?_
    refine lv_iload_n X.1.1 X.1.2.1 dX10_saysNumber_3 rfl (lv_at hl 0 rfl) ?_
    obtain ⟨g19, h⟩ := xgd_of h
    refine x_idiv X g19.1 g19.2.1 g19.2.2 dX10_saysNumber_4 ?_
    refine x_bipush X dX10_saysNumber_5 (by decide) ?_
    obtain ⟨g20, h⟩ := xgd_of h
    refine x_icmp_le (tgt := 18) X g20 ⟨by decide, by decide⟩ dX10_saysNumber_7 (by decide) (fun c21 => ?_) (fun c21 => ?_)
    · replace h := xif_t h c21
      exact Jj1 _ _ h _ _ _ hG hS (lv_sub hl [1, 2, 0] rfl)
    · replace h := xif_f h c21
      refine lv_iload_n X.1.1 X.1.2.1 dX10_saysNumber_10 rfl (lv_at hl 0 rfl) ?_
      refine x_bipush X dX10_saysNumber_11 (by decide) ?_
      refine x_imul X dX10_saysNumber_13 ?_
      refine x_name (fun x2_22 ex2_22 => ?_)
      replace h := xlet_at ex2_22 h
      refine lv_istore_n (lv' := [(2, .int (iI x2_22)), (0, .ref (t.2.2.1 40)), (1, .int (iI x1))]) X.1.1 X.1.2.1 dX10_saysNumber_14 rfl hl (by decide) rfl (fun ls hl => ?_)
      refine lv_goto (tgt := 2) X.1.1 X.1.2.1 dX10_saysNumber_15 (by decide) ?_
      exact igo16 _ _ _ h rfl _ _ _ hG hS (lv_sub hl [0, 1, 2] rfl)
  exact Lgo16 FU _ _ h _ _ _ hG hS (lv_sub hl [0, 1, 2] rfl)
theorem hd_X10_saysNumber : yX10_saysNumber.cls = RX10 ∧ yX10_saysNumber.cls ≠ "java/lang/invoke/MethodHandle" ∧ yX10_saysNumber.cls ≠ "java/lang/invoke/VarHandle" ∧ (parseMethodDescriptor yX10_saysNumber.desc).map (fun d => d.parameters.length) = some 1 := by decide +kernel
abbrev rX10_describedByte : Room := { frames := 1, cells := 0, slots := 0, locals := 22 }
set_option maxRecDepth 100000 in
set_option maxHeartbeats 8000000 in
theorem c_X10_describedByte (l : Launch) (t : gP) (x1 : Int) (u : uS) (r : Int) (u' : uS) (h : f_X10_describedByte x1 u = some (r, u')) : xMi l yX10_describedByte wsX10_describedByte rX10_describedByte t [.ref (t.2.2.1 40), .int (iI x1)] u r u' 0 0 := by
  refine x_ofWi (cc := cX10_describedByte) (maxL := 2) (ret := .int) (own := RX10) (by decide) rfl rfl (Nat.le_of_ble_eq_true rfl) ?_
  intro p e s m args below meth c Q X hret H locs ls hG hS hl
  replace hl : lv_has ls 2 [(0, .ref (t.2.2.1 40)), (1, .int (iI x1))] := hl
  have q40 : 40 < NN ∧ sT 40 = 14 := by decide
  have iX10 : ∀ w ∈ wsX100, w ∈ wsX10_describedByte := by decide +kernel
  have w1 : Cond.fieldLink RX10 64 "TriggerNetworkModel" "thrown" "I" ∈ wsX10_describedByte := x_w 1 rfl
  have w2 : Cond.fieldLink RX10 283 "TriggerNetworkModel" "saidMany" "I" ∈ wsX10_describedByte := x_w 2 rfl
  have w3 : Cond.fieldLink RX10 39 "TriggerNetworkModel" "said" "[I" ∈ wsX10_describedByte := x_w 3 rfl
  have q49 : 49 < NN ∧ sT 49 = 100 ∧ sN 49 = 80 := by decide
  unfold f_X10_describedByte at h
  refine lv_aload_n X.1.1 X.1.2.1 dX10_describedByte_0 rfl (lv_at hl 0 rfl) ?_
  refine x_iconst X dX10_describedByte_1 ?_
  refine x_puti X hG hS 14 0 40 0 _ tyX10 tyX10_ok nmX10 (inC := iX10) rfl q40.1 q40.2 ⟨by decide, by decide, by decide, rfl, rfl⟩ rfl (by decide +kernel) w1 dX10_describedByte_2 (fun H locs hG hS => ?_)
  obtain ⟨u1, eu1, h⟩ := xlet_of h
  replace hG : G t u1 H := by rw [eu1]; exact hG
  refine lv_iload_n X.1.1 X.1.2.1 dX10_describedByte_5 rfl (lv_at hl 1 rfl) ?_
  refine x_iconst X dX10_describedByte_6 ?_
  refine lv_aload_n X.1.1 X.1.2.1 dX10_describedByte_7 rfl (lv_at hl 0 rfl) ?_
  refine x_geti X hG 14 20 40 20 (inC := iX10) rfl q40.1 q40.2 ⟨by decide, by decide, by decide, rfl, rfl⟩ w2 dX10_describedByte_8 ?_
  refine x_iconst X dX10_describedByte_11 ?_
  refine x_isub X dX10_describedByte_12 ?_
  obtain ⟨v2, u3, hf, h⟩ := xbd_of h
  refine x_callSi0 X hG hS (c_X10_within l t _ _ _ _ _ _ hf) (va_cwS 3 X.1.2.2.2.2 gX10_describedByte_X10_within rfl rfl rfl hds_X10_within ⟨Nat.le_of_ble_eq_true rfl, Nat.le_of_ble_eq_true rfl⟩) (by rfl) hl.1 (Nat.le_of_ble_eq_true rfl) dX10_describedByte_13 ⟨by decide, by decide⟩ rfl (fun H locs hG hS => ?_)
  obtain ⟨g4, h⟩ := xgd_of h
  refine x_if_eq (tgt := 28) X g4 dX10_describedByte_16 (by decide) (fun c5 => ?_) (fun c5 => ?_)
  · replace h := xif_t h c5
    refine x_iconst X dX10_describedByte_28 ?_
    cases h
    exact hret _ _ _ _ dX10_describedByte_29 rfl hG hS
  · replace h := xif_f h c5
    refine lv_aload_n X.1.1 X.1.2.1 dX10_describedByte_19 rfl (lv_at hl 0 rfl) ?_
    refine x_getr X hG 14 19 40 9 (inC := iX10) rfl q40.1 q40.2 ⟨by decide, by decide, by decide, rfl, by decide, by decide⟩ w3 dX10_describedByte_20 ?_
    refine lv_iload_n X.1.1 X.1.2.1 dX10_describedByte_23 rfl (lv_at hl 1 rfl) ?_
    obtain ⟨g6, h⟩ := xgd_of h
    refine x_iald X hG q49.1 q49.2.1 (n := 80) q49.2.2 g6 (by decide) dX10_describedByte_24 ?_
    refine lv_goto (tgt := 29) X.1.1 X.1.2.1 dX10_describedByte_25 (by decide) ?_
    cases h
    exact hret _ _ _ _ dX10_describedByte_29 rfl hG hS
theorem hd_X10_describedByte : yX10_describedByte.cls = RX10 ∧ yX10_describedByte.cls ≠ "java/lang/invoke/MethodHandle" ∧ yX10_describedByte.cls ≠ "java/lang/invoke/VarHandle" ∧ (parseMethodDescriptor yX10_describedByte.desc).map (fun d => d.parameters.length) = some 1 := by decide +kernel
abbrev rX10_copies : Room := { frames := 0, cells := 0, slots := 0, locals := 0 }
set_option maxRecDepth 100000 in
set_option maxHeartbeats 8000000 in
theorem c_X10_copies (l : Launch) (t : gP) (k0 : Nat) (x1 : Int) (k2 : Nat) (x3 : Int) (x4 : Int) (u : uS) (r : Int) (u' : uS) (h : f_X10_copies k0 x1 k2 x3 x4 u = some (r, u')) : xMv l yX10_copies wsX10_copies rX10_copies t [.ref (t.2.2.1 k0), .int (iI x1), .ref (t.2.2.1 k2), .int (iI x3), .int (iI x4)] u u' 0 0 := by
  refine x_ofWv (cc := cX10_copies) (maxL := 6) (own := RX10) (by decide) rfl rfl (Nat.le_of_ble_eq_true rfl) ?_
  intro p e s m args below meth c Q X hret H locs ls hG hS hl
  replace hl : lv_has ls 6 [(0, .ref (t.2.2.1 k0)), (1, .int (iI x1)), (2, .ref (t.2.2.1 k2)), (3, .int (iI x3)), (4, .int (iI x4))] := hl
  unfold f_X10_copies at h
  obtain ⟨g1, h⟩ := xgd_of h
  refine x_iconst X dX10_copies_0 ?_
  refine lv_istore (lv' := [(5, .int (iI 0)), (0, .ref (t.2.2.1 k0)), (1, .int (iI x1)), (2, .ref (t.2.2.1 k2)), (3, .int (iI x3)), (4, .int (iI x4))]) X.1.1 X.1.2.1 dX10_copies_1 hl (by decide) rfl (fun ls hl => ?_)
  have Lgo2 : ∀ (n : Nat) (x5_3 : Int) (u4 : uS), xl2 (s_X10_copies_3 x4 x1 k0 x3 k2) n x5_3 u4 = some (r, u') → xG p l e rX10_copies s m args below meth c t Q 6 0 0 3 u4 [(5, .int (iI x5_3)), (0, .ref (t.2.2.1 k0)), (1, .int (iI x1)), (2, .ref (t.2.2.1 k2)), (3, .int (iI x3)), (4, .int (iI x4))] [] := by
    intro n x5_3 u4 h
    refine xl2_W (F := s_X10_copies_3 x4 x1 k0 x3 k2) (fun x5_3 u4 q => q = (r, u') → xG p l e rX10_copies s m args below meth c t Q 6 0 0 3 u4 [(5, .int (iI x5_3)), (0, .ref (t.2.2.1 k0)), (1, .int (iI x1)), (2, .ref (t.2.2.1 k2)), (3, .int (iI x3)), (4, .int (iI x4))] []) ?_ n x5_3 u4 _ h rfl
    intro go2 igo2 x5_3 u4 q h hq H locs ls hG hS hl
    subst hq
    unfold s_X10_copies_3 at h
    refine lv_iload X.1.1 X.1.2.1 dX10_copies_3 (lv_at hl 0 rfl) ?_
    refine lv_iload X.1.1 X.1.2.1 dX10_copies_5 (lv_at hl 5 rfl) ?_
    obtain ⟨g5, h⟩ := xgd_of h
    refine x_icmp_ge (tgt := 28) X g5.1 g5.2 dX10_copies_7 (by decide) (fun c6 => ?_) (fun c6 => ?_)
    · replace h := xif_t h c6
      cases h
      exact hret _ _ _ _ dX10_copies_28 hG hS
    · replace h := xif_f h c6
      refine lv_aload_n X.1.1 X.1.2.1 dX10_copies_10 rfl (lv_at hl 3 rfl) ?_
      refine lv_iload_n X.1.1 X.1.2.1 dX10_copies_11 rfl (lv_at hl 4 rfl) ?_
      refine lv_iload X.1.1 X.1.2.1 dX10_copies_12 (lv_at hl 0 rfl) ?_
      refine x_iadd X dX10_copies_14 ?_
      refine lv_aload_n X.1.1 X.1.2.1 dX10_copies_15 rfl (lv_at hl 1 rfl) ?_
      refine lv_iload_n X.1.1 X.1.2.1 dX10_copies_16 rfl (lv_at hl 2 rfl) ?_
      refine lv_iload X.1.1 X.1.2.1 dX10_copies_17 (lv_at hl 0 rfl) ?_
      refine x_iadd X dX10_copies_19 ?_
      obtain ⟨g7, h⟩ := xgd_of h
      refine x_iald X hG (arr_f g1.1).1 (arr_f g1.1).2.1 (arr_f g1.1).2.2 g7 (sN_lt _) dX10_copies_20 ?_
      obtain ⟨g8, h⟩ := xgd_of h
      refine x_iast X hG hS (arr_f g1.2).1 (arr_f g1.2).2.1 (arr_f g1.2).2.2 g8 (sN_lt _) dX10_copies_21 (fun H locs hG hS => ?_)
      obtain ⟨u9, eu9, h⟩ := xlet_of h
      replace hG : G t u9 H := by rw [eu9]; exact hG
      refine lv_iinc (v := (iI (x5_3 + 1))) (lv' := [(5, .int (iI (x5_3 + 1))), (0, .ref (t.2.2.1 k0)), (1, .int (iI x1)), (2, .ref (t.2.2.1 k2)), (3, .int (iI x3)), (4, .int (iI x4))]) X.1.1 X.1.2.1 dX10_copies_22 hl (k := 0) rfl (iI_add _ _) (by decide) rfl (fun ls hl => ?_)
      refine lv_goto (tgt := 3) X.1.1 X.1.2.1 dX10_copies_25 (by decide) ?_
      exact igo2 _ _ _ h rfl _ _ _ hG hS (lv_sub hl [0, 1, 2, 3, 4, 5] rfl)
  exact Lgo2 FU _ _ h _ _ _ hG hS (lv_sub hl [0, 1, 2, 3, 4, 5] rfl)
theorem hds_X10_copies : yX10_copies.cls ≠ "java/lang/invoke/MethodHandle" ∧ yX10_copies.cls ≠ "java/lang/invoke/VarHandle" ∧ (parseMethodDescriptor yX10_copies.desc).map (fun d => d.parameters.length) = some 5 := by decide +kernel
abbrev rX10_ratioAfter : Room := { frames := 3, cells := 0, slots := 0, locals := 70 }
set_option maxRecDepth 100000 in
set_option maxHeartbeats 8000000 in
theorem c_X10_ratioAfter (l : Launch) (t : gP) (x1 : Int) (x2 : Int) (x3 : Int) (u : uS) (r : Int) (u' : uS) (h : f_X10_ratioAfter x1 x2 x3 u = some (r, u')) : xMi l yX10_ratioAfter wsX10_ratioAfter rX10_ratioAfter t [.ref (t.2.2.1 40), .int (iI x1), .int (iI x2), .int (iI x3)] u r u' 0 0 := by
  refine x_ofWi (cc := cX10_ratioAfter) (maxL := 5) (ret := .int) (own := RX10) (by decide) rfl rfl (Nat.le_of_ble_eq_true rfl) ?_
  intro p e s m args below meth c Q X hret H locs ls hG hS hl
  replace hl : lv_has ls 5 [(0, .ref (t.2.2.1 40)), (1, .int (iI x1)), (2, .int (iI x2)), (3, .int (iI x3))] := hl
  have q40 : 40 < NN ∧ sT 40 = 14 := by decide
  have iX10 : ∀ w ∈ wsX100, w ∈ wsX10_ratioAfter := by decide +kernel
  have w1 : Cond.fieldLink RX10 7 "TriggerNetworkModel" "now" "[I" ∈ wsX10_ratioAfter := x_w 1 rfl
  have q41 : 41 < NN ∧ sT 41 = 100 ∧ sN 41 = 1167 := by decide
  have w2 : Cond.fieldLink RX10 42 "TriggerNetworkModel" "was" "[I" ∈ wsX10_ratioAfter := x_w 2 rfl
  have q50 : 50 < NN ∧ sT 50 = 100 ∧ sN 50 = 1167 := by decide
  unfold f_X10_ratioAfter at h
  refine lv_aload_n X.1.1 X.1.2.1 dX10_ratioAfter_0 rfl (lv_at hl 0 rfl) ?_
  refine lv_iload_n X.1.1 X.1.2.1 dX10_ratioAfter_1 rfl (lv_at hl 1 rfl) ?_
  obtain ⟨v1, u2, hf, h⟩ := xbd_of h
  refine x_callVi0 X hG hS (c_X10_noStation l t _ _ _ _ hf) (cwV 1 X.1.2.2.2.2 gX10_ratioAfter_X10_noStation rfl rfl rfl hd_X10_noStation ⟨Nat.le_of_ble_eq_true rfl, Nat.le_of_ble_eq_true rfl⟩) q40.1 q40.2 rfl (by decide) (by rfl) hl.1 (Nat.le_of_ble_eq_true rfl) dX10_ratioAfter_2 ⟨by decide, by decide⟩ rfl (fun H locs hG hS => ?_)
  obtain ⟨g3, h⟩ := xgd_of h
  refine x_if_ne (tgt := 43) X g3 dX10_ratioAfter_5 (by decide) (fun c4 => ?_) (fun c4 => ?_)
  · replace h := xif_f h c4
    refine x_iconst X dX10_ratioAfter_43 ?_
    cases h
    exact hret _ _ _ _ dX10_ratioAfter_44 rfl hG hS
  · replace h := xif_t h c4
    refine lv_aload_n X.1.1 X.1.2.1 dX10_ratioAfter_8 rfl (lv_at hl 0 rfl) ?_
    refine lv_iload_n X.1.1 X.1.2.1 dX10_ratioAfter_9 rfl (lv_at hl 2 rfl) ?_
    refine x_iconst X dX10_ratioAfter_10 ?_
    refine x_sipush X dX10_ratioAfter_11 (by decide) ?_
    obtain ⟨v5, u6, hf, h⟩ := xbd_of h
    refine x_callSi0 X hG hS (c_X10_within l t _ _ _ _ _ _ hf) (va_cwS 3 X.1.2.2.2.2 gX10_ratioAfter_X10_within rfl rfl rfl hds_X10_within ⟨Nat.le_of_ble_eq_true rfl, Nat.le_of_ble_eq_true rfl⟩) (by rfl) hl.1 (Nat.le_of_ble_eq_true rfl) dX10_ratioAfter_14 ⟨by decide, by decide⟩ rfl (fun H locs hG hS => ?_)
    obtain ⟨g7, h⟩ := xgd_of h
    obtain ⟨j8, ej8, h⟩ := xlet_of h
    have Jj8 : ∀ (s9 : Int) (u10 : uS), j8 s9 u10 = some (r, u') → xG p l e rX10_ratioAfter s m args below meth c t Q 5 0 0 36 u10 [(0, .ref (t.2.2.1 40)), (1, .int (iI x1)), (2, .int (iI x2)), (3, .int (iI x3))] [.int (iI s9), .ref (t.2.2.1 40)] := by
        intro s9 u10 h H locs ls hG hS hl
        replace h := (congrFun (congrFun ej8 s9) u10).symm.trans h
        refine x_iconst X dX10_ratioAfter_36 ?_
        obtain ⟨v11, u12, hf, h⟩ := xbd_of h
        refine x_callVi0 X hG hS (c_X10_throwsIf l t _ _ _ _ _ hf) (cwV 2 X.1.2.2.2.2 gX10_ratioAfter_X10_throwsIf rfl rfl rfl hd_X10_throwsIf ⟨Nat.le_of_ble_eq_true rfl, Nat.le_of_ble_eq_true rfl⟩) q40.1 q40.2 rfl (by decide) (by rfl) hl.1 (Nat.le_of_ble_eq_true rfl) dX10_ratioAfter_37 ⟨by decide, by decide⟩ rfl (fun H locs hG hS => ?_)
        obtain ⟨g13, h⟩ := xgd_of h
        refine x_if_eq (tgt := 45) X g13 dX10_ratioAfter_40 (by decide) (fun c14 => ?_) (fun c14 => ?_)
        · replace h := xif_t h c14
          refine lv_aload_n X.1.1 X.1.2.1 dX10_ratioAfter_45 rfl (lv_at hl 0 rfl) ?_
          refine x_getr X hG 14 1 40 1 (inC := iX10) rfl q40.1 q40.2 ⟨by decide, by decide, by decide, rfl, by decide, by decide⟩ w1 dX10_ratioAfter_46 ?_
          refine x_iconst X dX10_ratioAfter_49 ?_
          refine lv_aload_n X.1.1 X.1.2.1 dX10_ratioAfter_50 rfl (lv_at hl 0 rfl) ?_
          refine x_getr X hG 14 21 40 10 (inC := iX10) rfl q40.1 q40.2 ⟨by decide, by decide, by decide, rfl, by decide, by decide⟩ w2 dX10_ratioAfter_51 ?_
          refine x_iconst X dX10_ratioAfter_54 ?_
          refine x_sipush X dX10_ratioAfter_55 (by decide) ?_
          obtain ⟨v15, u16, hf, h⟩ := xbd_of h
          refine x_callSv0 X hG hS (c_X10_copies l t _ _ _ _ _ _ _ _ hf) (va_cwS 5 X.1.2.2.2.2 gX10_ratioAfter_X10_copies rfl rfl rfl hds_X10_copies ⟨Nat.le_of_ble_eq_true rfl, Nat.le_of_ble_eq_true rfl⟩) (by rfl) hl.1 (Nat.le_of_ble_eq_true rfl) dX10_ratioAfter_58 ⟨by decide, by decide⟩ rfl (fun H locs hG hS => ?_)
          refine x_iconst X dX10_ratioAfter_61 ?_
          refine lv_istore (lv' := [(4, .int (iI 0)), (0, .ref (t.2.2.1 40)), (1, .int (iI x1)), (2, .int (iI x2)), (3, .int (iI x3))]) X.1.1 X.1.2.1 dX10_ratioAfter_62 hl (by decide) rfl (fun ls hl => ?_)
          obtain ⟨j17, ej17, h⟩ := xlet_of h
          have Jj17 : ∀ (u18 : uS), j17 u18 = some (r, u') → xG p l e rX10_ratioAfter s m args below meth c t Q 5 0 0 102 u18 [(0, .ref (t.2.2.1 40)), (1, .int (iI x1))] [] := by
              intro u18 h H locs ls hG hS hl
              replace h := (congrFun ej17 u18).symm.trans h
              refine lv_aload_n X.1.1 X.1.2.1 dX10_ratioAfter_102 rfl (lv_at hl 0 rfl) ?_
              refine lv_iload_n X.1.1 X.1.2.1 dX10_ratioAfter_103 rfl (lv_at hl 1 rfl) ?_
              obtain ⟨v19, u20, hf, h⟩ := xbd_of h
              refine x_callVi0 X hG hS (c_X10_ratioOf l t _ _ _ _ hf) (cwV 1 X.1.2.2.2.2 gX10_ratioAfter_X10_ratioOf rfl rfl rfl hd_X10_ratioOf ⟨Nat.le_of_ble_eq_true rfl, Nat.le_of_ble_eq_true rfl⟩) q40.1 q40.2 rfl (by decide) (by rfl) hl.1 (Nat.le_of_ble_eq_true rfl) dX10_ratioAfter_104 ⟨by decide, by decide⟩ rfl (fun H locs hG hS => ?_)
              refine lv_istore (lv' := [(4, .int (iI v19)), (0, .ref (t.2.2.1 40)), (1, .int (iI x1))]) X.1.1 X.1.2.1 dX10_ratioAfter_107 hl (by decide) rfl (fun ls hl => ?_)
              refine lv_aload_n X.1.1 X.1.2.1 dX10_ratioAfter_109 rfl (lv_at hl 1 rfl) ?_
              refine x_getr X hG 14 21 40 10 (inC := iX10) rfl q40.1 q40.2 ⟨by decide, by decide, by decide, rfl, by decide, by decide⟩ w2 dX10_ratioAfter_110 ?_
              refine x_iconst X dX10_ratioAfter_113 ?_
              refine lv_aload_n X.1.1 X.1.2.1 dX10_ratioAfter_114 rfl (lv_at hl 1 rfl) ?_
              refine x_getr X hG 14 1 40 1 (inC := iX10) rfl q40.1 q40.2 ⟨by decide, by decide, by decide, rfl, by decide, by decide⟩ w1 dX10_ratioAfter_115 ?_
              refine x_iconst X dX10_ratioAfter_118 ?_
              refine x_sipush X dX10_ratioAfter_119 (by decide) ?_
              obtain ⟨v21, u22, hf, h⟩ := xbd_of h
              refine x_callSv0 X hG hS (c_X10_copies l t _ _ _ _ _ _ _ _ hf) (va_cwS 5 X.1.2.2.2.2 gX10_ratioAfter_X10_copies rfl rfl rfl hds_X10_copies ⟨Nat.le_of_ble_eq_true rfl, Nat.le_of_ble_eq_true rfl⟩) (by rfl) hl.1 (Nat.le_of_ble_eq_true rfl) dX10_ratioAfter_122 ⟨by decide, by decide⟩ rfl (fun H locs hG hS => ?_)
              refine lv_iload X.1.1 X.1.2.1 dX10_ratioAfter_125 (lv_at hl 0 rfl) ?_
              cases h
              exact hret _ _ _ _ dX10_ratioAfter_127 rfl hG hS
          have Lgo23 : ∀ (n : Nat) (x4_24 : Int) (u25 : uS), xl2 (s_X10_ratioAfter_64 x3 j17 x1 x2) n x4_24 u25 = some (r, u') → xG p l e rX10_ratioAfter s m args below meth c t Q 5 0 0 64 u25 [(4, .int (iI x4_24)), (0, .ref (t.2.2.1 40)), (1, .int (iI x1)), (2, .int (iI x2)), (3, .int (iI x3))] [] := by
            intro n x4_24 u25 h
            refine xl2_W (F := s_X10_ratioAfter_64 x3 j17 x1 x2) (fun x4_24 u25 q => q = (r, u') → xG p l e rX10_ratioAfter s m args below meth c t Q 5 0 0 64 u25 [(4, .int (iI x4_24)), (0, .ref (t.2.2.1 40)), (1, .int (iI x1)), (2, .int (iI x2)), (3, .int (iI x3))] []) ?_ n x4_24 u25 _ h rfl
            intro go23 igo23 x4_24 u25 q h hq H locs ls hG hS hl
            subst hq
            unfold s_X10_ratioAfter_64 at h
            refine lv_iload X.1.1 X.1.2.1 dX10_ratioAfter_64 (lv_at hl 0 rfl) ?_
            refine lv_iload_n X.1.1 X.1.2.1 dX10_ratioAfter_66 rfl (lv_at hl 4 rfl) ?_
            obtain ⟨g26, h⟩ := xgd_of h
            refine x_icmp_ge (tgt := 102) X g26.1 g26.2 dX10_ratioAfter_67 (by decide) (fun c27 => ?_) (fun c27 => ?_)
            · replace h := xif_t h c27
              exact Jj17 _ h _ _ _ hG hS (lv_sub hl [1, 2] rfl)
            · replace h := xif_f h c27
              refine lv_aload_n X.1.1 X.1.2.1 dX10_ratioAfter_70 rfl (lv_at hl 1 rfl) ?_
              refine x_getr X hG 14 1 40 1 (inC := iX10) rfl q40.1 q40.2 ⟨by decide, by decide, by decide, rfl, by decide, by decide⟩ w1 dX10_ratioAfter_71 ?_
              refine x_iconst X dX10_ratioAfter_74 ?_
              refine lv_dup2_11 X.1.1 X.1.2.1 dX10_ratioAfter_75 rfl rfl ?_
              refine x_iald X hG q41.1 q41.2.1 (n := 1167) q41.2.2 ⟨by decide, by decide⟩ (by decide) dX10_ratioAfter_76 ?_
              refine x_iconst X dX10_ratioAfter_77 ?_
              refine x_iadd X dX10_ratioAfter_78 ?_
              refine x_iast X hG hS q41.1 q41.2.1 (n := 1167) q41.2.2 ⟨by decide, by decide⟩ (by decide) dX10_ratioAfter_79 (fun H locs hG hS => ?_)
              obtain ⟨u28, eu28, h⟩ := xlet_of h
              replace hG : G t u28 H := by rw [eu28]; exact hG
              refine lv_aload_n X.1.1 X.1.2.1 dX10_ratioAfter_80 rfl (lv_at hl 1 rfl) ?_
              refine x_getr X hG 14 1 40 1 (inC := iX10) rfl q40.1 q40.2 ⟨by decide, by decide, by decide, rfl, by decide, by decide⟩ w1 dX10_ratioAfter_81 ?_
              refine lv_iload_n X.1.1 X.1.2.1 dX10_ratioAfter_84 rfl (lv_at hl 2 rfl) ?_
              refine lv_aload_n X.1.1 X.1.2.1 dX10_ratioAfter_85 rfl (lv_at hl 1 rfl) ?_
              refine x_getr X hG 14 1 40 1 (inC := iX10) rfl q40.1 q40.2 ⟨by decide, by decide, by decide, rfl, by decide, by decide⟩ w1 dX10_ratioAfter_86 ?_
              refine x_iconst X dX10_ratioAfter_89 ?_
              refine x_iald X hG q41.1 q41.2.1 (n := 1167) q41.2.2 ⟨by decide, by decide⟩ (by decide) dX10_ratioAfter_90 ?_
              obtain ⟨v29, u30, hf, h⟩ := xbd_of h
              refine x_callSi0 X hG hS (c_X10_ringAt l t _ _ _ _ _ hf) (va_cwS 2 X.1.2.2.2.2 gX10_ratioAfter_X10_ringAt rfl rfl rfl hds_X10_ringAt ⟨Nat.le_of_ble_eq_true rfl, Nat.le_of_ble_eq_true rfl⟩) (by rfl) hl.1 (Nat.le_of_ble_eq_true rfl) dX10_ratioAfter_91 ⟨by decide, by decide⟩ rfl (fun H locs hG hS => ?_)
              refine lv_iload_n X.1.1 X.1.2.1 dX10_ratioAfter_94 rfl (lv_at hl 3 rfl) ?_
              obtain ⟨g31, h⟩ := xgd_of h
              refine x_iast X hG hS q41.1 q41.2.1 (n := 1167) q41.2.2 g31 (by decide) dX10_ratioAfter_95 (fun H locs hG hS => ?_)
              obtain ⟨u32, eu32, h⟩ := xlet_of h
              replace hG : G t u32 H := by rw [eu32]; exact hG
              refine lv_iinc (v := (iI (x4_24 + 1))) (lv' := [(4, .int (iI (x4_24 + 1))), (0, .ref (t.2.2.1 40)), (1, .int (iI x1)), (2, .int (iI x2)), (3, .int (iI x3))]) X.1.1 X.1.2.1 dX10_ratioAfter_96 hl (k := 0) rfl (iI_add _ _) (by decide) rfl (fun ls hl => ?_)
              refine lv_goto (tgt := 64) X.1.1 X.1.2.1 dX10_ratioAfter_99 (by decide) ?_
              exact igo23 _ _ _ h rfl _ _ _ hG hS (lv_sub hl [0, 1, 2, 3, 4] rfl)
          exact Lgo23 FU _ _ h _ _ _ hG hS (lv_sub hl [0, 1, 2, 3, 4] rfl)
        · replace h := xif_f h c14
          refine x_iconst X dX10_ratioAfter_43 ?_
          cases h
          exact hret _ _ _ _ dX10_ratioAfter_44 rfl hG hS
    refine x_if_eq (tgt := 31) X g7 dX10_ratioAfter_17 (by decide) (fun c33 => ?_) (fun c33 => ?_)
    · replace h := xif_t h c33
      refine x_iconst X dX10_ratioAfter_31 ?_
      refine lv_goto (tgt := 36) X.1.1 X.1.2.1 dX10_ratioAfter_32 (by decide) ?_
      exact Jj8 _ _ h _ _ _ hG hS (lv_sub hl [0, 1, 2, 3] rfl)
    · replace h := xif_f h c33
      refine lv_iload_n X.1.1 X.1.2.1 dX10_ratioAfter_20 rfl (lv_at hl 3 rfl) ?_
      refine x_iconst X dX10_ratioAfter_21 ?_
      refine x_sipush X dX10_ratioAfter_22 (by decide) ?_
      obtain ⟨v34, u35, hf, h⟩ := xbd_of h
      refine x_callSi0 X hG hS (c_X10_within l t _ _ _ _ _ _ hf) (va_cwS 3 X.1.2.2.2.2 gX10_ratioAfter_X10_within rfl rfl rfl hds_X10_within ⟨Nat.le_of_ble_eq_true rfl, Nat.le_of_ble_eq_true rfl⟩) (by rfl) hl.1 (Nat.le_of_ble_eq_true rfl) dX10_ratioAfter_25 ⟨by decide, by decide⟩ rfl (fun H locs hG hS => ?_)
      obtain ⟨g36, h⟩ := xgd_of h
      refine x_if_ne (tgt := 35) X g36 dX10_ratioAfter_28 (by decide) (fun c37 => ?_) (fun c37 => ?_)
      · replace h := xif_f h c37
        refine x_iconst X dX10_ratioAfter_35 ?_
        exact Jj8 _ _ h _ _ _ hG hS (lv_sub hl [0, 1, 2, 3] rfl)
      · replace h := xif_t h c37
        refine x_iconst X dX10_ratioAfter_31 ?_
        refine lv_goto (tgt := 36) X.1.1 X.1.2.1 dX10_ratioAfter_32 (by decide) ?_
        exact Jj8 _ _ h _ _ _ hG hS (lv_sub hl [0, 1, 2, 3] rfl)
theorem hd_X10_ratioAfter : yX10_ratioAfter.cls = RX10 ∧ yX10_ratioAfter.cls ≠ "java/lang/invoke/MethodHandle" ∧ yX10_ratioAfter.cls ≠ "java/lang/invoke/VarHandle" ∧ (parseMethodDescriptor yX10_ratioAfter.desc).map (fun d => d.parameters.length) = some 3 := by decide +kernel
abbrev rX10_retracts : Room := { frames := 2, cells := 0, slots := 0, locals := 43 }
set_option maxRecDepth 100000 in
set_option maxHeartbeats 8000000 in
theorem c_X10_retracts (l : Launch) (t : gP) (x1 : Int) (u : uS) (r : Int) (u' : uS) (h : f_X10_retracts x1 u = some (r, u')) : xMv l yX10_retracts wsX10_retracts rX10_retracts t [.ref (t.2.2.1 40), .int (iI x1)] u u' 0 0 := by
  refine x_ofWv (cc := cX10_retracts) (maxL := 2) (own := RX10) (by decide) rfl rfl (Nat.le_of_ble_eq_true rfl) ?_
  intro p e s m args below meth c Q X hret H locs ls hG hS hl
  replace hl : lv_has ls 2 [(0, .ref (t.2.2.1 40)), (1, .int (iI x1))] := hl
  have q40 : 40 < NN ∧ sT 40 = 14 := by decide
  have iX10 : ∀ w ∈ wsX100, w ∈ wsX10_retracts := by decide +kernel
  have w1 : Cond.fieldLink RX10 7 "TriggerNetworkModel" "now" "[I" ∈ wsX10_retracts := x_w 1 rfl
  have q41 : 41 < NN ∧ sT 41 = 100 ∧ sN 41 = 1167 := by decide
  unfold f_X10_retracts at h
  refine lv_aload_n X.1.1 X.1.2.1 dX10_retracts_0 rfl (lv_at hl 0 rfl) ?_
  refine x_getr X hG 14 1 40 1 (inC := iX10) rfl q40.1 q40.2 ⟨by decide, by decide, by decide, rfl, by decide, by decide⟩ w1 dX10_retracts_1 ?_
  refine x_sipush X dX10_retracts_4 (by decide) ?_
  refine x_iconst X dX10_retracts_7 ?_
  refine lv_iload_n X.1.1 X.1.2.1 dX10_retracts_8 rfl (lv_at hl 1 rfl) ?_
  refine x_imul X dX10_retracts_9 ?_
  refine x_iadd X dX10_retracts_10 ?_
  refine x_iconst X dX10_retracts_11 ?_
  obtain ⟨g1, h⟩ := xgd_of h
  refine x_iast X hG hS q41.1 q41.2.1 (n := 1167) q41.2.2 g1 (by decide) dX10_retracts_12 (fun H locs hG hS => ?_)
  obtain ⟨u2, eu2, h⟩ := xlet_of h
  replace hG : G t u2 H := by rw [eu2]; exact hG
  refine lv_aload_n X.1.1 X.1.2.1 dX10_retracts_13 rfl (lv_at hl 0 rfl) ?_
  refine lv_iload_n X.1.1 X.1.2.1 dX10_retracts_14 rfl (lv_at hl 1 rfl) ?_
  obtain ⟨v3, u4, hf, h⟩ := xbd_of h
  refine x_callVv0 X hG hS (c_X10_frees l t _ _ _ _ hf) (cwV 1 X.1.2.2.2.2 gX10_retracts_X10_frees rfl rfl rfl hd_X10_frees ⟨Nat.le_of_ble_eq_true rfl, Nat.le_of_ble_eq_true rfl⟩) q40.1 q40.2 rfl (by decide) (by rfl) hl.1 (Nat.le_of_ble_eq_true rfl) dX10_retracts_15 ⟨by decide, by decide⟩ rfl (fun H locs hG hS => ?_)
  cases h
  exact hret _ _ _ _ dX10_retracts_18 hG hS
theorem hd_X10_retracts : yX10_retracts.cls = RX10 ∧ yX10_retracts.cls ≠ "java/lang/invoke/MethodHandle" ∧ yX10_retracts.cls ≠ "java/lang/invoke/VarHandle" ∧ (parseMethodDescriptor yX10_retracts.desc).map (fun d => d.parameters.length) = some 1 := by decide +kernel
abbrev rX10_mutes : Room := { frames := 3, cells := 0, slots := 0, locals := 64 }
set_option maxRecDepth 100000 in
set_option maxHeartbeats 8000000 in
theorem c_X10_mutes (l : Launch) (t : gP) (x1 : Int) (u : uS) (r : Int) (u' : uS) (h : f_X10_mutes x1 u = some (r, u')) : xMi l yX10_mutes wsX10_mutes rX10_mutes t [.ref (t.2.2.1 40), .int (iI x1)] u r u' 0 0 := by
  refine x_ofWi (cc := cX10_mutes) (maxL := 5) (ret := .int) (own := RX10) (by decide) rfl rfl (Nat.le_of_ble_eq_true rfl) ?_
  intro p e s m args below meth c Q X hret H locs ls hG hS hl
  replace hl : lv_has ls 5 [(0, .ref (t.2.2.1 40)), (1, .int (iI x1))] := hl
  have q40 : 40 < NN ∧ sT 40 = 14 := by decide
  have iX10 : ∀ w ∈ wsX100, w ∈ wsX10_mutes := by decide +kernel
  have w1 : Cond.fieldLink RX10 7 "TriggerNetworkModel" "now" "[I" ∈ wsX10_mutes := x_w 1 rfl
  have q41 : 41 < NN ∧ sT 41 = 100 ∧ sN 41 = 1167 := by decide
  have w2 : Cond.fieldLink RX10 13 "TriggerNetworkModel" "told" "[I" ∈ wsX10_mutes := x_w 2 rfl
  have q42 : 42 < NN ∧ sT 42 = 100 ∧ sN 42 = 30 := by decide
  unfold f_X10_mutes at h
  refine lv_aload_n X.1.1 X.1.2.1 dX10_mutes_0 rfl (lv_at hl 0 rfl) ?_
  refine x_getr X hG 14 1 40 1 (inC := iX10) rfl q40.1 q40.2 ⟨by decide, by decide, by decide, rfl, by decide, by decide⟩ w1 dX10_mutes_1 ?_
  refine lv_iload_n X.1.1 X.1.2.1 dX10_mutes_4 rfl (lv_at hl 1 rfl) ?_
  refine x_iconst X dX10_mutes_5 ?_
  obtain ⟨v1, u2, hf, h⟩ := xbd_of h
  refine x_callSi0 X hG hS (c_X10_at l t _ _ _ _ _ hf) (va_cwS 2 X.1.2.2.2.2 gX10_mutes_X10_at rfl rfl rfl hds_X10_at ⟨Nat.le_of_ble_eq_true rfl, Nat.le_of_ble_eq_true rfl⟩) (by rfl) hl.1 (Nat.le_of_ble_eq_true rfl) dX10_mutes_6 ⟨by decide, by decide⟩ rfl (fun H locs hG hS => ?_)
  refine x_iconst X dX10_mutes_9 ?_
  obtain ⟨g3, h⟩ := xgd_of h
  refine x_iast X hG hS q41.1 q41.2.1 (n := 1167) q41.2.2 g3 (by decide) dX10_mutes_10 (fun H locs hG hS => ?_)
  obtain ⟨u4, eu4, h⟩ := xlet_of h
  replace hG : G t u4 H := by rw [eu4]; exact hG
  refine lv_aload_n X.1.1 X.1.2.1 dX10_mutes_11 rfl (lv_at hl 0 rfl) ?_
  refine x_getr X hG 14 1 40 1 (inC := iX10) rfl q40.1 q40.2 ⟨by decide, by decide, by decide, rfl, by decide, by decide⟩ w1 dX10_mutes_12 ?_
  refine lv_iload_n X.1.1 X.1.2.1 dX10_mutes_15 rfl (lv_at hl 1 rfl) ?_
  refine x_iconst X dX10_mutes_16 ?_
  obtain ⟨v5, u6, hf, h⟩ := xbd_of h
  refine x_callSi0 X hG hS (c_X10_at l t _ _ _ _ _ hf) (va_cwS 2 X.1.2.2.2.2 gX10_mutes_X10_at rfl rfl rfl hds_X10_at ⟨Nat.le_of_ble_eq_true rfl, Nat.le_of_ble_eq_true rfl⟩) (by rfl) hl.1 (Nat.le_of_ble_eq_true rfl) dX10_mutes_17 ⟨by decide, by decide⟩ rfl (fun H locs hG hS => ?_)
  refine x_iconst X dX10_mutes_20 ?_
  obtain ⟨g7, h⟩ := xgd_of h
  refine x_iast X hG hS q41.1 q41.2.1 (n := 1167) q41.2.2 g7 (by decide) dX10_mutes_21 (fun H locs hG hS => ?_)
  obtain ⟨u8, eu8, h⟩ := xlet_of h
  replace hG : G t u8 H := by rw [eu8]; exact hG
  refine x_iconst X dX10_mutes_22 ?_
  refine lv_istore_n (lv' := [(2, .int (iI 0)), (0, .ref (t.2.2.1 40)), (1, .int (iI x1))]) X.1.1 X.1.2.1 dX10_mutes_23 rfl hl (by decide) rfl (fun ls hl => ?_)
  refine x_iconst X dX10_mutes_24 ?_
  refine lv_istore_n (lv' := [(3, .int (iI 0)), (2, .int (iI 0)), (0, .ref (t.2.2.1 40)), (1, .int (iI x1))]) X.1.1 X.1.2.1 dX10_mutes_25 rfl hl (by decide) rfl (fun ls hl => ?_)
  obtain ⟨j9, ej9, h⟩ := xlet_of h
  have Jj9 : ∀ (x2_10 : Int) (u11 : uS), j9 x2_10 u11 = some (r, u') → xG p l e rX10_mutes s m args below meth c t Q 5 0 0 111 u11 [(0, .ref (t.2.2.1 40)), (2, .int (iI x2_10))] [] := by
      intro x2_10 u11 h H locs ls hG hS hl
      replace h := (congrFun (congrFun ej9 x2_10) u11).symm.trans h
      refine x_iconst X dX10_mutes_111 ?_
      refine lv_istore_n (lv' := [(3, .int (iI 0)), (0, .ref (t.2.2.1 40)), (2, .int (iI x2_10))]) X.1.1 X.1.2.1 dX10_mutes_112 rfl hl (by decide) rfl (fun ls hl => ?_)
      refine x_iconst X dX10_mutes_113 ?_
      refine lv_istore (lv' := [(4, .int (iI 0)), (3, .int (iI 0)), (0, .ref (t.2.2.1 40)), (2, .int (iI x2_10))]) X.1.1 X.1.2.1 dX10_mutes_114 hl (by decide) rfl (fun ls hl => ?_)
      have Lgo12 : ∀ (n : Nat) (x3_13 : Int) (x4_14 : Int) (u15 : uS), xl3 (s_X10_mutes_116 x2_10) n x3_13 x4_14 u15 = some (r, u') → xG p l e rX10_mutes s m args below meth c t Q 5 0 0 116 u15 [(3, .int (iI x3_13)), (4, .int (iI x4_14)), (0, .ref (t.2.2.1 40)), (2, .int (iI x2_10))] [] := by
        intro n x3_13 x4_14 u15 h
        refine xl3_W (F := s_X10_mutes_116 x2_10) (fun x3_13 x4_14 u15 q => q = (r, u') → xG p l e rX10_mutes s m args below meth c t Q 5 0 0 116 u15 [(3, .int (iI x3_13)), (4, .int (iI x4_14)), (0, .ref (t.2.2.1 40)), (2, .int (iI x2_10))] []) ?_ n x3_13 x4_14 u15 _ h rfl
        intro go12 igo12 x3_13 x4_14 u15 q h hq H locs ls hG hS hl
        subst hq
        unfold s_X10_mutes_116 at h
        refine lv_iload X.1.1 X.1.2.1 dX10_mutes_116 (lv_at hl 1 rfl) ?_
        refine lv_aload_n X.1.1 X.1.2.1 dX10_mutes_118 rfl (lv_at hl 2 rfl) ?_
        refine x_getr X hG 14 1 40 1 (inC := iX10) rfl q40.1 q40.2 ⟨by decide, by decide, by decide, rfl, by decide, by decide⟩ w1 dX10_mutes_119 ?_
        refine x_iconst X dX10_mutes_122 ?_
        refine x_iald X hG q41.1 q41.2.1 (n := 1167) q41.2.2 ⟨by decide, by decide⟩ (by decide) dX10_mutes_123 ?_
        obtain ⟨g16, h⟩ := xgd_of h
        refine x_icmp_ge (tgt := 168) X g16.1 g16.2 dX10_mutes_124 (by decide) (fun c17 => ?_) (fun c17 => ?_)
        · replace h := xif_t h c17
          refine lv_iload_n X.1.1 X.1.2.1 dX10_mutes_168 rfl (lv_at hl 0 rfl) ?_
          cases h
          exact hret _ _ _ _ dX10_mutes_169 rfl hG hS
        · replace h := xif_f h c17
          refine lv_iload_n X.1.1 X.1.2.1 dX10_mutes_127 rfl (lv_at hl 3 rfl) ?_
          refine lv_iload X.1.1 X.1.2.1 dX10_mutes_128 (lv_at hl 1 rfl) ?_
          obtain ⟨g18, h⟩ := xgd_of h
          refine x_ishr X g18.1 g18.2 dX10_mutes_130 ?_
          refine x_iconst X dX10_mutes_131 ?_
          refine x_and X (k := 1) (by decide) (by decide) dX10_mutes_132 ?_
          refine x_iconst X dX10_mutes_133 ?_
          obtain ⟨g19, h⟩ := xgd_of h
          refine x_icmp_ne (tgt := 162) X g19 ⟨by decide, by decide⟩ dX10_mutes_134 (by decide) (fun c20 => ?_) (fun c20 => ?_)
          · replace h := xif_f h c20
            refine lv_iinc (v := (iI (x4_14 + 1))) (lv' := [(4, .int (iI (x4_14 + 1))), (3, .int (iI x3_13)), (0, .ref (t.2.2.1 40)), (2, .int (iI x2_10))]) X.1.1 X.1.2.1 dX10_mutes_162 hl (k := 1) rfl (iI_add _ _) (by decide) rfl (fun ls hl => ?_)
            refine lv_goto (tgt := 116) X.1.1 X.1.2.1 dX10_mutes_165 (by decide) ?_
            exact igo12 _ _ _ _ h rfl _ _ _ hG hS (lv_sub hl [1, 0, 2, 3] rfl)
          · replace h := xif_t h c20
            refine lv_aload_n X.1.1 X.1.2.1 dX10_mutes_137 rfl (lv_at hl 2 rfl) ?_
            refine lv_iload X.1.1 X.1.2.1 dX10_mutes_138 (lv_at hl 1 rfl) ?_
            obtain ⟨v21, u22, hf, h⟩ := xbd_of h
            refine x_callVi0 X hG hS (c_X10_picksOf l t _ _ _ _ hf) (cwV 1 X.1.2.2.2.2 gX10_mutes_X10_picksOf rfl rfl rfl hd_X10_picksOf ⟨Nat.le_of_ble_eq_true rfl, Nat.le_of_ble_eq_true rfl⟩) q40.1 q40.2 rfl (by decide) (by rfl) hl.1 (Nat.le_of_ble_eq_true rfl) dX10_mutes_140 ⟨by decide, by decide⟩ rfl (fun H locs hG hS => ?_)
            refine lv_aload_n X.1.1 X.1.2.1 dX10_mutes_143 rfl (lv_at hl 2 rfl) ?_
            refine x_getr X hG 14 2 40 2 (inC := iX10) rfl q40.1 q40.2 ⟨by decide, by decide, by decide, rfl, by decide, by decide⟩ w2 dX10_mutes_144 ?_
            refine x_bipush X dX10_mutes_147 (by decide) ?_
            refine x_iald X hG q42.1 q42.2.1 (n := 30) q42.2.2 ⟨by decide, by decide⟩ (by decide) dX10_mutes_149 ?_
            obtain ⟨g23, h⟩ := xgd_of h
            refine x_icmp_ge (tgt := 162) X g23.1 g23.2 dX10_mutes_150 (by decide) (fun c24 => ?_) (fun c24 => ?_)
            · replace h := xif_t h c24
              refine lv_iinc (v := (iI (x4_14 + 1))) (lv' := [(4, .int (iI (x4_14 + 1))), (3, .int (iI x3_13)), (0, .ref (t.2.2.1 40)), (2, .int (iI x2_10))]) X.1.1 X.1.2.1 dX10_mutes_162 hl (k := 1) rfl (iI_add _ _) (by decide) rfl (fun ls hl => ?_)
              refine lv_goto (tgt := 116) X.1.1 X.1.2.1 dX10_mutes_165 (by decide) ?_
              exact igo12 _ _ _ _ h rfl _ _ _ hG hS (lv_sub hl [1, 0, 2, 3] rfl)
            · replace h := xif_f h c24
              refine lv_aload_n X.1.1 X.1.2.1 dX10_mutes_153 rfl (lv_at hl 2 rfl) ?_
              refine lv_iload X.1.1 X.1.2.1 dX10_mutes_154 (lv_at hl 1 rfl) ?_
              obtain ⟨v25, u26, hf, h⟩ := xbd_of h
              refine x_callVv0 X hG hS (c_X10_retracts l t _ _ _ _ hf) (cwV 1 X.1.2.2.2.2 gX10_mutes_X10_retracts rfl rfl rfl hd_X10_retracts ⟨Nat.le_of_ble_eq_true rfl, Nat.le_of_ble_eq_true rfl⟩) q40.1 q40.2 rfl (by decide) (by rfl) hl.1 (Nat.le_of_ble_eq_true rfl) dX10_mutes_156 ⟨by decide, by decide⟩ rfl (fun H locs hG hS => ?_)
              refine lv_iinc (v := (iI (x3_13 + 1))) (lv' := [(3, .int (iI (x3_13 + 1))), (4, .int (iI x4_14)), (0, .ref (t.2.2.1 40)), (2, .int (iI x2_10))]) X.1.1 X.1.2.1 dX10_mutes_159 hl (k := 0) rfl (iI_add _ _) (by decide) rfl (fun ls hl => ?_)
              refine lv_iinc (v := (iI (x4_14 + 1))) (lv' := [(4, .int (iI (x4_14 + 1))), (3, .int (iI (x3_13 + 1))), (0, .ref (t.2.2.1 40)), (2, .int (iI x2_10))]) X.1.1 X.1.2.1 dX10_mutes_162 hl (k := 1) rfl (iI_add _ _) (by decide) rfl (fun ls hl => ?_)
              refine lv_goto (tgt := 116) X.1.1 X.1.2.1 dX10_mutes_165 (by decide) ?_
              exact igo12 _ _ _ _ h rfl _ _ _ hG hS (lv_sub hl [1, 0, 2, 3] rfl)
      exact Lgo12 FU _ _ _ h _ _ _ hG hS (lv_sub hl [1, 0, 2, 3] rfl)
  have Lgo27 : ∀ (n : Nat) (x2_28 : Int) (x3_29 : Int) (u30 : uS), xl3 (s_X10_mutes_26 j9 x1) n x2_28 x3_29 u30 = some (r, u') → xG p l e rX10_mutes s m args below meth c t Q 5 0 0 26 u30 [(2, .int (iI x2_28)), (3, .int (iI x3_29)), (0, .ref (t.2.2.1 40)), (1, .int (iI x1))] [] := by
    intro n x2_28 x3_29 u30 h
    refine xl3_W (F := s_X10_mutes_26 j9 x1) (fun x2_28 x3_29 u30 q => q = (r, u') → xG p l e rX10_mutes s m args below meth c t Q 5 0 0 26 u30 [(2, .int (iI x2_28)), (3, .int (iI x3_29)), (0, .ref (t.2.2.1 40)), (1, .int (iI x1))] []) ?_ n x2_28 x3_29 u30 _ h rfl
    intro go27 igo27 x2_28 x3_29 u30 q h hq H locs ls hG hS hl
    subst hq
    unfold s_X10_mutes_26 at h
    refine lv_iload_n X.1.1 X.1.2.1 dX10_mutes_26 rfl (lv_at hl 1 rfl) ?_
    refine lv_aload_n X.1.1 X.1.2.1 dX10_mutes_27 rfl (lv_at hl 2 rfl) ?_
    refine x_getr X hG 14 1 40 1 (inC := iX10) rfl q40.1 q40.2 ⟨by decide, by decide, by decide, rfl, by decide, by decide⟩ w1 dX10_mutes_28 ?_
    refine x_iconst X dX10_mutes_31 ?_
    refine x_iald X hG q41.1 q41.2.1 (n := 1167) q41.2.2 ⟨by decide, by decide⟩ (by decide) dX10_mutes_32 ?_
    obtain ⟨g31, h⟩ := xgd_of h
    refine x_icmp_ge (tgt := 111) X g31.1 g31.2 dX10_mutes_33 (by decide) (fun c32 => ?_) (fun c32 => ?_)
    · replace h := xif_t h c32
      exact Jj9 _ _ h _ _ _ hG hS (lv_sub hl [2, 0] rfl)
    · replace h := xif_f h c32
      refine lv_aload_n X.1.1 X.1.2.1 dX10_mutes_36 rfl (lv_at hl 2 rfl) ?_
      refine x_getr X hG 14 1 40 1 (inC := iX10) rfl q40.1 q40.2 ⟨by decide, by decide, by decide, rfl, by decide, by decide⟩ w1 dX10_mutes_37 ?_
      refine lv_iload_n X.1.1 X.1.2.1 dX10_mutes_40 rfl (lv_at hl 1 rfl) ?_
      refine x_iconst X dX10_mutes_41 ?_
      obtain ⟨v33, u34, hf, h⟩ := xbd_of h
      refine x_callSi0 X hG hS (c_X10_of l t _ _ _ _ _ hf) (va_cwS 2 X.1.2.2.2.2 gX10_mutes_X10_of rfl rfl rfl hds_X10_of ⟨Nat.le_of_ble_eq_true rfl, Nat.le_of_ble_eq_true rfl⟩) (by rfl) hl.1 (Nat.le_of_ble_eq_true rfl) dX10_mutes_42 ⟨by decide, by decide⟩ rfl (fun H locs hG hS => ?_)
      obtain ⟨g35, h⟩ := xgd_of h
      refine x_iald X hG q41.1 q41.2.1 (n := 1167) q41.2.2 g35 (by decide) dX10_mutes_45 ?_
      refine lv_iload_n X.1.1 X.1.2.1 dX10_mutes_46 rfl (lv_at hl 3 rfl) ?_
      obtain ⟨g36, h⟩ := xgd_of h
      refine x_icmp_ne (tgt := 105) X g36.1 g36.2 dX10_mutes_47 (by decide) (fun c37 => ?_) (fun c37 => ?_)
      · replace h := xif_f h c37
        refine lv_iinc (v := (iI (x3_29 + 1))) (lv' := [(3, .int (iI (x3_29 + 1))), (2, .int (iI x2_28)), (0, .ref (t.2.2.1 40)), (1, .int (iI x1))]) X.1.1 X.1.2.1 dX10_mutes_105 hl (k := 1) rfl (iI_add _ _) (by decide) rfl (fun ls hl => ?_)
        refine lv_goto (tgt := 26) X.1.1 X.1.2.1 dX10_mutes_108 (by decide) ?_
        exact igo27 _ _ _ _ h rfl _ _ _ hG hS (lv_sub hl [1, 0, 2, 3] rfl)
      · replace h := xif_t h c37
        refine lv_iload_n X.1.1 X.1.2.1 dX10_mutes_50 rfl (lv_at hl 0 rfl) ?_
        refine lv_aload_n X.1.1 X.1.2.1 dX10_mutes_51 rfl (lv_at hl 2 rfl) ?_
        refine x_getr X hG 14 1 40 1 (inC := iX10) rfl q40.1 q40.2 ⟨by decide, by decide, by decide, rfl, by decide, by decide⟩ w1 dX10_mutes_52 ?_
        refine lv_iload_n X.1.1 X.1.2.1 dX10_mutes_55 rfl (lv_at hl 1 rfl) ?_
        refine x_iconst X dX10_mutes_56 ?_
        obtain ⟨v38, u39, hf, h⟩ := xbd_of h
        refine x_callSi0 X hG hS (c_X10_of l t _ _ _ _ _ hf) (va_cwS 2 X.1.2.2.2.2 gX10_mutes_X10_of rfl rfl rfl hds_X10_of ⟨Nat.le_of_ble_eq_true rfl, Nat.le_of_ble_eq_true rfl⟩) (by rfl) hl.1 (Nat.le_of_ble_eq_true rfl) dX10_mutes_57 ⟨by decide, by decide⟩ rfl (fun H locs hG hS => ?_)
        obtain ⟨g40, h⟩ := xgd_of h
        refine x_iald X hG q41.1 q41.2.1 (n := 1167) q41.2.2 g40 (by decide) dX10_mutes_60 ?_
        refine x_iconst X dX10_mutes_61 ?_
        obtain ⟨g41, h⟩ := xgd_of h
        obtain ⟨j42, ej42, h⟩ := xlet_of h
        have Jj42 : ∀ (s43 : Int) (u44 : uS), j42 s43 u44 = some (r, u') → xG p l e rX10_mutes s m args below meth c t Q 5 0 0 81 u44 [(0, .ref (t.2.2.1 40)), (1, .int (iI x1)), (3, .int (iI x3_29))] [.int (iI s43), .int (iI x2_28)] := by
            intro s43 u44 h H locs ls hG hS hl
            replace h := (congrFun (congrFun ej42 s43) u44).symm.trans h
            refine x_ior X dX10_mutes_81 ?_
            refine x_name (fun x2_45 ex2_45 => ?_)
            replace h := xlet_at ex2_45 h
            refine lv_istore_n (lv' := [(2, .int (iI x2_45)), (0, .ref (t.2.2.1 40)), (1, .int (iI x1)), (3, .int (iI x3_29))]) X.1.1 X.1.2.1 dX10_mutes_82 rfl hl (by decide) rfl (fun ls hl => ?_)
            refine lv_aload_n X.1.1 X.1.2.1 dX10_mutes_83 rfl (lv_at hl 1 rfl) ?_
            refine x_getr X hG 14 1 40 1 (inC := iX10) rfl q40.1 q40.2 ⟨by decide, by decide, by decide, rfl, by decide, by decide⟩ w1 dX10_mutes_84 ?_
            refine lv_iload_n X.1.1 X.1.2.1 dX10_mutes_87 rfl (lv_at hl 3 rfl) ?_
            refine x_iconst X dX10_mutes_88 ?_
            obtain ⟨v46, u47, hf, h⟩ := xbd_of h
            refine x_callSi0 X hG hS (c_X10_of l t _ _ _ _ _ hf) (va_cwS 2 X.1.2.2.2.2 gX10_mutes_X10_of rfl rfl rfl hds_X10_of ⟨Nat.le_of_ble_eq_true rfl, Nat.le_of_ble_eq_true rfl⟩) (by rfl) hl.1 (Nat.le_of_ble_eq_true rfl) dX10_mutes_89 ⟨by decide, by decide⟩ rfl (fun H locs hG hS => ?_)
            refine x_iconst X dX10_mutes_92 ?_
            obtain ⟨g48, h⟩ := xgd_of h
            refine x_iast X hG hS q41.1 q41.2.1 (n := 1167) q41.2.2 g48 (by decide) dX10_mutes_93 (fun H locs hG hS => ?_)
            obtain ⟨u49, eu49, h⟩ := xlet_of h
            replace hG : G t u49 H := by rw [eu49]; exact hG
            refine lv_aload_n X.1.1 X.1.2.1 dX10_mutes_94 rfl (lv_at hl 1 rfl) ?_
            refine x_getr X hG 14 1 40 1 (inC := iX10) rfl q40.1 q40.2 ⟨by decide, by decide, by decide, rfl, by decide, by decide⟩ w1 dX10_mutes_95 ?_
            refine lv_iload_n X.1.1 X.1.2.1 dX10_mutes_98 rfl (lv_at hl 3 rfl) ?_
            refine x_iconst X dX10_mutes_99 ?_
            obtain ⟨v50, u51, hf, h⟩ := xbd_of h
            refine x_callSi0 X hG hS (c_X10_of l t _ _ _ _ _ hf) (va_cwS 2 X.1.2.2.2.2 gX10_mutes_X10_of rfl rfl rfl hds_X10_of ⟨Nat.le_of_ble_eq_true rfl, Nat.le_of_ble_eq_true rfl⟩) (by rfl) hl.1 (Nat.le_of_ble_eq_true rfl) dX10_mutes_100 ⟨by decide, by decide⟩ rfl (fun H locs hG hS => ?_)
            refine x_iconst X dX10_mutes_103 ?_
            obtain ⟨g52, h⟩ := xgd_of h
            refine x_iast X hG hS q41.1 q41.2.1 (n := 1167) q41.2.2 g52 (by decide) dX10_mutes_104 (fun H locs hG hS => ?_)
            obtain ⟨u53, eu53, h⟩ := xlet_of h
            replace hG : G t u53 H := by rw [eu53]; exact hG
            refine lv_iinc (v := (iI (x3_29 + 1))) (lv' := [(3, .int (iI (x3_29 + 1))), (2, .int (iI x2_45)), (0, .ref (t.2.2.1 40)), (1, .int (iI x1))]) X.1.1 X.1.2.1 dX10_mutes_105 hl (k := 3) rfl (iI_add _ _) (by decide) rfl (fun ls hl => ?_)
            refine lv_goto (tgt := 26) X.1.1 X.1.2.1 dX10_mutes_108 (by decide) ?_
            exact igo27 _ _ _ _ h rfl _ _ _ hG hS (lv_sub hl [1, 0, 2, 3] rfl)
        refine x_icmp_ne (tgt := 69) X g41 ⟨by decide, by decide⟩ dX10_mutes_62 (by decide) (fun c54 => ?_) (fun c54 => ?_)
        · replace h := xif_f h c54
          refine x_iconst X dX10_mutes_69 ?_
          refine lv_aload_n X.1.1 X.1.2.1 dX10_mutes_70 rfl (lv_at hl 2 rfl) ?_
          refine x_getr X hG 14 1 40 1 (inC := iX10) rfl q40.1 q40.2 ⟨by decide, by decide, by decide, rfl, by decide, by decide⟩ w1 dX10_mutes_71 ?_
          refine lv_iload_n X.1.1 X.1.2.1 dX10_mutes_74 rfl (lv_at hl 1 rfl) ?_
          refine x_iconst X dX10_mutes_75 ?_
          obtain ⟨v55, u56, hf, h⟩ := xbd_of h
          refine x_callSi0 X hG hS (c_X10_of l t _ _ _ _ _ hf) (va_cwS 2 X.1.2.2.2.2 gX10_mutes_X10_of rfl rfl rfl hds_X10_of ⟨Nat.le_of_ble_eq_true rfl, Nat.le_of_ble_eq_true rfl⟩) (by rfl) hl.1 (Nat.le_of_ble_eq_true rfl) dX10_mutes_76 ⟨by decide, by decide⟩ rfl (fun H locs hG hS => ?_)
          obtain ⟨g57, h⟩ := xgd_of h
          refine x_iald X hG q41.1 q41.2.1 (n := 1167) q41.2.2 g57 (by decide) dX10_mutes_79 ?_
          obtain ⟨g58, h⟩ := xgd_of h
          refine x_ishl X g58 dX10_mutes_80 ?_
          exact Jj42 _ _ h _ _ _ hG hS (lv_sub hl [2, 3, 1] rfl)
        · replace h := xif_t h c54
          refine x_iconst X dX10_mutes_65 ?_
          refine lv_goto (tgt := 81) X.1.1 X.1.2.1 dX10_mutes_66 (by decide) ?_
          exact Jj42 _ _ h _ _ _ hG hS (lv_sub hl [2, 3, 1] rfl)
  exact Lgo27 FU _ _ _ h _ _ _ hG hS (lv_sub hl [1, 0, 2, 3] rfl)
theorem hd_X10_mutes : yX10_mutes.cls = RX10 ∧ yX10_mutes.cls ≠ "java/lang/invoke/MethodHandle" ∧ yX10_mutes.cls ≠ "java/lang/invoke/VarHandle" ∧ (parseMethodDescriptor yX10_mutes.desc).map (fun d => d.parameters.length) = some 1 := by decide +kernel
abbrev rX10_eventsWithout : Room := { frames := 7, cells := 0, slots := 0, locals := 164 }
set_option maxRecDepth 100000 in
set_option maxHeartbeats 8000000 in
theorem c_X10_eventsWithout (l : Launch) (t : gP) (x1 : Int) (x2 : Int) (u : uS) (r : Int) (u' : uS) (h : f_X10_eventsWithout x1 x2 u = some (r, u')) : xMi l yX10_eventsWithout wsX10_eventsWithout rX10_eventsWithout t [.ref (t.2.2.1 40), .int (iI x1), .int (iI x2)] u r u' 0 0 := by
  refine x_ofWi (cc := cX10_eventsWithout) (maxL := 5) (ret := .int) (own := RX10) (by decide) rfl rfl (Nat.le_of_ble_eq_true rfl) ?_
  intro p e s m args below meth c Q X hret H locs ls hG hS hl
  replace hl : lv_has ls 5 [(0, .ref (t.2.2.1 40)), (1, .int (iI x1)), (2, .int (iI x2))] := hl
  have q40 : 40 < NN ∧ sT 40 = 14 := by decide
  have iX10 : ∀ w ∈ wsX100, w ∈ wsX10_eventsWithout := by decide +kernel
  have w1 : Cond.fieldLink RX10 7 "TriggerNetworkModel" "now" "[I" ∈ wsX10_eventsWithout := x_w 1 rfl
  have q41 : 41 < NN ∧ sT 41 = 100 ∧ sN 41 = 1167 := by decide
  have w2 : Cond.fieldLink RX10 42 "TriggerNetworkModel" "was" "[I" ∈ wsX10_eventsWithout := x_w 2 rfl
  have q50 : 50 < NN ∧ sT 50 = 100 ∧ sN 50 = 1167 := by decide
  unfold f_X10_eventsWithout at h
  refine lv_aload_n X.1.1 X.1.2.1 dX10_eventsWithout_0 rfl (lv_at hl 0 rfl) ?_
  refine lv_iload_n X.1.1 X.1.2.1 dX10_eventsWithout_1 rfl (lv_at hl 1 rfl) ?_
  obtain ⟨v1, u2, hf, h⟩ := xbd_of h
  refine x_callVi0 X hG hS (c_X10_noStation l t _ _ _ _ hf) (cwV 1 X.1.2.2.2.2 gX10_eventsWithout_X10_noStation rfl rfl rfl hd_X10_noStation ⟨Nat.le_of_ble_eq_true rfl, Nat.le_of_ble_eq_true rfl⟩) q40.1 q40.2 rfl (by decide) (by rfl) hl.1 (Nat.le_of_ble_eq_true rfl) dX10_eventsWithout_2 ⟨by decide, by decide⟩ rfl (fun H locs hG hS => ?_)
  obtain ⟨g3, h⟩ := xgd_of h
  refine x_if_ne (tgt := 59) X g3 dX10_eventsWithout_5 (by decide) (fun c4 => ?_) (fun c4 => ?_)
  · replace h := xif_f h c4
    refine x_iconst X dX10_eventsWithout_59 ?_
    cases h
    exact hret _ _ _ _ dX10_eventsWithout_60 rfl hG hS
  · replace h := xif_t h c4
    refine lv_aload_n X.1.1 X.1.2.1 dX10_eventsWithout_8 rfl (lv_at hl 0 rfl) ?_
    refine lv_iload_n X.1.1 X.1.2.1 dX10_eventsWithout_9 rfl (lv_at hl 2 rfl) ?_
    refine x_iconst X dX10_eventsWithout_10 ?_
    refine x_sipush X dX10_eventsWithout_11 (by decide) ?_
    obtain ⟨v5, u6, hf, h⟩ := xbd_of h
    refine x_callSi0 X hG hS (c_X10_within l t _ _ _ _ _ _ hf) (va_cwS 3 X.1.2.2.2.2 gX10_eventsWithout_X10_within rfl rfl rfl hds_X10_within ⟨Nat.le_of_ble_eq_true rfl, Nat.le_of_ble_eq_true rfl⟩) (by rfl) hl.1 (Nat.le_of_ble_eq_true rfl) dX10_eventsWithout_14 ⟨by decide, by decide⟩ rfl (fun H locs hG hS => ?_)
    obtain ⟨g7, h⟩ := xgd_of h
    obtain ⟨j8, ej8, h⟩ := xlet_of h
    have Jj8 : ∀ (s9 : Int) (u10 : uS), j8 s9 u10 = some (r, u') → xG p l e rX10_eventsWithout s m args below meth c t Q 5 0 0 25 u10 [(0, .ref (t.2.2.1 40)), (1, .int (iI x1)), (2, .int (iI x2))] [.int (iI s9), .ref (t.2.2.1 40)] := by
        intro s9 u10 h H locs ls hG hS hl
        replace h := (congrFun (congrFun ej8 s9) u10).symm.trans h
        refine x_iconst X dX10_eventsWithout_25 ?_
        obtain ⟨v11, u12, hf, h⟩ := xbd_of h
        refine x_callVi0 X hG hS (c_X10_throwsIf l t _ _ _ _ _ hf) (cwV 2 X.1.2.2.2.2 gX10_eventsWithout_X10_throwsIf rfl rfl rfl hd_X10_throwsIf ⟨Nat.le_of_ble_eq_true rfl, Nat.le_of_ble_eq_true rfl⟩) q40.1 q40.2 rfl (by decide) (by rfl) hl.1 (Nat.le_of_ble_eq_true rfl) dX10_eventsWithout_26 ⟨by decide, by decide⟩ rfl (fun H locs hG hS => ?_)
        obtain ⟨g13, h⟩ := xgd_of h
        refine x_if_ne (tgt := 59) X g13 dX10_eventsWithout_29 (by decide) (fun c14 => ?_) (fun c14 => ?_)
        · replace h := xif_f h c14
          refine x_iconst X dX10_eventsWithout_59 ?_
          cases h
          exact hret _ _ _ _ dX10_eventsWithout_60 rfl hG hS
        · replace h := xif_t h c14
          refine lv_aload_n X.1.1 X.1.2.1 dX10_eventsWithout_32 rfl (lv_at hl 0 rfl) ?_
          refine lv_aload_n X.1.1 X.1.2.1 dX10_eventsWithout_33 rfl (lv_at hl 0 rfl) ?_
          refine x_getr X hG 14 1 40 1 (inC := iX10) rfl q40.1 q40.2 ⟨by decide, by decide, by decide, rfl, by decide, by decide⟩ w1 dX10_eventsWithout_34 ?_
          refine lv_iload_n X.1.1 X.1.2.1 dX10_eventsWithout_37 rfl (lv_at hl 1 rfl) ?_
          refine x_iconst X dX10_eventsWithout_38 ?_
          obtain ⟨v15, u16, hf, h⟩ := xbd_of h
          refine x_callSi0 X hG hS (c_X10_at l t _ _ _ _ _ hf) (va_cwS 2 X.1.2.2.2.2 gX10_eventsWithout_X10_at rfl rfl rfl hds_X10_at ⟨Nat.le_of_ble_eq_true rfl, Nat.le_of_ble_eq_true rfl⟩) (by rfl) hl.1 (Nat.le_of_ble_eq_true rfl) dX10_eventsWithout_39 ⟨by decide, by decide⟩ rfl (fun H locs hG hS => ?_)
          obtain ⟨g17, h⟩ := xgd_of h
          refine x_iald X hG q41.1 q41.2.1 (n := 1167) q41.2.2 g17 (by decide) dX10_eventsWithout_42 ?_
          refine x_iconst X dX10_eventsWithout_43 ?_
          obtain ⟨g18, h⟩ := xgd_of h
          obtain ⟨j19, ej19, h⟩ := xlet_of h
          have Jj19 : ∀ (s20 : Int) (u21 : uS), j19 s20 u21 = some (r, u') → xG p l e rX10_eventsWithout s m args below meth c t Q 5 0 0 52 u21 [(0, .ref (t.2.2.1 40)), (1, .int (iI x1)), (2, .int (iI x2))] [.int (iI s20), .ref (t.2.2.1 40)] := by
              intro s20 u21 h H locs ls hG hS hl
              replace h := (congrFun (congrFun ej19 s20) u21).symm.trans h
              refine x_iconst X dX10_eventsWithout_52 ?_
              obtain ⟨v22, u23, hf, h⟩ := xbd_of h
              refine x_callVi0 X hG hS (c_X10_throwsIf l t _ _ _ _ _ hf) (cwV 2 X.1.2.2.2.2 gX10_eventsWithout_X10_throwsIf rfl rfl rfl hd_X10_throwsIf ⟨Nat.le_of_ble_eq_true rfl, Nat.le_of_ble_eq_true rfl⟩) q40.1 q40.2 rfl (by decide) (by rfl) hl.1 (Nat.le_of_ble_eq_true rfl) dX10_eventsWithout_53 ⟨by decide, by decide⟩ rfl (fun H locs hG hS => ?_)
              obtain ⟨g24, h⟩ := xgd_of h
              refine x_if_eq (tgt := 61) X g24 dX10_eventsWithout_56 (by decide) (fun c25 => ?_) (fun c25 => ?_)
              · replace h := xif_t h c25
                refine lv_aload_n X.1.1 X.1.2.1 dX10_eventsWithout_61 rfl (lv_at hl 0 rfl) ?_
                refine x_getr X hG 14 1 40 1 (inC := iX10) rfl q40.1 q40.2 ⟨by decide, by decide, by decide, rfl, by decide, by decide⟩ w1 dX10_eventsWithout_62 ?_
                refine x_iconst X dX10_eventsWithout_65 ?_
                refine lv_aload_n X.1.1 X.1.2.1 dX10_eventsWithout_66 rfl (lv_at hl 0 rfl) ?_
                refine x_getr X hG 14 21 40 10 (inC := iX10) rfl q40.1 q40.2 ⟨by decide, by decide, by decide, rfl, by decide, by decide⟩ w2 dX10_eventsWithout_67 ?_
                refine x_iconst X dX10_eventsWithout_70 ?_
                refine x_sipush X dX10_eventsWithout_71 (by decide) ?_
                obtain ⟨v26, u27, hf, h⟩ := xbd_of h
                refine x_callSv0 X hG hS (c_X10_copies l t _ _ _ _ _ _ _ _ hf) (va_cwS 5 X.1.2.2.2.2 gX10_eventsWithout_X10_copies rfl rfl rfl hds_X10_copies ⟨Nat.le_of_ble_eq_true rfl, Nat.le_of_ble_eq_true rfl⟩) (by rfl) hl.1 (Nat.le_of_ble_eq_true rfl) dX10_eventsWithout_74 ⟨by decide, by decide⟩ rfl (fun H locs hG hS => ?_)
                refine lv_aload_n X.1.1 X.1.2.1 dX10_eventsWithout_77 rfl (lv_at hl 0 rfl) ?_
                refine lv_iload_n X.1.1 X.1.2.1 dX10_eventsWithout_78 rfl (lv_at hl 1 rfl) ?_
                obtain ⟨v28, u29, hf, h⟩ := xbd_of h
                refine x_callVi0 X hG hS (c_X10_mutes l t _ _ _ _ hf) (cwV 1 X.1.2.2.2.2 gX10_eventsWithout_X10_mutes rfl rfl rfl hd_X10_mutes ⟨Nat.le_of_ble_eq_true rfl, Nat.le_of_ble_eq_true rfl⟩) q40.1 q40.2 rfl (by decide) (by rfl) hl.1 (Nat.le_of_ble_eq_true rfl) dX10_eventsWithout_79 ⟨by decide, by decide⟩ rfl (fun H locs hG hS => ?_)
                refine lv_istore_n (lv' := [(3, .int (iI v28)), (0, .ref (t.2.2.1 40)), (1, .int (iI x1)), (2, .int (iI x2))]) X.1.1 X.1.2.1 dX10_eventsWithout_82 rfl hl (by decide) rfl (fun ls hl => ?_)
                refine x_iconst X dX10_eventsWithout_83 ?_
                refine lv_istore (lv' := [(4, .int (iI 0)), (3, .int (iI v28)), (0, .ref (t.2.2.1 40)), (1, .int (iI x1)), (2, .int (iI x2))]) X.1.1 X.1.2.1 dX10_eventsWithout_84 hl (by decide) rfl (fun ls hl => ?_)
                obtain ⟨j30, ej30, h⟩ := xlet_of h
                have Jj30 : ∀ (u31 : uS), j30 u31 = some (r, u') → xG p l e rX10_eventsWithout s m args below meth c t Q 5 0 0 102 u31 [(0, .ref (t.2.2.1 40)), (3, .int (iI v28))] [] := by
                    intro u31 h H locs ls hG hS hl
                    replace h := (congrFun ej30 u31).symm.trans h
                    refine lv_iload_n X.1.1 X.1.2.1 dX10_eventsWithout_102 rfl (lv_at hl 1 rfl) ?_
                    obtain ⟨g32, h⟩ := xgd_of h
                    obtain ⟨j33, ej33, h⟩ := xlet_of h
                    have Jj33 : ∀ (s34 : Int) (u35 : uS), j33 s34 u35 = some (r, u') → xG p l e rX10_eventsWithout s m args below meth c t Q 5 0 0 114 u35 [(0, .ref (t.2.2.1 40))] [.int (iI s34)] := by
                        intro s34 u35 h H locs ls hG hS hl
                        replace h := (congrFun (congrFun ej33 s34) u35).symm.trans h
                        refine lv_istore (lv' := [(4, .int (iI s34)), (0, .ref (t.2.2.1 40))]) X.1.1 X.1.2.1 dX10_eventsWithout_114 hl (by decide) rfl (fun ls hl => ?_)
                        refine lv_aload_n X.1.1 X.1.2.1 dX10_eventsWithout_116 rfl (lv_at hl 1 rfl) ?_
                        refine x_getr X hG 14 21 40 10 (inC := iX10) rfl q40.1 q40.2 ⟨by decide, by decide, by decide, rfl, by decide, by decide⟩ w2 dX10_eventsWithout_117 ?_
                        refine x_iconst X dX10_eventsWithout_120 ?_
                        refine lv_aload_n X.1.1 X.1.2.1 dX10_eventsWithout_121 rfl (lv_at hl 1 rfl) ?_
                        refine x_getr X hG 14 1 40 1 (inC := iX10) rfl q40.1 q40.2 ⟨by decide, by decide, by decide, rfl, by decide, by decide⟩ w1 dX10_eventsWithout_122 ?_
                        refine x_iconst X dX10_eventsWithout_125 ?_
                        refine x_sipush X dX10_eventsWithout_126 (by decide) ?_
                        obtain ⟨v36, u37, hf, h⟩ := xbd_of h
                        refine x_callSv0 X hG hS (c_X10_copies l t _ _ _ _ _ _ _ _ hf) (va_cwS 5 X.1.2.2.2.2 gX10_eventsWithout_X10_copies rfl rfl rfl hds_X10_copies ⟨Nat.le_of_ble_eq_true rfl, Nat.le_of_ble_eq_true rfl⟩) (by rfl) hl.1 (Nat.le_of_ble_eq_true rfl) dX10_eventsWithout_129 ⟨by decide, by decide⟩ rfl (fun H locs hG hS => ?_)
                        refine lv_iload X.1.1 X.1.2.1 dX10_eventsWithout_132 (lv_at hl 0 rfl) ?_
                        cases h
                        exact hret _ _ _ _ dX10_eventsWithout_134 rfl hG hS
                    refine x_if_ge (tgt := 110) X g32 dX10_eventsWithout_103 (by decide) (fun c38 => ?_) (fun c38 => ?_)
                    · replace h := xif_t h c38
                      refine lv_aload_n X.1.1 X.1.2.1 dX10_eventsWithout_110 rfl (lv_at hl 0 rfl) ?_
                      obtain ⟨v39, u40, hf, h⟩ := xbd_of h
                      refine x_callVi0 X hG hS (c_X10_live l t  _ _ _ hf) (cwV 0 X.1.2.2.2.2 gX10_eventsWithout_X10_live rfl rfl rfl hd_X10_live ⟨Nat.le_of_ble_eq_true rfl, Nat.le_of_ble_eq_true rfl⟩) q40.1 q40.2 rfl (by decide) (by rfl) hl.1 (Nat.le_of_ble_eq_true rfl) dX10_eventsWithout_111 ⟨by decide, by decide⟩ rfl (fun H locs hG hS => ?_)
                      exact Jj33 _ _ h _ _ _ hG hS (lv_sub hl [0] rfl)
                    · replace h := xif_f h c38
                      refine lv_iload_n X.1.1 X.1.2.1 dX10_eventsWithout_106 rfl (lv_at hl 1 rfl) ?_
                      refine lv_goto (tgt := 114) X.1.1 X.1.2.1 dX10_eventsWithout_107 (by decide) ?_
                      exact Jj33 _ _ h _ _ _ hG hS (lv_sub hl [0] rfl)
                have Lgo41 : ∀ (n : Nat) (x4_42 : Int) (u43 : uS), xl2 (s_X10_eventsWithout_86 x2 j30) n x4_42 u43 = some (r, u') → xG p l e rX10_eventsWithout s m args below meth c t Q 5 0 0 86 u43 [(4, .int (iI x4_42)), (0, .ref (t.2.2.1 40)), (2, .int (iI x2)), (3, .int (iI v28))] [] := by
                  intro n x4_42 u43 h
                  refine xl2_W (F := s_X10_eventsWithout_86 x2 j30) (fun x4_42 u43 q => q = (r, u') → xG p l e rX10_eventsWithout s m args below meth c t Q 5 0 0 86 u43 [(4, .int (iI x4_42)), (0, .ref (t.2.2.1 40)), (2, .int (iI x2)), (3, .int (iI v28))] []) ?_ n x4_42 u43 _ h rfl
                  intro go41 igo41 x4_42 u43 q h hq H locs ls hG hS hl
                  subst hq
                  unfold s_X10_eventsWithout_86 at h
                  refine lv_iload X.1.1 X.1.2.1 dX10_eventsWithout_86 (lv_at hl 0 rfl) ?_
                  refine lv_iload_n X.1.1 X.1.2.1 dX10_eventsWithout_88 rfl (lv_at hl 2 rfl) ?_
                  obtain ⟨g44, h⟩ := xgd_of h
                  refine x_icmp_ge (tgt := 102) X g44.1 g44.2 dX10_eventsWithout_89 (by decide) (fun c45 => ?_) (fun c45 => ?_)
                  · replace h := xif_t h c45
                    exact Jj30 _ h _ _ _ hG hS (lv_sub hl [1, 3] rfl)
                  · replace h := xif_f h c45
                    refine lv_aload_n X.1.1 X.1.2.1 dX10_eventsWithout_92 rfl (lv_at hl 1 rfl) ?_
                    obtain ⟨v46, u47, hf, h⟩ := xbd_of h
                    refine x_callVv0 X hG hS (c_X10_passes l t  _ _ _ hf) (cwV 0 X.1.2.2.2.2 gX10_eventsWithout_X10_passes rfl rfl rfl hd_X10_passes ⟨Nat.le_of_ble_eq_true rfl, Nat.le_of_ble_eq_true rfl⟩) q40.1 q40.2 rfl (by decide) (by rfl) hl.1 (Nat.le_of_ble_eq_true rfl) dX10_eventsWithout_93 ⟨by decide, by decide⟩ rfl (fun H locs hG hS => ?_)
                    refine lv_iinc (v := (iI (x4_42 + 1))) (lv' := [(4, .int (iI (x4_42 + 1))), (0, .ref (t.2.2.1 40)), (2, .int (iI x2)), (3, .int (iI v28))]) X.1.1 X.1.2.1 dX10_eventsWithout_96 hl (k := 0) rfl (iI_add _ _) (by decide) rfl (fun ls hl => ?_)
                    refine lv_goto (tgt := 86) X.1.1 X.1.2.1 dX10_eventsWithout_99 (by decide) ?_
                    exact igo41 _ _ _ h rfl _ _ _ hG hS (lv_sub hl [0, 1, 2, 3] rfl)
                exact Lgo41 FU _ _ h _ _ _ hG hS (lv_sub hl [0, 2, 4, 1] rfl)
              · replace h := xif_f h c25
                refine x_iconst X dX10_eventsWithout_59 ?_
                cases h
                exact hret _ _ _ _ dX10_eventsWithout_60 rfl hG hS
          refine x_icmp_ne (tgt := 51) X g18 ⟨by decide, by decide⟩ dX10_eventsWithout_44 (by decide) (fun c48 => ?_) (fun c48 => ?_)
          · replace h := xif_f h c48
            refine x_iconst X dX10_eventsWithout_51 ?_
            exact Jj19 _ _ h _ _ _ hG hS (lv_sub hl [0, 1, 2] rfl)
          · replace h := xif_t h c48
            refine x_iconst X dX10_eventsWithout_47 ?_
            refine lv_goto (tgt := 52) X.1.1 X.1.2.1 dX10_eventsWithout_48 (by decide) ?_
            exact Jj19 _ _ h _ _ _ hG hS (lv_sub hl [0, 1, 2] rfl)
    refine x_if_ne (tgt := 24) X g7 dX10_eventsWithout_17 (by decide) (fun c49 => ?_) (fun c49 => ?_)
    · replace h := xif_f h c49
      refine x_iconst X dX10_eventsWithout_24 ?_
      exact Jj8 _ _ h _ _ _ hG hS (lv_sub hl [0, 1, 2] rfl)
    · replace h := xif_t h c49
      refine x_iconst X dX10_eventsWithout_20 ?_
      refine lv_goto (tgt := 25) X.1.1 X.1.2.1 dX10_eventsWithout_21 (by decide) ?_
      exact Jj8 _ _ h _ _ _ hG hS (lv_sub hl [0, 1, 2] rfl)
theorem hd_X10_eventsWithout : yX10_eventsWithout.cls = RX10 ∧ yX10_eventsWithout.cls ≠ "java/lang/invoke/MethodHandle" ∧ yX10_eventsWithout.cls ≠ "java/lang/invoke/VarHandle" ∧ (parseMethodDescriptor yX10_eventsWithout.desc).map (fun d => d.parameters.length) = some 2 := by decide +kernel
abbrev rX10_ticksToEvent : Room := { frames := 7, cells := 0, slots := 0, locals := 164 }
set_option maxRecDepth 100000 in
set_option maxHeartbeats 8000000 in
theorem c_X10_ticksToEvent (l : Launch) (t : gP) (u : uS) (r : Int) (u' : uS) (h : f_X10_ticksToEvent u = some (r, u')) : xMi l yX10_ticksToEvent wsX10_ticksToEvent rX10_ticksToEvent t [.ref (t.2.2.1 40)] u r u' 0 0 := by
  refine x_ofWi (cc := cX10_ticksToEvent) (maxL := 3) (ret := .int) (own := RX10) (by decide) rfl rfl (Nat.le_of_ble_eq_true rfl) ?_
  intro p e s m args below meth c Q X hret H locs ls hG hS hl
  replace hl : lv_has ls 3 [(0, .ref (t.2.2.1 40))] := hl
  have q40 : 40 < NN ∧ sT 40 = 14 := by decide
  have iX10 : ∀ w ∈ wsX100, w ∈ wsX10_ticksToEvent := by decide +kernel
  have w1 : Cond.fieldLink RX10 64 "TriggerNetworkModel" "thrown" "I" ∈ wsX10_ticksToEvent := x_w 1 rfl
  have w2 : Cond.fieldLink RX10 7 "TriggerNetworkModel" "now" "[I" ∈ wsX10_ticksToEvent := x_w 2 rfl
  have q41 : 41 < NN ∧ sT 41 = 100 ∧ sN 41 = 1167 := by decide
  have w3 : Cond.fieldLink RX10 42 "TriggerNetworkModel" "was" "[I" ∈ wsX10_ticksToEvent := x_w 3 rfl
  have q50 : 50 < NN ∧ sT 50 = 100 ∧ sN 50 = 1167 := by decide
  unfold f_X10_ticksToEvent at h
  refine lv_aload_n X.1.1 X.1.2.1 dX10_ticksToEvent_0 rfl (lv_at hl 0 rfl) ?_
  refine x_iconst X dX10_ticksToEvent_1 ?_
  refine x_puti X hG hS 14 0 40 0 _ tyX10 tyX10_ok nmX10 (inC := iX10) rfl q40.1 q40.2 ⟨by decide, by decide, by decide, rfl, rfl⟩ rfl (by decide +kernel) w1 dX10_ticksToEvent_2 (fun H locs hG hS => ?_)
  obtain ⟨u1, eu1, h⟩ := xlet_of h
  replace hG : G t u1 H := by rw [eu1]; exact hG
  refine lv_aload_n X.1.1 X.1.2.1 dX10_ticksToEvent_5 rfl (lv_at hl 0 rfl) ?_
  refine x_getr X hG 14 1 40 1 (inC := iX10) rfl q40.1 q40.2 ⟨by decide, by decide, by decide, rfl, by decide, by decide⟩ w2 dX10_ticksToEvent_6 ?_
  refine x_iconst X dX10_ticksToEvent_9 ?_
  refine lv_aload_n X.1.1 X.1.2.1 dX10_ticksToEvent_10 rfl (lv_at hl 0 rfl) ?_
  refine x_getr X hG 14 21 40 10 (inC := iX10) rfl q40.1 q40.2 ⟨by decide, by decide, by decide, rfl, by decide, by decide⟩ w3 dX10_ticksToEvent_11 ?_
  refine x_iconst X dX10_ticksToEvent_14 ?_
  refine x_sipush X dX10_ticksToEvent_15 (by decide) ?_
  obtain ⟨v2, u3, hf, h⟩ := xbd_of h
  refine x_callSv0 X hG hS (c_X10_copies l t _ _ _ _ _ _ _ _ hf) (va_cwS 5 X.1.2.2.2.2 gX10_ticksToEvent_X10_copies rfl rfl rfl hds_X10_copies ⟨Nat.le_of_ble_eq_true rfl, Nat.le_of_ble_eq_true rfl⟩) (by rfl) hl.1 (Nat.le_of_ble_eq_true rfl) dX10_ticksToEvent_18 ⟨by decide, by decide⟩ rfl (fun H locs hG hS => ?_)
  refine x_iconst X dX10_ticksToEvent_21 ?_
  refine lv_istore_n (lv' := [(1, .int (iI 0)), (0, .ref (t.2.2.1 40))]) X.1.1 X.1.2.1 dX10_ticksToEvent_22 rfl hl (by decide) rfl (fun ls hl => ?_)
  obtain ⟨j4, ej4, h⟩ := xlet_of h
  have Jj4 : ∀ (x1_5 : Int) (u6 : uS), j4 x1_5 u6 = some (r, u') → xG p l e rX10_ticksToEvent s m args below meth c t Q 3 0 0 55 u6 [(0, .ref (t.2.2.1 40)), (1, .int (iI x1_5))] [] := by
      intro x1_5 u6 h H locs ls hG hS hl
      replace h := (congrFun (congrFun ej4 x1_5) u6).symm.trans h
      refine lv_aload_n X.1.1 X.1.2.1 dX10_ticksToEvent_55 rfl (lv_at hl 0 rfl) ?_
      refine x_getr X hG 14 1 40 1 (inC := iX10) rfl q40.1 q40.2 ⟨by decide, by decide, by decide, rfl, by decide, by decide⟩ w2 dX10_ticksToEvent_56 ?_
      refine x_iconst X dX10_ticksToEvent_59 ?_
      refine x_iald X hG q41.1 q41.2.1 (n := 1167) q41.2.2 ⟨by decide, by decide⟩ (by decide) dX10_ticksToEvent_60 ?_
      refine lv_aload_n X.1.1 X.1.2.1 dX10_ticksToEvent_61 rfl (lv_at hl 0 rfl) ?_
      refine x_getr X hG 14 21 40 10 (inC := iX10) rfl q40.1 q40.2 ⟨by decide, by decide, by decide, rfl, by decide, by decide⟩ w3 dX10_ticksToEvent_62 ?_
      refine x_iconst X dX10_ticksToEvent_65 ?_
      refine x_iald X hG q50.1 q50.2.1 (n := 1167) q50.2.2 ⟨by decide, by decide⟩ (by decide) dX10_ticksToEvent_66 ?_
      obtain ⟨g7, h⟩ := xgd_of h
      obtain ⟨j8, ej8, h⟩ := xlet_of h
      have Jj8 : ∀ (s9 : Int) (u10 : uS), j8 s9 u10 = some (r, u') → xG p l e rX10_ticksToEvent s m args below meth c t Q 3 0 0 75 u10 [(0, .ref (t.2.2.1 40)), (1, .int (iI x1_5))] [.int (iI s9)] := by
          intro s9 u10 h H locs ls hG hS hl
          replace h := (congrFun (congrFun ej8 s9) u10).symm.trans h
          refine lv_istore_n (lv' := [(2, .int (iI s9)), (0, .ref (t.2.2.1 40)), (1, .int (iI x1_5))]) X.1.1 X.1.2.1 dX10_ticksToEvent_75 rfl hl (by decide) rfl (fun ls hl => ?_)
          refine lv_aload_n X.1.1 X.1.2.1 dX10_ticksToEvent_76 rfl (lv_at hl 1 rfl) ?_
          refine x_getr X hG 14 21 40 10 (inC := iX10) rfl q40.1 q40.2 ⟨by decide, by decide, by decide, rfl, by decide, by decide⟩ w3 dX10_ticksToEvent_77 ?_
          refine x_iconst X dX10_ticksToEvent_80 ?_
          refine lv_aload_n X.1.1 X.1.2.1 dX10_ticksToEvent_81 rfl (lv_at hl 1 rfl) ?_
          refine x_getr X hG 14 1 40 1 (inC := iX10) rfl q40.1 q40.2 ⟨by decide, by decide, by decide, rfl, by decide, by decide⟩ w2 dX10_ticksToEvent_82 ?_
          refine x_iconst X dX10_ticksToEvent_85 ?_
          refine x_sipush X dX10_ticksToEvent_86 (by decide) ?_
          obtain ⟨v11, u12, hf, h⟩ := xbd_of h
          refine x_callSv0 X hG hS (c_X10_copies l t _ _ _ _ _ _ _ _ hf) (va_cwS 5 X.1.2.2.2.2 gX10_ticksToEvent_X10_copies rfl rfl rfl hds_X10_copies ⟨Nat.le_of_ble_eq_true rfl, Nat.le_of_ble_eq_true rfl⟩) (by rfl) hl.1 (Nat.le_of_ble_eq_true rfl) dX10_ticksToEvent_89 ⟨by decide, by decide⟩ rfl (fun H locs hG hS => ?_)
          refine lv_iload_n X.1.1 X.1.2.1 dX10_ticksToEvent_92 rfl (lv_at hl 0 rfl) ?_
          obtain ⟨g13, h⟩ := xgd_of h
          refine x_if_eq (tgt := 100) X g13 dX10_ticksToEvent_93 (by decide) (fun c14 => ?_) (fun c14 => ?_)
          · replace h := xif_t h c14
            refine x_iconst X dX10_ticksToEvent_100 ?_
            cases h
            exact hret _ _ _ _ dX10_ticksToEvent_101 rfl hG hS
          · replace h := xif_f h c14
            refine lv_iload_n X.1.1 X.1.2.1 dX10_ticksToEvent_96 rfl (lv_at hl 2 rfl) ?_
            refine lv_goto (tgt := 101) X.1.1 X.1.2.1 dX10_ticksToEvent_97 (by decide) ?_
            cases h
            exact hret _ _ _ _ dX10_ticksToEvent_101 rfl hG hS
      refine x_icmp_le (tgt := 74) X g7.1 g7.2 dX10_ticksToEvent_67 (by decide) (fun c15 => ?_) (fun c15 => ?_)
      · replace h := xif_t h c15
        refine x_iconst X dX10_ticksToEvent_74 ?_
        exact Jj8 _ _ h _ _ _ hG hS (lv_sub hl [0, 1] rfl)
      · replace h := xif_f h c15
        refine x_iconst X dX10_ticksToEvent_70 ?_
        refine lv_goto (tgt := 75) X.1.1 X.1.2.1 dX10_ticksToEvent_71 (by decide) ?_
        exact Jj8 _ _ h _ _ _ hG hS (lv_sub hl [0, 1] rfl)
  have Lgo16 : ∀ (n : Nat) (x1_17 : Int) (u18 : uS), xl2 (s_X10_ticksToEvent_23 j4) n x1_17 u18 = some (r, u') → xG p l e rX10_ticksToEvent s m args below meth c t Q 3 0 0 23 u18 [(1, .int (iI x1_17)), (0, .ref (t.2.2.1 40))] [] := by
    intro n x1_17 u18 h
    refine xl2_W (F := s_X10_ticksToEvent_23 j4) (fun x1_17 u18 q => q = (r, u') → xG p l e rX10_ticksToEvent s m args below meth c t Q 3 0 0 23 u18 [(1, .int (iI x1_17)), (0, .ref (t.2.2.1 40))] []) ?_ n x1_17 u18 _ h rfl
    intro go16 igo16 x1_17 u18 q h hq H locs ls hG hS hl
    subst hq
    unfold s_X10_ticksToEvent_23 at h
    refine lv_iload_n X.1.1 X.1.2.1 dX10_ticksToEvent_23 rfl (lv_at hl 0 rfl) ?_
    refine x_sipush X dX10_ticksToEvent_24 (by decide) ?_
    obtain ⟨g19, h⟩ := xgd_of h
    refine x_icmp_ge (tgt := 55) X g19 ⟨by decide, by decide⟩ dX10_ticksToEvent_27 (by decide) (fun c20 => ?_) (fun c20 => ?_)
    · replace h := xif_t h c20
      exact Jj4 _ _ h _ _ _ hG hS (lv_sub hl [1, 0] rfl)
    · replace h := xif_f h c20
      refine lv_aload_n X.1.1 X.1.2.1 dX10_ticksToEvent_30 rfl (lv_at hl 1 rfl) ?_
      refine x_getr X hG 14 1 40 1 (inC := iX10) rfl q40.1 q40.2 ⟨by decide, by decide, by decide, rfl, by decide, by decide⟩ w2 dX10_ticksToEvent_31 ?_
      refine x_iconst X dX10_ticksToEvent_34 ?_
      refine x_iald X hG q41.1 q41.2.1 (n := 1167) q41.2.2 ⟨by decide, by decide⟩ (by decide) dX10_ticksToEvent_35 ?_
      refine lv_aload_n X.1.1 X.1.2.1 dX10_ticksToEvent_36 rfl (lv_at hl 1 rfl) ?_
      refine x_getr X hG 14 21 40 10 (inC := iX10) rfl q40.1 q40.2 ⟨by decide, by decide, by decide, rfl, by decide, by decide⟩ w3 dX10_ticksToEvent_37 ?_
      refine x_iconst X dX10_ticksToEvent_40 ?_
      refine x_iald X hG q50.1 q50.2.1 (n := 1167) q50.2.2 ⟨by decide, by decide⟩ (by decide) dX10_ticksToEvent_41 ?_
      obtain ⟨g21, h⟩ := xgd_of h
      refine x_icmp_ne (tgt := 55) X g21.1 g21.2 dX10_ticksToEvent_42 (by decide) (fun c22 => ?_) (fun c22 => ?_)
      · replace h := xif_f h c22
        exact Jj4 _ _ h _ _ _ hG hS (lv_sub hl [1, 0] rfl)
      · replace h := xif_t h c22
        refine lv_aload_n X.1.1 X.1.2.1 dX10_ticksToEvent_45 rfl (lv_at hl 1 rfl) ?_
        obtain ⟨v23, u24, hf, h⟩ := xbd_of h
        refine x_callVv0 X hG hS (c_X10_passes l t  _ _ _ hf) (cwV 0 X.1.2.2.2.2 gX10_ticksToEvent_X10_passes rfl rfl rfl hd_X10_passes ⟨Nat.le_of_ble_eq_true rfl, Nat.le_of_ble_eq_true rfl⟩) q40.1 q40.2 rfl (by decide) (by rfl) hl.1 (Nat.le_of_ble_eq_true rfl) dX10_ticksToEvent_46 ⟨by decide, by decide⟩ rfl (fun H locs hG hS => ?_)
        refine lv_iinc (v := (iI (x1_17 + 1))) (lv' := [(1, .int (iI (x1_17 + 1))), (0, .ref (t.2.2.1 40))]) X.1.1 X.1.2.1 dX10_ticksToEvent_49 hl (k := 0) rfl (iI_add _ _) (by decide) rfl (fun ls hl => ?_)
        refine lv_goto (tgt := 23) X.1.1 X.1.2.1 dX10_ticksToEvent_52 (by decide) ?_
        exact igo16 _ _ _ h rfl _ _ _ hG hS (lv_sub hl [0, 1] rfl)
  exact Lgo16 FU _ _ h _ _ _ hG hS (lv_sub hl [0, 1] rfl)
theorem hd_X10_ticksToEvent : yX10_ticksToEvent.cls = RX10 ∧ yX10_ticksToEvent.cls ≠ "java/lang/invoke/MethodHandle" ∧ yX10_ticksToEvent.cls ≠ "java/lang/invoke/VarHandle" ∧ (parseMethodDescriptor yX10_ticksToEvent.desc).map (fun d => d.parameters.length) = some 0 := by decide +kernel
abbrev rX10_keeps : Room := { frames := 1, cells := 0, slots := 0, locals := 25 }
set_option maxRecDepth 100000 in
set_option maxHeartbeats 8000000 in
theorem c_X10_keeps (l : Launch) (t : gP) (u : uS) (r : Int) (u' : uS) (h : f_X10_keeps u = some (r, u')) : xMv l yX10_keeps wsX10_keeps rX10_keeps t [.ref (t.2.2.1 40)] u u' 0 0 := by
  refine x_ofWv (cc := cX10_keeps) (maxL := 1) (own := RX10) (by decide) rfl rfl (Nat.le_of_ble_eq_true rfl) ?_
  intro p e s m args below meth c Q X hret H locs ls hG hS hl
  replace hl : lv_has ls 1 [(0, .ref (t.2.2.1 40))] := hl
  have q40 : 40 < NN ∧ sT 40 = 14 := by decide
  have iX10 : ∀ w ∈ wsX100, w ∈ wsX10_keeps := by decide +kernel
  have w1 : Cond.fieldLink RX10 187 "TriggerNetworkModel" "undos" "I" ∈ wsX10_keeps := x_w 1 rfl
  have w3 : Cond.fieldLink RX10 7 "TriggerNetworkModel" "now" "[I" ∈ wsX10_keeps := x_w 3 rfl
  have q41 : 41 < NN ∧ sT 41 = 100 ∧ sN 41 = 1167 := by decide
  have w2 : Cond.fieldLink RX10 45 "TriggerNetworkModel" "undo" "[I" ∈ wsX10_keeps := x_w 2 rfl
  have q51 : 51 < NN ∧ sT 51 = 100 ∧ sN 51 = 11670 := by decide
  unfold f_X10_keeps at h
  refine lv_aload_n X.1.1 X.1.2.1 dX10_keeps_0 rfl (lv_at hl 0 rfl) ?_
  refine x_geti X hG 14 22 40 22 (inC := iX10) rfl q40.1 q40.2 ⟨by decide, by decide, by decide, rfl, rfl⟩ w1 dX10_keeps_1 ?_
  refine x_bipush X dX10_keeps_4 (by decide) ?_
  obtain ⟨g1, h⟩ := xgd_of h
  obtain ⟨j2, ej2, h⟩ := xlet_of h
  have Jj2 : ∀ (u3 : uS), j2 u3 = some (r, u') → xG p l e rX10_keeps s m args below meth c t Q 1 0 0 42 u3 [(0, .ref (t.2.2.1 40))] [] := by
      intro u3 h H locs ls hG hS hl
      replace h := (congrFun ej2 u3).symm.trans h
      refine lv_aload_n X.1.1 X.1.2.1 dX10_keeps_42 rfl (lv_at hl 0 rfl) ?_
      refine x_getr X hG 14 1 40 1 (inC := iX10) rfl q40.1 q40.2 ⟨by decide, by decide, by decide, rfl, by decide, by decide⟩ w3 dX10_keeps_43 ?_
      refine x_iconst X dX10_keeps_46 ?_
      refine lv_aload_n X.1.1 X.1.2.1 dX10_keeps_47 rfl (lv_at hl 0 rfl) ?_
      refine x_getr X hG 14 23 40 11 (inC := iX10) rfl q40.1 q40.2 ⟨by decide, by decide, by decide, rfl, by decide, by decide⟩ w2 dX10_keeps_48 ?_
      refine x_sipush X dX10_keeps_51 (by decide) ?_
      refine lv_aload_n X.1.1 X.1.2.1 dX10_keeps_54 rfl (lv_at hl 0 rfl) ?_
      refine x_geti X hG 14 22 40 22 (inC := iX10) rfl q40.1 q40.2 ⟨by decide, by decide, by decide, rfl, rfl⟩ w1 dX10_keeps_55 ?_
      refine x_imul X dX10_keeps_58 ?_
      refine x_sipush X dX10_keeps_59 (by decide) ?_
      obtain ⟨v4, u5, hf, h⟩ := xbd_of h
      refine x_callSv0 X hG hS (c_X10_copies l t _ _ _ _ _ _ _ _ hf) (va_cwS 5 X.1.2.2.2.2 gX10_keeps_X10_copies rfl rfl rfl hds_X10_copies ⟨Nat.le_of_ble_eq_true rfl, Nat.le_of_ble_eq_true rfl⟩) (by rfl) hl.1 (Nat.le_of_ble_eq_true rfl) dX10_keeps_62 ⟨by decide, by decide⟩ rfl (fun H locs hG hS => ?_)
      refine lv_aload_n X.1.1 X.1.2.1 dX10_keeps_65 rfl (lv_at hl 0 rfl) ?_
      refine lv_dup X.1.1 X.1.2.1 dX10_keeps_66 rfl ?_
      refine x_geti X hG 14 22 40 22 (inC := iX10) rfl q40.1 q40.2 ⟨by decide, by decide, by decide, rfl, rfl⟩ w1 dX10_keeps_67 ?_
      refine x_iconst X dX10_keeps_70 ?_
      refine x_iadd X dX10_keeps_71 ?_
      refine x_puti X hG hS 14 22 40 22 _ tyX10 tyX10_ok nmX10 (inC := iX10) rfl q40.1 q40.2 ⟨by decide, by decide, by decide, rfl, rfl⟩ rfl (by decide +kernel) w1 dX10_keeps_72 (fun H locs hG hS => ?_)
      obtain ⟨u6, eu6, h⟩ := xlet_of h
      replace hG : G t u6 H := by rw [eu6]; exact hG
      cases h
      exact hret _ _ _ _ dX10_keeps_75 hG hS
  refine x_icmp_ne (tgt := 42) X g1 ⟨by decide, by decide⟩ dX10_keeps_6 (by decide) (fun c7 => ?_) (fun c7 => ?_)
  · replace h := xif_f h c7
    exact Jj2 _ h _ _ _ hG hS (lv_sub hl [0] rfl)
  · replace h := xif_t h c7
    refine lv_aload_n X.1.1 X.1.2.1 dX10_keeps_9 rfl (lv_at hl 0 rfl) ?_
    refine lv_dup X.1.1 X.1.2.1 dX10_keeps_10 rfl ?_
    refine x_geti X hG 14 22 40 22 (inC := iX10) rfl q40.1 q40.2 ⟨by decide, by decide, by decide, rfl, rfl⟩ w1 dX10_keeps_11 ?_
    refine x_iconst X dX10_keeps_14 ?_
    refine x_isub X dX10_keeps_15 ?_
    refine x_puti X hG hS 14 22 40 22 _ tyX10 tyX10_ok nmX10 (inC := iX10) rfl q40.1 q40.2 ⟨by decide, by decide, by decide, rfl, rfl⟩ rfl (by decide +kernel) w1 dX10_keeps_16 (fun H locs hG hS => ?_)
    obtain ⟨u8, eu8, h⟩ := xlet_of h
    replace hG : G t u8 H := by rw [eu8]; exact hG
    refine lv_aload_n X.1.1 X.1.2.1 dX10_keeps_19 rfl (lv_at hl 0 rfl) ?_
    refine x_getr X hG 14 23 40 11 (inC := iX10) rfl q40.1 q40.2 ⟨by decide, by decide, by decide, rfl, by decide, by decide⟩ w2 dX10_keeps_20 ?_
    refine x_sipush X dX10_keeps_23 (by decide) ?_
    refine lv_aload_n X.1.1 X.1.2.1 dX10_keeps_26 rfl (lv_at hl 0 rfl) ?_
    refine x_getr X hG 14 23 40 11 (inC := iX10) rfl q40.1 q40.2 ⟨by decide, by decide, by decide, rfl, by decide, by decide⟩ w2 dX10_keeps_27 ?_
    refine x_iconst X dX10_keeps_30 ?_
    refine x_sipush X dX10_keeps_31 (by decide) ?_
    refine lv_aload_n X.1.1 X.1.2.1 dX10_keeps_34 rfl (lv_at hl 0 rfl) ?_
    refine x_geti X hG 14 22 40 22 (inC := iX10) rfl q40.1 q40.2 ⟨by decide, by decide, by decide, rfl, rfl⟩ w1 dX10_keeps_35 ?_
    refine x_imul X dX10_keeps_38 ?_
    obtain ⟨v9, u10, hf, h⟩ := xbd_of h
    refine x_callSv0 X hG hS (c_X10_copies l t _ _ _ _ _ _ _ _ hf) (va_cwS 5 X.1.2.2.2.2 gX10_keeps_X10_copies rfl rfl rfl hds_X10_copies ⟨Nat.le_of_ble_eq_true rfl, Nat.le_of_ble_eq_true rfl⟩) (by rfl) hl.1 (Nat.le_of_ble_eq_true rfl) dX10_keeps_39 ⟨by decide, by decide⟩ rfl (fun H locs hG hS => ?_)
    exact Jj2 _ h _ _ _ hG hS (lv_sub hl [0] rfl)
theorem hd_X10_keeps : yX10_keeps.cls = RX10 ∧ yX10_keeps.cls ≠ "java/lang/invoke/MethodHandle" ∧ yX10_keeps.cls ≠ "java/lang/invoke/VarHandle" ∧ (parseMethodDescriptor yX10_keeps.desc).map (fun d => d.parameters.length) = some 0 := by decide +kernel
abbrev rX10_setLevel : Room := { frames := 3, cells := 0, slots := 0, locals := 65 }
set_option maxRecDepth 100000 in
set_option maxHeartbeats 8000000 in
theorem c_X10_setLevel (l : Launch) (t : gP) (x1 : Int) (x2 : Int) (u : uS) (r : Int) (u' : uS) (h : f_X10_setLevel x1 x2 u = some (r, u')) : xMi l yX10_setLevel wsX10_setLevel rX10_setLevel t [.ref (t.2.2.1 40), .int (iI x1), .int (iI x2)] u r u' 0 0 := by
  refine x_ofWi (cc := cX10_setLevel) (maxL := 4) (ret := .int) (own := RX10) (by decide) rfl rfl (Nat.le_of_ble_eq_true rfl) ?_
  intro p e s m args below meth c Q X hret H locs ls hG hS hl
  replace hl : lv_has ls 4 [(0, .ref (t.2.2.1 40)), (1, .int (iI x1)), (2, .int (iI x2))] := hl
  have q40 : 40 < NN ∧ sT 40 = 14 := by decide
  have iX10 : ∀ w ∈ wsX100, w ∈ wsX10_setLevel := by decide +kernel
  have w1 : Cond.fieldLink RX10 7 "TriggerNetworkModel" "now" "[I" ∈ wsX10_setLevel := x_w 1 rfl
  have q41 : 41 < NN ∧ sT 41 = 100 ∧ sN 41 = 1167 := by decide
  unfold f_X10_setLevel at h
  refine lv_aload_n X.1.1 X.1.2.1 dX10_setLevel_0 rfl (lv_at hl 0 rfl) ?_
  refine lv_iload_n X.1.1 X.1.2.1 dX10_setLevel_1 rfl (lv_at hl 1 rfl) ?_
  obtain ⟨v1, u2, hf, h⟩ := xbd_of h
  refine x_callVi0 X hG hS (c_X10_noStation l t _ _ _ _ hf) (cwV 1 X.1.2.2.2.2 gX10_setLevel_X10_noStation rfl rfl rfl hd_X10_noStation ⟨Nat.le_of_ble_eq_true rfl, Nat.le_of_ble_eq_true rfl⟩) q40.1 q40.2 rfl (by decide) (by rfl) hl.1 (Nat.le_of_ble_eq_true rfl) dX10_setLevel_2 ⟨by decide, by decide⟩ rfl (fun H locs hG hS => ?_)
  obtain ⟨g3, h⟩ := xgd_of h
  refine x_if_ne (tgt := 32) X g3 dX10_setLevel_5 (by decide) (fun c4 => ?_) (fun c4 => ?_)
  · replace h := xif_f h c4
    refine x_iconst X dX10_setLevel_32 ?_
    cases h
    exact hret _ _ _ _ dX10_setLevel_33 rfl hG hS
  · replace h := xif_t h c4
    refine lv_aload_n X.1.1 X.1.2.1 dX10_setLevel_8 rfl (lv_at hl 0 rfl) ?_
    refine lv_iload_n X.1.1 X.1.2.1 dX10_setLevel_9 rfl (lv_at hl 2 rfl) ?_
    refine x_iconst X dX10_setLevel_10 ?_
    refine x_sipush X dX10_setLevel_11 (by decide) ?_
    obtain ⟨v5, u6, hf, h⟩ := xbd_of h
    refine x_callSi0 X hG hS (c_X10_within l t _ _ _ _ _ _ hf) (va_cwS 3 X.1.2.2.2.2 gX10_setLevel_X10_within rfl rfl rfl hds_X10_within ⟨Nat.le_of_ble_eq_true rfl, Nat.le_of_ble_eq_true rfl⟩) (by rfl) hl.1 (Nat.le_of_ble_eq_true rfl) dX10_setLevel_14 ⟨by decide, by decide⟩ rfl (fun H locs hG hS => ?_)
    obtain ⟨g7, h⟩ := xgd_of h
    obtain ⟨j8, ej8, h⟩ := xlet_of h
    have Jj8 : ∀ (s9 : Int) (u10 : uS), j8 s9 u10 = some (r, u') → xG p l e rX10_setLevel s m args below meth c t Q 4 0 0 25 u10 [(0, .ref (t.2.2.1 40)), (1, .int (iI x1)), (2, .int (iI x2))] [.int (iI s9), .ref (t.2.2.1 40)] := by
        intro s9 u10 h H locs ls hG hS hl
        replace h := (congrFun (congrFun ej8 s9) u10).symm.trans h
        refine x_iconst X dX10_setLevel_25 ?_
        obtain ⟨v11, u12, hf, h⟩ := xbd_of h
        refine x_callVi0 X hG hS (c_X10_throwsIf l t _ _ _ _ _ hf) (cwV 2 X.1.2.2.2.2 gX10_setLevel_X10_throwsIf rfl rfl rfl hd_X10_throwsIf ⟨Nat.le_of_ble_eq_true rfl, Nat.le_of_ble_eq_true rfl⟩) q40.1 q40.2 rfl (by decide) (by rfl) hl.1 (Nat.le_of_ble_eq_true rfl) dX10_setLevel_26 ⟨by decide, by decide⟩ rfl (fun H locs hG hS => ?_)
        obtain ⟨g13, h⟩ := xgd_of h
        refine x_if_eq (tgt := 34) X g13 dX10_setLevel_29 (by decide) (fun c14 => ?_) (fun c14 => ?_)
        · replace h := xif_t h c14
          refine lv_aload_n X.1.1 X.1.2.1 dX10_setLevel_34 rfl (lv_at hl 0 rfl) ?_
          obtain ⟨v15, u16, hf, h⟩ := xbd_of h
          refine x_callVv0 X hG hS (c_X10_keeps l t  _ _ _ hf) (cwV 0 X.1.2.2.2.2 gX10_setLevel_X10_keeps rfl rfl rfl hd_X10_keeps ⟨Nat.le_of_ble_eq_true rfl, Nat.le_of_ble_eq_true rfl⟩) q40.1 q40.2 rfl (by decide) (by rfl) hl.1 (Nat.le_of_ble_eq_true rfl) dX10_setLevel_35 ⟨by decide, by decide⟩ rfl (fun H locs hG hS => ?_)
          refine lv_aload_n X.1.1 X.1.2.1 dX10_setLevel_38 rfl (lv_at hl 0 rfl) ?_
          refine x_getr X hG 14 1 40 1 (inC := iX10) rfl q40.1 q40.2 ⟨by decide, by decide, by decide, rfl, by decide, by decide⟩ w1 dX10_setLevel_39 ?_
          refine lv_iload_n X.1.1 X.1.2.1 dX10_setLevel_42 rfl (lv_at hl 1 rfl) ?_
          refine x_iconst X dX10_setLevel_43 ?_
          obtain ⟨v17, u18, hf, h⟩ := xbd_of h
          refine x_callSi0 X hG hS (c_X10_at l t _ _ _ _ _ hf) (va_cwS 2 X.1.2.2.2.2 gX10_setLevel_X10_at rfl rfl rfl hds_X10_at ⟨Nat.le_of_ble_eq_true rfl, Nat.le_of_ble_eq_true rfl⟩) (by rfl) hl.1 (Nat.le_of_ble_eq_true rfl) dX10_setLevel_44 ⟨by decide, by decide⟩ rfl (fun H locs hG hS => ?_)
          obtain ⟨g19, h⟩ := xgd_of h
          refine x_iald X hG q41.1 q41.2.1 (n := 1167) q41.2.2 g19 (by decide) dX10_setLevel_47 ?_
          refine x_name (fun x3_20 ex3_20 => ?_)
          replace h := xlet_at ex3_20 h
          refine lv_istore_n (lv' := [(3, .int (iI x3_20)), (0, .ref (t.2.2.1 40)), (1, .int (iI x1)), (2, .int (iI x2))]) X.1.1 X.1.2.1 dX10_setLevel_48 rfl hl (by decide) rfl (fun ls hl => ?_)
          refine lv_aload_n X.1.1 X.1.2.1 dX10_setLevel_49 rfl (lv_at hl 1 rfl) ?_
          refine x_getr X hG 14 1 40 1 (inC := iX10) rfl q40.1 q40.2 ⟨by decide, by decide, by decide, rfl, by decide, by decide⟩ w1 dX10_setLevel_50 ?_
          refine lv_iload_n X.1.1 X.1.2.1 dX10_setLevel_53 rfl (lv_at hl 2 rfl) ?_
          refine x_iconst X dX10_setLevel_54 ?_
          obtain ⟨v21, u22, hf, h⟩ := xbd_of h
          refine x_callSi0 X hG hS (c_X10_at l t _ _ _ _ _ hf) (va_cwS 2 X.1.2.2.2.2 gX10_setLevel_X10_at rfl rfl rfl hds_X10_at ⟨Nat.le_of_ble_eq_true rfl, Nat.le_of_ble_eq_true rfl⟩) (by rfl) hl.1 (Nat.le_of_ble_eq_true rfl) dX10_setLevel_55 ⟨by decide, by decide⟩ rfl (fun H locs hG hS => ?_)
          refine lv_iload_n X.1.1 X.1.2.1 dX10_setLevel_58 rfl (lv_at hl 3 rfl) ?_
          obtain ⟨g23, h⟩ := xgd_of h
          refine x_iast X hG hS q41.1 q41.2.1 (n := 1167) q41.2.2 g23 (by decide) dX10_setLevel_59 (fun H locs hG hS => ?_)
          obtain ⟨u24, eu24, h⟩ := xlet_of h
          replace hG : G t u24 H := by rw [eu24]; exact hG
          refine lv_iload_n X.1.1 X.1.2.1 dX10_setLevel_60 rfl (lv_at hl 0 rfl) ?_
          cases h
          exact hret _ _ _ _ dX10_setLevel_61 rfl hG hS
        · replace h := xif_f h c14
          refine x_iconst X dX10_setLevel_32 ?_
          cases h
          exact hret _ _ _ _ dX10_setLevel_33 rfl hG hS
    refine x_if_ne (tgt := 24) X g7 dX10_setLevel_17 (by decide) (fun c25 => ?_) (fun c25 => ?_)
    · replace h := xif_f h c25
      refine x_iconst X dX10_setLevel_24 ?_
      exact Jj8 _ _ h _ _ _ hG hS (lv_sub hl [0, 1, 2] rfl)
    · replace h := xif_t h c25
      refine x_iconst X dX10_setLevel_20 ?_
      refine lv_goto (tgt := 25) X.1.1 X.1.2.1 dX10_setLevel_21 (by decide) ?_
      exact Jj8 _ _ h _ _ _ hG hS (lv_sub hl [0, 1, 2] rfl)
theorem hd_X10_setLevel : yX10_setLevel.cls = RX10 ∧ yX10_setLevel.cls ≠ "java/lang/invoke/MethodHandle" ∧ yX10_setLevel.cls ≠ "java/lang/invoke/VarHandle" ∧ (parseMethodDescriptor yX10_setLevel.desc).map (fun d => d.parameters.length) = some 2 := by decide +kernel
abbrev rX10_pass : Room := { frames := 7, cells := 0, slots := 0, locals := 164 }
set_option maxRecDepth 100000 in
set_option maxHeartbeats 8000000 in
theorem c_X10_pass (l : Launch) (t : gP) (x1 : Int) (u : uS) (r : Int) (u' : uS) (h : f_X10_pass x1 u = some (r, u')) : xMi l yX10_pass wsX10_pass rX10_pass t [.ref (t.2.2.1 40), .int (iI x1)] u r u' 0 0 := by
  refine x_ofWi (cc := cX10_pass) (maxL := 4) (ret := .int) (own := RX10) (by decide) rfl rfl (Nat.le_of_ble_eq_true rfl) ?_
  intro p e s m args below meth c Q X hret H locs ls hG hS hl
  replace hl : lv_has ls 4 [(0, .ref (t.2.2.1 40)), (1, .int (iI x1))] := hl
  have q40 : 40 < NN ∧ sT 40 = 14 := by decide
  have iX10 : ∀ w ∈ wsX100, w ∈ wsX10_pass := by decide +kernel
  have w1 : Cond.fieldLink RX10 64 "TriggerNetworkModel" "thrown" "I" ∈ wsX10_pass := x_w 1 rfl
  have w2 : Cond.fieldLink RX10 7 "TriggerNetworkModel" "now" "[I" ∈ wsX10_pass := x_w 2 rfl
  have q41 : 41 < NN ∧ sT 41 = 100 ∧ sN 41 = 1167 := by decide
  unfold f_X10_pass at h
  refine lv_aload_n X.1.1 X.1.2.1 dX10_pass_0 rfl (lv_at hl 0 rfl) ?_
  refine x_iconst X dX10_pass_1 ?_
  refine x_puti X hG hS 14 0 40 0 _ tyX10 tyX10_ok nmX10 (inC := iX10) rfl q40.1 q40.2 ⟨by decide, by decide, by decide, rfl, rfl⟩ rfl (by decide +kernel) w1 dX10_pass_2 (fun H locs hG hS => ?_)
  obtain ⟨u1, eu1, h⟩ := xlet_of h
  replace hG : G t u1 H := by rw [eu1]; exact hG
  refine lv_aload_n X.1.1 X.1.2.1 dX10_pass_5 rfl (lv_at hl 0 rfl) ?_
  refine lv_iload_n X.1.1 X.1.2.1 dX10_pass_6 rfl (lv_at hl 1 rfl) ?_
  refine x_iconst X dX10_pass_7 ?_
  refine x_sipush X dX10_pass_8 (by decide) ?_
  obtain ⟨v2, u3, hf, h⟩ := xbd_of h
  refine x_callSi0 X hG hS (c_X10_within l t _ _ _ _ _ _ hf) (va_cwS 3 X.1.2.2.2.2 gX10_pass_X10_within rfl rfl rfl hds_X10_within ⟨Nat.le_of_ble_eq_true rfl, Nat.le_of_ble_eq_true rfl⟩) (by rfl) hl.1 (Nat.le_of_ble_eq_true rfl) dX10_pass_11 ⟨by decide, by decide⟩ rfl (fun H locs hG hS => ?_)
  obtain ⟨g4, h⟩ := xgd_of h
  obtain ⟨j5, ej5, h⟩ := xlet_of h
  have Jj5 : ∀ (s6 : Int) (u7 : uS), j5 s6 u7 = some (r, u') → xG p l e rX10_pass s m args below meth c t Q 4 0 0 22 u7 [(0, .ref (t.2.2.1 40)), (1, .int (iI x1))] [.int (iI s6), .ref (t.2.2.1 40)] := by
      intro s6 u7 h H locs ls hG hS hl
      replace h := (congrFun (congrFun ej5 s6) u7).symm.trans h
      refine x_iconst X dX10_pass_22 ?_
      obtain ⟨v8, u9, hf, h⟩ := xbd_of h
      refine x_callVi0 X hG hS (c_X10_throwsIf l t _ _ _ _ _ hf) (cwV 2 X.1.2.2.2.2 gX10_pass_X10_throwsIf rfl rfl rfl hd_X10_throwsIf ⟨Nat.le_of_ble_eq_true rfl, Nat.le_of_ble_eq_true rfl⟩) q40.1 q40.2 rfl (by decide) (by rfl) hl.1 (Nat.le_of_ble_eq_true rfl) dX10_pass_23 ⟨by decide, by decide⟩ rfl (fun H locs hG hS => ?_)
      obtain ⟨g10, h⟩ := xgd_of h
      refine x_if_ne (tgt := 56) X g10 dX10_pass_26 (by decide) (fun c11 => ?_) (fun c11 => ?_)
      · replace h := xif_f h c11
        refine x_iconst X dX10_pass_56 ?_
        cases h
        exact hret _ _ _ _ dX10_pass_57 rfl hG hS
      · replace h := xif_t h c11
        refine lv_aload_n X.1.1 X.1.2.1 dX10_pass_29 rfl (lv_at hl 0 rfl) ?_
        refine lv_aload_n X.1.1 X.1.2.1 dX10_pass_30 rfl (lv_at hl 0 rfl) ?_
        refine x_getr X hG 14 1 40 1 (inC := iX10) rfl q40.1 q40.2 ⟨by decide, by decide, by decide, rfl, by decide, by decide⟩ w2 dX10_pass_31 ?_
        refine x_iconst X dX10_pass_34 ?_
        refine x_iald X hG q41.1 q41.2.1 (n := 1167) q41.2.2 ⟨by decide, by decide⟩ (by decide) dX10_pass_35 ?_
        refine lv_iload_n X.1.1 X.1.2.1 dX10_pass_36 rfl (lv_at hl 1 rfl) ?_
        refine x_iadd X dX10_pass_37 ?_
        refine x_sipush X dX10_pass_38 (by decide) ?_
        obtain ⟨g12, h⟩ := xgd_of h
        obtain ⟨j13, ej13, h⟩ := xlet_of h
        have Jj13 : ∀ (s14 : Int) (u15 : uS), j13 s14 u15 = some (r, u') → xG p l e rX10_pass s m args below meth c t Q 4 0 0 49 u15 [(0, .ref (t.2.2.1 40)), (1, .int (iI x1))] [.int (iI s14), .ref (t.2.2.1 40)] := by
            intro s14 u15 h H locs ls hG hS hl
            replace h := (congrFun (congrFun ej13 s14) u15).symm.trans h
            refine x_iconst X dX10_pass_49 ?_
            obtain ⟨v16, u17, hf, h⟩ := xbd_of h
            refine x_callVi0 X hG hS (c_X10_throwsIf l t _ _ _ _ _ hf) (cwV 2 X.1.2.2.2.2 gX10_pass_X10_throwsIf rfl rfl rfl hd_X10_throwsIf ⟨Nat.le_of_ble_eq_true rfl, Nat.le_of_ble_eq_true rfl⟩) q40.1 q40.2 rfl (by decide) (by rfl) hl.1 (Nat.le_of_ble_eq_true rfl) dX10_pass_50 ⟨by decide, by decide⟩ rfl (fun H locs hG hS => ?_)
            obtain ⟨g18, h⟩ := xgd_of h
            refine x_if_eq (tgt := 58) X g18 dX10_pass_53 (by decide) (fun c19 => ?_) (fun c19 => ?_)
            · replace h := xif_t h c19
              refine lv_aload_n X.1.1 X.1.2.1 dX10_pass_58 rfl (lv_at hl 0 rfl) ?_
              obtain ⟨v20, u21, hf, h⟩ := xbd_of h
              refine x_callVv0 X hG hS (c_X10_keeps l t  _ _ _ hf) (cwV 0 X.1.2.2.2.2 gX10_pass_X10_keeps rfl rfl rfl hd_X10_keeps ⟨Nat.le_of_ble_eq_true rfl, Nat.le_of_ble_eq_true rfl⟩) q40.1 q40.2 rfl (by decide) (by rfl) hl.1 (Nat.le_of_ble_eq_true rfl) dX10_pass_59 ⟨by decide, by decide⟩ rfl (fun H locs hG hS => ?_)
              refine lv_aload_n X.1.1 X.1.2.1 dX10_pass_62 rfl (lv_at hl 0 rfl) ?_
              refine x_getr X hG 14 1 40 1 (inC := iX10) rfl q40.1 q40.2 ⟨by decide, by decide, by decide, rfl, by decide, by decide⟩ w2 dX10_pass_63 ?_
              refine x_iconst X dX10_pass_66 ?_
              refine x_iald X hG q41.1 q41.2.1 (n := 1167) q41.2.2 ⟨by decide, by decide⟩ (by decide) dX10_pass_67 ?_
              refine x_name (fun x2_22 ex2_22 => ?_)
              replace h := xlet_at ex2_22 h
              refine lv_istore_n (lv' := [(2, .int (iI x2_22)), (0, .ref (t.2.2.1 40)), (1, .int (iI x1))]) X.1.1 X.1.2.1 dX10_pass_68 rfl hl (by decide) rfl (fun ls hl => ?_)
              refine x_iconst X dX10_pass_69 ?_
              refine lv_istore_n (lv' := [(3, .int (iI 0)), (2, .int (iI x2_22)), (0, .ref (t.2.2.1 40)), (1, .int (iI x1))]) X.1.1 X.1.2.1 dX10_pass_70 rfl hl (by decide) rfl (fun ls hl => ?_)
              obtain ⟨j23, ej23, h⟩ := xlet_of h
              have Jj23 : ∀ (u24 : uS), j23 u24 = some (r, u') → xG p l e rX10_pass s m args below meth c t Q 4 0 0 86 u24 [(0, .ref (t.2.2.1 40)), (2, .int (iI x2_22))] [] := by
                  intro u24 h H locs ls hG hS hl
                  replace h := (congrFun ej23 u24).symm.trans h
                  refine lv_aload_n X.1.1 X.1.2.1 dX10_pass_86 rfl (lv_at hl 0 rfl) ?_
                  refine x_getr X hG 14 1 40 1 (inC := iX10) rfl q40.1 q40.2 ⟨by decide, by decide, by decide, rfl, by decide, by decide⟩ w2 dX10_pass_87 ?_
                  refine x_iconst X dX10_pass_90 ?_
                  refine x_iald X hG q41.1 q41.2.1 (n := 1167) q41.2.2 ⟨by decide, by decide⟩ (by decide) dX10_pass_91 ?_
                  refine lv_iload_n X.1.1 X.1.2.1 dX10_pass_92 rfl (lv_at hl 1 rfl) ?_
                  refine x_isub X dX10_pass_93 ?_
                  cases h
                  exact hret _ _ _ _ dX10_pass_94 rfl hG hS
              have Lgo25 : ∀ (n : Nat) (x3_26 : Int) (u27 : uS), xl2 (s_X10_pass_71 x1 j23) n x3_26 u27 = some (r, u') → xG p l e rX10_pass s m args below meth c t Q 4 0 0 71 u27 [(3, .int (iI x3_26)), (0, .ref (t.2.2.1 40)), (1, .int (iI x1)), (2, .int (iI x2_22))] [] := by
                intro n x3_26 u27 h
                refine xl2_W (F := s_X10_pass_71 x1 j23) (fun x3_26 u27 q => q = (r, u') → xG p l e rX10_pass s m args below meth c t Q 4 0 0 71 u27 [(3, .int (iI x3_26)), (0, .ref (t.2.2.1 40)), (1, .int (iI x1)), (2, .int (iI x2_22))] []) ?_ n x3_26 u27 _ h rfl
                intro go25 igo25 x3_26 u27 q h hq H locs ls hG hS hl
                subst hq
                unfold s_X10_pass_71 at h
                refine lv_iload_n X.1.1 X.1.2.1 dX10_pass_71 rfl (lv_at hl 0 rfl) ?_
                refine lv_iload_n X.1.1 X.1.2.1 dX10_pass_72 rfl (lv_at hl 2 rfl) ?_
                obtain ⟨g28, h⟩ := xgd_of h
                refine x_icmp_ge (tgt := 86) X g28.1 g28.2 dX10_pass_73 (by decide) (fun c29 => ?_) (fun c29 => ?_)
                · replace h := xif_t h c29
                  exact Jj23 _ h _ _ _ hG hS (lv_sub hl [1, 3] rfl)
                · replace h := xif_f h c29
                  refine lv_aload_n X.1.1 X.1.2.1 dX10_pass_76 rfl (lv_at hl 1 rfl) ?_
                  obtain ⟨v30, u31, hf, h⟩ := xbd_of h
                  refine x_callVv0 X hG hS (c_X10_passes l t  _ _ _ hf) (cwV 0 X.1.2.2.2.2 gX10_pass_X10_passes rfl rfl rfl hd_X10_passes ⟨Nat.le_of_ble_eq_true rfl, Nat.le_of_ble_eq_true rfl⟩) q40.1 q40.2 rfl (by decide) (by rfl) hl.1 (Nat.le_of_ble_eq_true rfl) dX10_pass_77 ⟨by decide, by decide⟩ rfl (fun H locs hG hS => ?_)
                  refine lv_iinc (v := (iI (x3_26 + 1))) (lv' := [(3, .int (iI (x3_26 + 1))), (0, .ref (t.2.2.1 40)), (1, .int (iI x1)), (2, .int (iI x2_22))]) X.1.1 X.1.2.1 dX10_pass_80 hl (k := 0) rfl (iI_add _ _) (by decide) rfl (fun ls hl => ?_)
                  refine lv_goto (tgt := 71) X.1.1 X.1.2.1 dX10_pass_83 (by decide) ?_
                  exact igo25 _ _ _ h rfl _ _ _ hG hS (lv_sub hl [0, 1, 2, 3] rfl)
              exact Lgo25 FU _ _ h _ _ _ hG hS (lv_sub hl [0, 2, 3, 1] rfl)
            · replace h := xif_f h c19
              refine x_iconst X dX10_pass_56 ?_
              cases h
              exact hret _ _ _ _ dX10_pass_57 rfl hG hS
        refine x_icmp_le (tgt := 48) X g12 ⟨by decide, by decide⟩ dX10_pass_41 (by decide) (fun c32 => ?_) (fun c32 => ?_)
        · replace h := xif_t h c32
          refine x_iconst X dX10_pass_48 ?_
          exact Jj13 _ _ h _ _ _ hG hS (lv_sub hl [0, 1] rfl)
        · replace h := xif_f h c32
          refine x_iconst X dX10_pass_44 ?_
          refine lv_goto (tgt := 49) X.1.1 X.1.2.1 dX10_pass_45 (by decide) ?_
          exact Jj13 _ _ h _ _ _ hG hS (lv_sub hl [0, 1] rfl)
  refine x_if_ne (tgt := 21) X g4 dX10_pass_14 (by decide) (fun c33 => ?_) (fun c33 => ?_)
  · replace h := xif_f h c33
    refine x_iconst X dX10_pass_21 ?_
    exact Jj5 _ _ h _ _ _ hG hS (lv_sub hl [0, 1] rfl)
  · replace h := xif_t h c33
    refine x_iconst X dX10_pass_17 ?_
    refine lv_goto (tgt := 22) X.1.1 X.1.2.1 dX10_pass_18 (by decide) ?_
    exact Jj5 _ _ h _ _ _ hG hS (lv_sub hl [0, 1] rfl)
theorem hd_X10_pass : yX10_pass.cls = RX10 ∧ yX10_pass.cls ≠ "java/lang/invoke/MethodHandle" ∧ yX10_pass.cls ≠ "java/lang/invoke/VarHandle" ∧ (parseMethodDescriptor yX10_pass.desc).map (fun d => d.parameters.length) = some 1 := by decide +kernel
abbrev rX10_mute : Room := { frames := 4, cells := 0, slots := 0, locals := 88 }
set_option maxRecDepth 100000 in
set_option maxHeartbeats 8000000 in
theorem c_X10_mute (l : Launch) (t : gP) (x1 : Int) (u : uS) (r : Int) (u' : uS) (h : f_X10_mute x1 u = some (r, u')) : xMi l yX10_mute wsX10_mute rX10_mute t [.ref (t.2.2.1 40), .int (iI x1)] u r u' 0 0 := by
  refine x_ofWi (cc := cX10_mute) (maxL := 2) (ret := .int) (own := RX10) (by decide) rfl rfl (Nat.le_of_ble_eq_true rfl) ?_
  intro p e s m args below meth c Q X hret H locs ls hG hS hl
  replace hl : lv_has ls 2 [(0, .ref (t.2.2.1 40)), (1, .int (iI x1))] := hl
  have q40 : 40 < NN ∧ sT 40 = 14 := by decide
  have iX10 : ∀ w ∈ wsX100, w ∈ wsX10_mute := by decide +kernel
  have w1 : Cond.fieldLink RX10 7 "TriggerNetworkModel" "now" "[I" ∈ wsX10_mute := x_w 1 rfl
  have q41 : 41 < NN ∧ sT 41 = 100 ∧ sN 41 = 1167 := by decide
  unfold f_X10_mute at h
  refine lv_aload_n X.1.1 X.1.2.1 dX10_mute_0 rfl (lv_at hl 0 rfl) ?_
  refine lv_iload_n X.1.1 X.1.2.1 dX10_mute_1 rfl (lv_at hl 1 rfl) ?_
  obtain ⟨v1, u2, hf, h⟩ := xbd_of h
  refine x_callVi0 X hG hS (c_X10_noStation l t _ _ _ _ hf) (cwV 1 X.1.2.2.2.2 gX10_mute_X10_noStation rfl rfl rfl hd_X10_noStation ⟨Nat.le_of_ble_eq_true rfl, Nat.le_of_ble_eq_true rfl⟩) q40.1 q40.2 rfl (by decide) (by rfl) hl.1 (Nat.le_of_ble_eq_true rfl) dX10_mute_2 ⟨by decide, by decide⟩ rfl (fun H locs hG hS => ?_)
  obtain ⟨g3, h⟩ := xgd_of h
  refine x_if_ne (tgt := 35) X g3 dX10_mute_5 (by decide) (fun c4 => ?_) (fun c4 => ?_)
  · replace h := xif_f h c4
    refine x_iconst X dX10_mute_35 ?_
    cases h
    exact hret _ _ _ _ dX10_mute_36 rfl hG hS
  · replace h := xif_t h c4
    refine lv_aload_n X.1.1 X.1.2.1 dX10_mute_8 rfl (lv_at hl 0 rfl) ?_
    refine lv_aload_n X.1.1 X.1.2.1 dX10_mute_9 rfl (lv_at hl 0 rfl) ?_
    refine x_getr X hG 14 1 40 1 (inC := iX10) rfl q40.1 q40.2 ⟨by decide, by decide, by decide, rfl, by decide, by decide⟩ w1 dX10_mute_10 ?_
    refine lv_iload_n X.1.1 X.1.2.1 dX10_mute_13 rfl (lv_at hl 1 rfl) ?_
    refine x_iconst X dX10_mute_14 ?_
    obtain ⟨v5, u6, hf, h⟩ := xbd_of h
    refine x_callSi0 X hG hS (c_X10_at l t _ _ _ _ _ hf) (va_cwS 2 X.1.2.2.2.2 gX10_mute_X10_at rfl rfl rfl hds_X10_at ⟨Nat.le_of_ble_eq_true rfl, Nat.le_of_ble_eq_true rfl⟩) (by rfl) hl.1 (Nat.le_of_ble_eq_true rfl) dX10_mute_15 ⟨by decide, by decide⟩ rfl (fun H locs hG hS => ?_)
    obtain ⟨g7, h⟩ := xgd_of h
    refine x_iald X hG q41.1 q41.2.1 (n := 1167) q41.2.2 g7 (by decide) dX10_mute_18 ?_
    refine x_iconst X dX10_mute_19 ?_
    obtain ⟨g8, h⟩ := xgd_of h
    obtain ⟨j9, ej9, h⟩ := xlet_of h
    have Jj9 : ∀ (s10 : Int) (u11 : uS), j9 s10 u11 = some (r, u') → xG p l e rX10_mute s m args below meth c t Q 2 0 0 28 u11 [(0, .ref (t.2.2.1 40)), (1, .int (iI x1))] [.int (iI s10), .ref (t.2.2.1 40)] := by
        intro s10 u11 h H locs ls hG hS hl
        replace h := (congrFun (congrFun ej9 s10) u11).symm.trans h
        refine x_iconst X dX10_mute_28 ?_
        obtain ⟨v12, u13, hf, h⟩ := xbd_of h
        refine x_callVi0 X hG hS (c_X10_throwsIf l t _ _ _ _ _ hf) (cwV 2 X.1.2.2.2.2 gX10_mute_X10_throwsIf rfl rfl rfl hd_X10_throwsIf ⟨Nat.le_of_ble_eq_true rfl, Nat.le_of_ble_eq_true rfl⟩) q40.1 q40.2 rfl (by decide) (by rfl) hl.1 (Nat.le_of_ble_eq_true rfl) dX10_mute_29 ⟨by decide, by decide⟩ rfl (fun H locs hG hS => ?_)
        obtain ⟨g14, h⟩ := xgd_of h
        refine x_if_eq (tgt := 37) X g14 dX10_mute_32 (by decide) (fun c15 => ?_) (fun c15 => ?_)
        · replace h := xif_t h c15
          refine lv_aload_n X.1.1 X.1.2.1 dX10_mute_37 rfl (lv_at hl 0 rfl) ?_
          obtain ⟨v16, u17, hf, h⟩ := xbd_of h
          refine x_callVv0 X hG hS (c_X10_keeps l t  _ _ _ hf) (cwV 0 X.1.2.2.2.2 gX10_mute_X10_keeps rfl rfl rfl hd_X10_keeps ⟨Nat.le_of_ble_eq_true rfl, Nat.le_of_ble_eq_true rfl⟩) q40.1 q40.2 rfl (by decide) (by rfl) hl.1 (Nat.le_of_ble_eq_true rfl) dX10_mute_38 ⟨by decide, by decide⟩ rfl (fun H locs hG hS => ?_)
          refine lv_aload_n X.1.1 X.1.2.1 dX10_mute_41 rfl (lv_at hl 0 rfl) ?_
          refine lv_iload_n X.1.1 X.1.2.1 dX10_mute_42 rfl (lv_at hl 1 rfl) ?_
          obtain ⟨v18, u19, hf, h⟩ := xbd_of h
          refine x_callVi0 X hG hS (c_X10_mutes l t _ _ _ _ hf) (cwV 1 X.1.2.2.2.2 gX10_mute_X10_mutes rfl rfl rfl hd_X10_mutes ⟨Nat.le_of_ble_eq_true rfl, Nat.le_of_ble_eq_true rfl⟩) q40.1 q40.2 rfl (by decide) (by rfl) hl.1 (Nat.le_of_ble_eq_true rfl) dX10_mute_43 ⟨by decide, by decide⟩ rfl (fun H locs hG hS => ?_)
          cases h
          exact hret _ _ _ _ dX10_mute_46 rfl hG hS
        · replace h := xif_f h c15
          refine x_iconst X dX10_mute_35 ?_
          cases h
          exact hret _ _ _ _ dX10_mute_36 rfl hG hS
    refine x_icmp_ne (tgt := 27) X g8 ⟨by decide, by decide⟩ dX10_mute_20 (by decide) (fun c20 => ?_) (fun c20 => ?_)
    · replace h := xif_f h c20
      refine x_iconst X dX10_mute_27 ?_
      exact Jj9 _ _ h _ _ _ hG hS (lv_sub hl [0, 1] rfl)
    · replace h := xif_t h c20
      refine x_iconst X dX10_mute_23 ?_
      refine lv_goto (tgt := 28) X.1.1 X.1.2.1 dX10_mute_24 (by decide) ?_
      exact Jj9 _ _ h _ _ _ hG hS (lv_sub hl [0, 1] rfl)
theorem hd_X10_mute : yX10_mute.cls = RX10 ∧ yX10_mute.cls ≠ "java/lang/invoke/MethodHandle" ∧ yX10_mute.cls ≠ "java/lang/invoke/VarHandle" ∧ (parseMethodDescriptor yX10_mute.desc).map (fun d => d.parameters.length) = some 1 := by decide +kernel
abbrev rX10_unmute : Room := { frames := 3, cells := 0, slots := 0, locals := 70 }
set_option maxRecDepth 100000 in
set_option maxHeartbeats 8000000 in
theorem c_X10_unmute (l : Launch) (t : gP) (x1 : Int) (u : uS) (r : Int) (u' : uS) (h : f_X10_unmute x1 u = some (r, u')) : xMi l yX10_unmute wsX10_unmute rX10_unmute t [.ref (t.2.2.1 40), .int (iI x1)] u r u' 0 0 := by
  refine x_ofWi (cc := cX10_unmute) (maxL := 2) (ret := .int) (own := RX10) (by decide) rfl rfl (Nat.le_of_ble_eq_true rfl) ?_
  intro p e s m args below meth c Q X hret H locs ls hG hS hl
  replace hl : lv_has ls 2 [(0, .ref (t.2.2.1 40)), (1, .int (iI x1))] := hl
  have q40 : 40 < NN ∧ sT 40 = 14 := by decide
  have iX10 : ∀ w ∈ wsX100, w ∈ wsX10_unmute := by decide +kernel
  have w1 : Cond.fieldLink RX10 7 "TriggerNetworkModel" "now" "[I" ∈ wsX10_unmute := x_w 1 rfl
  have q41 : 41 < NN ∧ sT 41 = 100 ∧ sN 41 = 1167 := by decide
  unfold f_X10_unmute at h
  refine lv_aload_n X.1.1 X.1.2.1 dX10_unmute_0 rfl (lv_at hl 0 rfl) ?_
  refine lv_iload_n X.1.1 X.1.2.1 dX10_unmute_1 rfl (lv_at hl 1 rfl) ?_
  obtain ⟨v1, u2, hf, h⟩ := xbd_of h
  refine x_callVi0 X hG hS (c_X10_noStation l t _ _ _ _ hf) (cwV 1 X.1.2.2.2.2 gX10_unmute_X10_noStation rfl rfl rfl hd_X10_noStation ⟨Nat.le_of_ble_eq_true rfl, Nat.le_of_ble_eq_true rfl⟩) q40.1 q40.2 rfl (by decide) (by rfl) hl.1 (Nat.le_of_ble_eq_true rfl) dX10_unmute_2 ⟨by decide, by decide⟩ rfl (fun H locs hG hS => ?_)
  obtain ⟨g3, h⟩ := xgd_of h
  refine x_if_ne (tgt := 34) X g3 dX10_unmute_5 (by decide) (fun c4 => ?_) (fun c4 => ?_)
  · replace h := xif_f h c4
    refine x_iconst X dX10_unmute_34 ?_
    cases h
    exact hret _ _ _ _ dX10_unmute_35 rfl hG hS
  · replace h := xif_t h c4
    refine lv_aload_n X.1.1 X.1.2.1 dX10_unmute_8 rfl (lv_at hl 0 rfl) ?_
    refine lv_aload_n X.1.1 X.1.2.1 dX10_unmute_9 rfl (lv_at hl 0 rfl) ?_
    refine x_getr X hG 14 1 40 1 (inC := iX10) rfl q40.1 q40.2 ⟨by decide, by decide, by decide, rfl, by decide, by decide⟩ w1 dX10_unmute_10 ?_
    refine lv_iload_n X.1.1 X.1.2.1 dX10_unmute_13 rfl (lv_at hl 1 rfl) ?_
    refine x_iconst X dX10_unmute_14 ?_
    obtain ⟨v5, u6, hf, h⟩ := xbd_of h
    refine x_callSi0 X hG hS (c_X10_at l t _ _ _ _ _ hf) (va_cwS 2 X.1.2.2.2.2 gX10_unmute_X10_at rfl rfl rfl hds_X10_at ⟨Nat.le_of_ble_eq_true rfl, Nat.le_of_ble_eq_true rfl⟩) (by rfl) hl.1 (Nat.le_of_ble_eq_true rfl) dX10_unmute_15 ⟨by decide, by decide⟩ rfl (fun H locs hG hS => ?_)
    obtain ⟨g7, h⟩ := xgd_of h
    refine x_iald X hG q41.1 q41.2.1 (n := 1167) q41.2.2 g7 (by decide) dX10_unmute_18 ?_
    obtain ⟨g8, h⟩ := xgd_of h
    obtain ⟨j9, ej9, h⟩ := xlet_of h
    have Jj9 : ∀ (s10 : Int) (u11 : uS), j9 s10 u11 = some (r, u') → xG p l e rX10_unmute s m args below meth c t Q 2 0 0 27 u11 [(0, .ref (t.2.2.1 40)), (1, .int (iI x1))] [.int (iI s10), .ref (t.2.2.1 40)] := by
        intro s10 u11 h H locs ls hG hS hl
        replace h := (congrFun (congrFun ej9 s10) u11).symm.trans h
        refine x_iconst X dX10_unmute_27 ?_
        obtain ⟨v12, u13, hf, h⟩ := xbd_of h
        refine x_callVi0 X hG hS (c_X10_throwsIf l t _ _ _ _ _ hf) (cwV 2 X.1.2.2.2.2 gX10_unmute_X10_throwsIf rfl rfl rfl hd_X10_throwsIf ⟨Nat.le_of_ble_eq_true rfl, Nat.le_of_ble_eq_true rfl⟩) q40.1 q40.2 rfl (by decide) (by rfl) hl.1 (Nat.le_of_ble_eq_true rfl) dX10_unmute_28 ⟨by decide, by decide⟩ rfl (fun H locs hG hS => ?_)
        obtain ⟨g14, h⟩ := xgd_of h
        refine x_if_eq (tgt := 36) X g14 dX10_unmute_31 (by decide) (fun c15 => ?_) (fun c15 => ?_)
        · replace h := xif_t h c15
          refine lv_aload_n X.1.1 X.1.2.1 dX10_unmute_36 rfl (lv_at hl 0 rfl) ?_
          obtain ⟨v16, u17, hf, h⟩ := xbd_of h
          refine x_callVv0 X hG hS (c_X10_keeps l t  _ _ _ hf) (cwV 0 X.1.2.2.2.2 gX10_unmute_X10_keeps rfl rfl rfl hd_X10_keeps ⟨Nat.le_of_ble_eq_true rfl, Nat.le_of_ble_eq_true rfl⟩) q40.1 q40.2 rfl (by decide) (by rfl) hl.1 (Nat.le_of_ble_eq_true rfl) dX10_unmute_37 ⟨by decide, by decide⟩ rfl (fun H locs hG hS => ?_)
          refine lv_aload_n X.1.1 X.1.2.1 dX10_unmute_40 rfl (lv_at hl 0 rfl) ?_
          refine x_getr X hG 14 1 40 1 (inC := iX10) rfl q40.1 q40.2 ⟨by decide, by decide, by decide, rfl, by decide, by decide⟩ w1 dX10_unmute_41 ?_
          refine lv_iload_n X.1.1 X.1.2.1 dX10_unmute_44 rfl (lv_at hl 1 rfl) ?_
          refine x_iconst X dX10_unmute_45 ?_
          obtain ⟨v18, u19, hf, h⟩ := xbd_of h
          refine x_callSi0 X hG hS (c_X10_at l t _ _ _ _ _ hf) (va_cwS 2 X.1.2.2.2.2 gX10_unmute_X10_at rfl rfl rfl hds_X10_at ⟨Nat.le_of_ble_eq_true rfl, Nat.le_of_ble_eq_true rfl⟩) (by rfl) hl.1 (Nat.le_of_ble_eq_true rfl) dX10_unmute_46 ⟨by decide, by decide⟩ rfl (fun H locs hG hS => ?_)
          refine x_iconst X dX10_unmute_49 ?_
          obtain ⟨g20, h⟩ := xgd_of h
          refine x_iast X hG hS q41.1 q41.2.1 (n := 1167) q41.2.2 g20 (by decide) dX10_unmute_50 (fun H locs hG hS => ?_)
          obtain ⟨u21, eu21, h⟩ := xlet_of h
          replace hG : G t u21 H := by rw [eu21]; exact hG
          refine lv_aload_n X.1.1 X.1.2.1 dX10_unmute_51 rfl (lv_at hl 0 rfl) ?_
          refine lv_iload_n X.1.1 X.1.2.1 dX10_unmute_52 rfl (lv_at hl 1 rfl) ?_
          obtain ⟨v22, u23, hf, h⟩ := xbd_of h
          refine x_callVi0 X hG hS (c_X10_ratioOf l t _ _ _ _ hf) (cwV 1 X.1.2.2.2.2 gX10_unmute_X10_ratioOf rfl rfl rfl hd_X10_ratioOf ⟨Nat.le_of_ble_eq_true rfl, Nat.le_of_ble_eq_true rfl⟩) q40.1 q40.2 rfl (by decide) (by rfl) hl.1 (Nat.le_of_ble_eq_true rfl) dX10_unmute_53 ⟨by decide, by decide⟩ rfl (fun H locs hG hS => ?_)
          cases h
          exact hret _ _ _ _ dX10_unmute_56 rfl hG hS
        · replace h := xif_f h c15
          refine x_iconst X dX10_unmute_34 ?_
          cases h
          exact hret _ _ _ _ dX10_unmute_35 rfl hG hS
    refine x_if_ne (tgt := 26) X g8 dX10_unmute_19 (by decide) (fun c24 => ?_) (fun c24 => ?_)
    · replace h := xif_f h c24
      refine x_iconst X dX10_unmute_26 ?_
      exact Jj9 _ _ h _ _ _ hG hS (lv_sub hl [0, 1] rfl)
    · replace h := xif_t h c24
      refine x_iconst X dX10_unmute_22 ?_
      refine lv_goto (tgt := 27) X.1.1 X.1.2.1 dX10_unmute_23 (by decide) ?_
      exact Jj9 _ _ h _ _ _ hG hS (lv_sub hl [0, 1] rfl)
theorem hd_X10_unmute : yX10_unmute.cls = RX10 ∧ yX10_unmute.cls ≠ "java/lang/invoke/MethodHandle" ∧ yX10_unmute.cls ≠ "java/lang/invoke/VarHandle" ∧ (parseMethodDescriptor yX10_unmute.desc).map (fun d => d.parameters.length) = some 1 := by decide +kernel
abbrev rX10_retract : Room := { frames := 3, cells := 0, slots := 0, locals := 65 }
set_option maxRecDepth 100000 in
set_option maxHeartbeats 8000000 in
theorem c_X10_retract (l : Launch) (t : gP) (x1 : Int) (u : uS) (r : Int) (u' : uS) (h : f_X10_retract x1 u = some (r, u')) : xMi l yX10_retract wsX10_retract rX10_retract t [.ref (t.2.2.1 40), .int (iI x1)] u r u' 0 0 := by
  refine x_ofWi (cc := cX10_retract) (maxL := 3) (ret := .int) (own := RX10) (by decide) rfl rfl (Nat.le_of_ble_eq_true rfl) ?_
  intro p e s m args below meth c Q X hret H locs ls hG hS hl
  replace hl : lv_has ls 3 [(0, .ref (t.2.2.1 40)), (1, .int (iI x1))] := hl
  have q40 : 40 < NN ∧ sT 40 = 14 := by decide
  have iX10 : ∀ w ∈ wsX100, w ∈ wsX10_retract := by decide +kernel
  have w1 : Cond.fieldLink RX10 64 "TriggerNetworkModel" "thrown" "I" ∈ wsX10_retract := x_w 1 rfl
  unfold f_X10_retract at h
  refine lv_aload_n X.1.1 X.1.2.1 dX10_retract_0 rfl (lv_at hl 0 rfl) ?_
  refine x_iconst X dX10_retract_1 ?_
  refine x_puti X hG hS 14 0 40 0 _ tyX10 tyX10_ok nmX10 (inC := iX10) rfl q40.1 q40.2 ⟨by decide, by decide, by decide, rfl, rfl⟩ rfl (by decide +kernel) w1 dX10_retract_2 (fun H locs hG hS => ?_)
  obtain ⟨u1, eu1, h⟩ := xlet_of h
  replace hG : G t u1 H := by rw [eu1]; exact hG
  refine lv_aload_n X.1.1 X.1.2.1 dX10_retract_5 rfl (lv_at hl 0 rfl) ?_
  refine lv_iload_n X.1.1 X.1.2.1 dX10_retract_6 rfl (lv_at hl 1 rfl) ?_
  obtain ⟨v2, u3, hf, h⟩ := xbd_of h
  refine x_callVi0 X hG hS (c_X10_noEvent l t _ _ _ _ hf) (cwV 1 X.1.2.2.2.2 gX10_retract_X10_noEvent rfl rfl rfl hd_X10_noEvent ⟨Nat.le_of_ble_eq_true rfl, Nat.le_of_ble_eq_true rfl⟩) q40.1 q40.2 rfl (by decide) (by rfl) hl.1 (Nat.le_of_ble_eq_true rfl) dX10_retract_7 ⟨by decide, by decide⟩ rfl (fun H locs hG hS => ?_)
  obtain ⟨g4, h⟩ := xgd_of h
  refine x_if_ne (tgt := 26) X g4 dX10_retract_10 (by decide) (fun c5 => ?_) (fun c5 => ?_)
  · replace h := xif_f h c5
    refine x_iconst X dX10_retract_26 ?_
    cases h
    exact hret _ _ _ _ dX10_retract_27 rfl hG hS
  · replace h := xif_t h c5
    refine lv_aload_n X.1.1 X.1.2.1 dX10_retract_13 rfl (lv_at hl 0 rfl) ?_
    refine lv_aload_n X.1.1 X.1.2.1 dX10_retract_14 rfl (lv_at hl 0 rfl) ?_
    refine lv_iload_n X.1.1 X.1.2.1 dX10_retract_15 rfl (lv_at hl 1 rfl) ?_
    obtain ⟨v6, u7, hf, h⟩ := xbd_of h
    refine x_callVi0 X hG hS (c_X10_isRetracted l t _ _ _ _ hf) (cwV 1 X.1.2.2.2.2 gX10_retract_X10_isRetracted rfl rfl rfl hd_X10_isRetracted ⟨Nat.le_of_ble_eq_true rfl, Nat.le_of_ble_eq_true rfl⟩) q40.1 q40.2 rfl (by decide) (by rfl) hl.1 (Nat.le_of_ble_eq_true rfl) dX10_retract_16 ⟨by decide, by decide⟩ rfl (fun H locs hG hS => ?_)
    refine x_iconst X dX10_retract_19 ?_
    obtain ⟨v8, u9, hf, h⟩ := xbd_of h
    refine x_callVi0 X hG hS (c_X10_throwsIf l t _ _ _ _ _ hf) (cwV 2 X.1.2.2.2.2 gX10_retract_X10_throwsIf rfl rfl rfl hd_X10_throwsIf ⟨Nat.le_of_ble_eq_true rfl, Nat.le_of_ble_eq_true rfl⟩) q40.1 q40.2 rfl (by decide) (by rfl) hl.1 (Nat.le_of_ble_eq_true rfl) dX10_retract_20 ⟨by decide, by decide⟩ rfl (fun H locs hG hS => ?_)
    obtain ⟨g10, h⟩ := xgd_of h
    refine x_if_eq (tgt := 28) X g10 dX10_retract_23 (by decide) (fun c11 => ?_) (fun c11 => ?_)
    · replace h := xif_t h c11
      refine lv_aload_n X.1.1 X.1.2.1 dX10_retract_28 rfl (lv_at hl 0 rfl) ?_
      obtain ⟨v12, u13, hf, h⟩ := xbd_of h
      refine x_callVv0 X hG hS (c_X10_keeps l t  _ _ _ hf) (cwV 0 X.1.2.2.2.2 gX10_retract_X10_keeps rfl rfl rfl hd_X10_keeps ⟨Nat.le_of_ble_eq_true rfl, Nat.le_of_ble_eq_true rfl⟩) q40.1 q40.2 rfl (by decide) (by rfl) hl.1 (Nat.le_of_ble_eq_true rfl) dX10_retract_29 ⟨by decide, by decide⟩ rfl (fun H locs hG hS => ?_)
      refine lv_aload_n X.1.1 X.1.2.1 dX10_retract_32 rfl (lv_at hl 0 rfl) ?_
      refine lv_iload_n X.1.1 X.1.2.1 dX10_retract_33 rfl (lv_at hl 1 rfl) ?_
      obtain ⟨v14, u15, hf, h⟩ := xbd_of h
      refine x_callVi0 X hG hS (c_X10_picksOf l t _ _ _ _ hf) (cwV 1 X.1.2.2.2.2 gX10_retract_X10_picksOf rfl rfl rfl hd_X10_picksOf ⟨Nat.le_of_ble_eq_true rfl, Nat.le_of_ble_eq_true rfl⟩) q40.1 q40.2 rfl (by decide) (by rfl) hl.1 (Nat.le_of_ble_eq_true rfl) dX10_retract_34 ⟨by decide, by decide⟩ rfl (fun H locs hG hS => ?_)
      refine lv_istore_n (lv' := [(2, .int (iI v14)), (0, .ref (t.2.2.1 40)), (1, .int (iI x1))]) X.1.1 X.1.2.1 dX10_retract_37 rfl hl (by decide) rfl (fun ls hl => ?_)
      refine lv_aload_n X.1.1 X.1.2.1 dX10_retract_38 rfl (lv_at hl 1 rfl) ?_
      refine lv_iload_n X.1.1 X.1.2.1 dX10_retract_39 rfl (lv_at hl 2 rfl) ?_
      obtain ⟨v16, u17, hf, h⟩ := xbd_of h
      refine x_callVv0 X hG hS (c_X10_retracts l t _ _ _ _ hf) (cwV 1 X.1.2.2.2.2 gX10_retract_X10_retracts rfl rfl rfl hd_X10_retracts ⟨Nat.le_of_ble_eq_true rfl, Nat.le_of_ble_eq_true rfl⟩) q40.1 q40.2 rfl (by decide) (by rfl) hl.1 (Nat.le_of_ble_eq_true rfl) dX10_retract_40 ⟨by decide, by decide⟩ rfl (fun H locs hG hS => ?_)
      refine lv_iload_n X.1.1 X.1.2.1 dX10_retract_43 rfl (lv_at hl 0 rfl) ?_
      cases h
      exact hret _ _ _ _ dX10_retract_44 rfl hG hS
    · replace h := xif_f h c11
      refine x_iconst X dX10_retract_26 ?_
      cases h
      exact hret _ _ _ _ dX10_retract_27 rfl hG hS
theorem hd_X10_retract : yX10_retract.cls = RX10 ∧ yX10_retract.cls ≠ "java/lang/invoke/MethodHandle" ∧ yX10_retract.cls ≠ "java/lang/invoke/VarHandle" ∧ (parseMethodDescriptor yX10_retract.desc).map (fun d => d.parameters.length) = some 1 := by decide +kernel
abbrev rX10_undo : Room := { frames := 1, cells := 0, slots := 0, locals := 25 }
set_option maxRecDepth 100000 in
set_option maxHeartbeats 8000000 in
theorem c_X10_undo (l : Launch) (t : gP) (u : uS) (r : Int) (u' : uS) (h : f_X10_undo u = some (r, u')) : xMi l yX10_undo wsX10_undo rX10_undo t [.ref (t.2.2.1 40)] u r u' 0 0 := by
  refine x_ofWi (cc := cX10_undo) (maxL := 1) (ret := .int) (own := RX10) (by decide) rfl rfl (Nat.le_of_ble_eq_true rfl) ?_
  intro p e s m args below meth c Q X hret H locs ls hG hS hl
  replace hl : lv_has ls 1 [(0, .ref (t.2.2.1 40))] := hl
  have q40 : 40 < NN ∧ sT 40 = 14 := by decide
  have iX10 : ∀ w ∈ wsX100, w ∈ wsX10_undo := by decide +kernel
  have w1 : Cond.fieldLink RX10 64 "TriggerNetworkModel" "thrown" "I" ∈ wsX10_undo := x_w 1 rfl
  have w2 : Cond.fieldLink RX10 187 "TriggerNetworkModel" "undos" "I" ∈ wsX10_undo := x_w 2 rfl
  have w3 : Cond.fieldLink RX10 45 "TriggerNetworkModel" "undo" "[I" ∈ wsX10_undo := x_w 3 rfl
  have q51 : 51 < NN ∧ sT 51 = 100 ∧ sN 51 = 11670 := by decide
  have w4 : Cond.fieldLink RX10 7 "TriggerNetworkModel" "now" "[I" ∈ wsX10_undo := x_w 4 rfl
  have q41 : 41 < NN ∧ sT 41 = 100 ∧ sN 41 = 1167 := by decide
  unfold f_X10_undo at h
  refine lv_aload_n X.1.1 X.1.2.1 dX10_undo_0 rfl (lv_at hl 0 rfl) ?_
  refine x_iconst X dX10_undo_1 ?_
  refine x_puti X hG hS 14 0 40 0 _ tyX10 tyX10_ok nmX10 (inC := iX10) rfl q40.1 q40.2 ⟨by decide, by decide, by decide, rfl, rfl⟩ rfl (by decide +kernel) w1 dX10_undo_2 (fun H locs hG hS => ?_)
  obtain ⟨u1, eu1, h⟩ := xlet_of h
  replace hG : G t u1 H := by rw [eu1]; exact hG
  refine lv_aload_n X.1.1 X.1.2.1 dX10_undo_5 rfl (lv_at hl 0 rfl) ?_
  refine x_geti X hG 14 22 40 22 (inC := iX10) rfl q40.1 q40.2 ⟨by decide, by decide, by decide, rfl, rfl⟩ w2 dX10_undo_6 ?_
  obtain ⟨g2, h⟩ := xgd_of h
  refine x_if_ne (tgt := 14) X g2 dX10_undo_9 (by decide) (fun c3 => ?_) (fun c3 => ?_)
  · replace h := xif_f h c3
    refine lv_aload_n X.1.1 X.1.2.1 dX10_undo_14 rfl (lv_at hl 0 rfl) ?_
    refine lv_dup X.1.1 X.1.2.1 dX10_undo_15 rfl ?_
    refine x_geti X hG 14 22 40 22 (inC := iX10) rfl q40.1 q40.2 ⟨by decide, by decide, by decide, rfl, rfl⟩ w2 dX10_undo_16 ?_
    refine x_iconst X dX10_undo_19 ?_
    refine x_isub X dX10_undo_20 ?_
    refine x_puti X hG hS 14 22 40 22 _ tyX10 tyX10_ok nmX10 (inC := iX10) rfl q40.1 q40.2 ⟨by decide, by decide, by decide, rfl, rfl⟩ rfl (by decide +kernel) w2 dX10_undo_21 (fun H locs hG hS => ?_)
    obtain ⟨u4, eu4, h⟩ := xlet_of h
    replace hG : G t u4 H := by rw [eu4]; exact hG
    refine lv_aload_n X.1.1 X.1.2.1 dX10_undo_24 rfl (lv_at hl 0 rfl) ?_
    refine x_getr X hG 14 23 40 11 (inC := iX10) rfl q40.1 q40.2 ⟨by decide, by decide, by decide, rfl, by decide, by decide⟩ w3 dX10_undo_25 ?_
    refine x_sipush X dX10_undo_28 (by decide) ?_
    refine lv_aload_n X.1.1 X.1.2.1 dX10_undo_31 rfl (lv_at hl 0 rfl) ?_
    refine x_geti X hG 14 22 40 22 (inC := iX10) rfl q40.1 q40.2 ⟨by decide, by decide, by decide, rfl, rfl⟩ w2 dX10_undo_32 ?_
    refine x_imul X dX10_undo_35 ?_
    refine lv_aload_n X.1.1 X.1.2.1 dX10_undo_36 rfl (lv_at hl 0 rfl) ?_
    refine x_getr X hG 14 1 40 1 (inC := iX10) rfl q40.1 q40.2 ⟨by decide, by decide, by decide, rfl, by decide, by decide⟩ w4 dX10_undo_37 ?_
    refine x_iconst X dX10_undo_40 ?_
    refine x_sipush X dX10_undo_41 (by decide) ?_
    obtain ⟨v5, u6, hf, h⟩ := xbd_of h
    refine x_callSv0 X hG hS (c_X10_copies l t _ _ _ _ _ _ _ _ hf) (va_cwS 5 X.1.2.2.2.2 gX10_undo_X10_copies rfl rfl rfl hds_X10_copies ⟨Nat.le_of_ble_eq_true rfl, Nat.le_of_ble_eq_true rfl⟩) (by rfl) hl.1 (Nat.le_of_ble_eq_true rfl) dX10_undo_44 ⟨by decide, by decide⟩ rfl (fun H locs hG hS => ?_)
    refine lv_aload_n X.1.1 X.1.2.1 dX10_undo_47 rfl (lv_at hl 0 rfl) ?_
    refine x_geti X hG 14 22 40 22 (inC := iX10) rfl q40.1 q40.2 ⟨by decide, by decide, by decide, rfl, rfl⟩ w2 dX10_undo_48 ?_
    cases h
    exact hret _ _ _ _ dX10_undo_51 rfl hG hS
  · replace h := xif_t h c3
    refine x_iconst X dX10_undo_12 ?_
    cases h
    exact hret _ _ _ _ dX10_undo_13 rfl hG hS
theorem hd_X10_undo : yX10_undo.cls = RX10 ∧ yX10_undo.cls ≠ "java/lang/invoke/MethodHandle" ∧ yX10_undo.cls ≠ "java/lang/invoke/VarHandle" ∧ (parseMethodDescriptor yX10_undo.desc).map (fun d => d.parameters.length) = some 0 := by decide +kernel
abbrev rX10_noSlot : Room := { frames := 2, cells := 0, slots := 0, locals := 44 }
set_option maxRecDepth 100000 in
set_option maxHeartbeats 8000000 in
theorem c_X10_noSlot (l : Launch) (t : gP) (x1 : Int) (u : uS) (r : Int) (u' : uS) (h : f_X10_noSlot x1 u = some (r, u')) : xMi l yX10_noSlot wsX10_noSlot rX10_noSlot t [.ref (t.2.2.1 40), .int (iI x1)] u r u' 0 0 := by
  refine x_ofWi (cc := cX10_noSlot) (maxL := 2) (ret := .boolean) (own := RX10) (by decide) rfl rfl (Nat.le_of_ble_eq_true rfl) ?_
  intro p e s m args below meth c Q X hret H locs ls hG hS hl
  replace hl : lv_has ls 2 [(0, .ref (t.2.2.1 40)), (1, .int (iI x1))] := hl
  have q40 : 40 < NN ∧ sT 40 = 14 := by decide
  have iX10 : ∀ w ∈ wsX100, w ∈ wsX10_noSlot := by decide +kernel
  have w1 : Cond.fieldLink RX10 64 "TriggerNetworkModel" "thrown" "I" ∈ wsX10_noSlot := x_w 1 rfl
  unfold f_X10_noSlot at h
  refine lv_aload_n X.1.1 X.1.2.1 dX10_noSlot_0 rfl (lv_at hl 0 rfl) ?_
  refine x_iconst X dX10_noSlot_1 ?_
  refine x_puti X hG hS 14 0 40 0 _ tyX10 tyX10_ok nmX10 (inC := iX10) rfl q40.1 q40.2 ⟨by decide, by decide, by decide, rfl, rfl⟩ rfl (by decide +kernel) w1 dX10_noSlot_2 (fun H locs hG hS => ?_)
  obtain ⟨u1, eu1, h⟩ := xlet_of h
  replace hG : G t u1 H := by rw [eu1]; exact hG
  refine lv_aload_n X.1.1 X.1.2.1 dX10_noSlot_5 rfl (lv_at hl 0 rfl) ?_
  refine lv_iload_n X.1.1 X.1.2.1 dX10_noSlot_6 rfl (lv_at hl 1 rfl) ?_
  refine x_iconst X dX10_noSlot_7 ?_
  obtain ⟨v2, u3, hf, h⟩ := xbd_of h
  refine x_callVi0 X hG hS (c_X10_no l t _ _ _ _ _ hf) (cwV 2 X.1.2.2.2.2 gX10_noSlot_X10_no rfl rfl rfl hd_X10_no ⟨Nat.le_of_ble_eq_true rfl, Nat.le_of_ble_eq_true rfl⟩) q40.1 q40.2 rfl (by decide) (by rfl) hl.1 (Nat.le_of_ble_eq_true rfl) dX10_noSlot_8 ⟨by decide, by decide⟩ rfl (fun H locs hG hS => ?_)
  obtain ⟨g4, h⟩ := xgd_of h
  cases h
  exact hret _ _ _ _ dX10_noSlot_11 (nz_of g4) hG hS
theorem hd_X10_noSlot : yX10_noSlot.cls = RX10 ∧ yX10_noSlot.cls ≠ "java/lang/invoke/MethodHandle" ∧ yX10_noSlot.cls ≠ "java/lang/invoke/VarHandle" ∧ (parseMethodDescriptor yX10_noSlot.desc).map (fun d => d.parameters.length) = some 1 := by decide +kernel
abbrev rX10_saveSnapshot : Room := { frames := 3, cells := 0, slots := 0, locals := 65 }
set_option maxRecDepth 100000 in
set_option maxHeartbeats 8000000 in
theorem c_X10_saveSnapshot (l : Launch) (t : gP) (x1 : Int) (u : uS) (r : Int) (u' : uS) (h : f_X10_saveSnapshot x1 u = some (r, u')) : xMi l yX10_saveSnapshot wsX10_saveSnapshot rX10_saveSnapshot t [.ref (t.2.2.1 40), .int (iI x1)] u r u' 0 0 := by
  refine x_ofWi (cc := cX10_saveSnapshot) (maxL := 3) (ret := .boolean) (own := RX10) (by decide) rfl rfl (Nat.le_of_ble_eq_true rfl) ?_
  intro p e s m args below meth c Q X hret H locs ls hG hS hl
  replace hl : lv_has ls 3 [(0, .ref (t.2.2.1 40)), (1, .int (iI x1))] := hl
  have q40 : 40 < NN ∧ sT 40 = 14 := by decide
  have iX10 : ∀ w ∈ wsX100, w ∈ wsX10_saveSnapshot := by decide +kernel
  have w1 : Cond.fieldLink RX10 51 "TriggerNetworkModel" "isSaved" "[Z" ∈ wsX10_saveSnapshot := x_w 1 rfl
  have q53 : 53 < NN ∧ sT 53 = 101 ∧ sN 53 = 2 := by decide
  have w2 : Cond.fieldLink RX10 7 "TriggerNetworkModel" "now" "[I" ∈ wsX10_saveSnapshot := x_w 2 rfl
  have q41 : 41 < NN ∧ sT 41 = 100 ∧ sN 41 = 1167 := by decide
  have w3 : Cond.fieldLink RX10 48 "TriggerNetworkModel" "slots" "[I" ∈ wsX10_saveSnapshot := x_w 3 rfl
  have q52 : 52 < NN ∧ sT 52 = 100 ∧ sN 52 = 2334 := by decide
  unfold f_X10_saveSnapshot at h
  refine lv_aload_n X.1.1 X.1.2.1 dX10_saveSnapshot_0 rfl (lv_at hl 0 rfl) ?_
  refine lv_iload_n X.1.1 X.1.2.1 dX10_saveSnapshot_1 rfl (lv_at hl 1 rfl) ?_
  obtain ⟨v1, u2, hf, h⟩ := xbd_of h
  refine x_callVi0 X hG hS (c_X10_noSlot l t _ _ _ _ hf) (cwV 1 X.1.2.2.2.2 gX10_saveSnapshot_X10_noSlot rfl rfl rfl hd_X10_noSlot ⟨Nat.le_of_ble_eq_true rfl, Nat.le_of_ble_eq_true rfl⟩) q40.1 q40.2 rfl (by decide) (by rfl) hl.1 (Nat.le_of_ble_eq_true rfl) dX10_saveSnapshot_2 ⟨by decide, by decide⟩ rfl (fun H locs hG hS => ?_)
  obtain ⟨g3, h⟩ := xgd_of h
  refine x_if_eq (tgt := 10) X g3 dX10_saveSnapshot_5 (by decide) (fun c4 => ?_) (fun c4 => ?_)
  · replace h := xif_t h c4
    refine lv_aload_n X.1.1 X.1.2.1 dX10_saveSnapshot_10 rfl (lv_at hl 0 rfl) ?_
    refine x_getr X hG 14 25 40 13 (inC := iX10) rfl q40.1 q40.2 ⟨by decide, by decide, by decide, rfl, by decide, by decide⟩ w1 dX10_saveSnapshot_11 ?_
    refine lv_iload_n X.1.1 X.1.2.1 dX10_saveSnapshot_14 rfl (lv_at hl 1 rfl) ?_
    obtain ⟨g5, h⟩ := xgd_of h
    refine x_zald X hG q53.1 q53.2.1 (n := 2) q53.2.2 g5 (by decide) dX10_saveSnapshot_15 ?_
    refine x_name (fun x2_6 ex2_6 => ?_)
    replace h := xlet_at ex2_6 h
    refine lv_istore_n (lv' := [(2, .int (iI x2_6)), (0, .ref (t.2.2.1 40)), (1, .int (iI x1))]) X.1.1 X.1.2.1 dX10_saveSnapshot_16 rfl hl (by decide) rfl (fun ls hl => ?_)
    refine lv_aload_n X.1.1 X.1.2.1 dX10_saveSnapshot_17 rfl (lv_at hl 1 rfl) ?_
    refine x_getr X hG 14 1 40 1 (inC := iX10) rfl q40.1 q40.2 ⟨by decide, by decide, by decide, rfl, by decide, by decide⟩ w2 dX10_saveSnapshot_18 ?_
    refine x_iconst X dX10_saveSnapshot_21 ?_
    refine lv_aload_n X.1.1 X.1.2.1 dX10_saveSnapshot_22 rfl (lv_at hl 1 rfl) ?_
    refine x_getr X hG 14 24 40 12 (inC := iX10) rfl q40.1 q40.2 ⟨by decide, by decide, by decide, rfl, by decide, by decide⟩ w3 dX10_saveSnapshot_23 ?_
    refine x_sipush X dX10_saveSnapshot_26 (by decide) ?_
    refine lv_iload_n X.1.1 X.1.2.1 dX10_saveSnapshot_29 rfl (lv_at hl 2 rfl) ?_
    refine x_imul X dX10_saveSnapshot_30 ?_
    refine x_sipush X dX10_saveSnapshot_31 (by decide) ?_
    obtain ⟨v7, u8, hf, h⟩ := xbd_of h
    refine x_callSv0 X hG hS (c_X10_copies l t _ _ _ _ _ _ _ _ hf) (va_cwS 5 X.1.2.2.2.2 gX10_saveSnapshot_X10_copies rfl rfl rfl hds_X10_copies ⟨Nat.le_of_ble_eq_true rfl, Nat.le_of_ble_eq_true rfl⟩) (by rfl) hl.1 (Nat.le_of_ble_eq_true rfl) dX10_saveSnapshot_34 ⟨by decide, by decide⟩ rfl (fun H locs hG hS => ?_)
    refine lv_aload_n X.1.1 X.1.2.1 dX10_saveSnapshot_37 rfl (lv_at hl 1 rfl) ?_
    refine x_getr X hG 14 25 40 13 (inC := iX10) rfl q40.1 q40.2 ⟨by decide, by decide, by decide, rfl, by decide, by decide⟩ w1 dX10_saveSnapshot_38 ?_
    refine lv_iload_n X.1.1 X.1.2.1 dX10_saveSnapshot_41 rfl (lv_at hl 2 rfl) ?_
    refine x_iconst X dX10_saveSnapshot_42 ?_
    obtain ⟨g9, h⟩ := xgd_of h
    refine x_zast X hG hS q53.1 q53.2.1 (n := 2) q53.2.2 g9 (by decide) (by decide) dX10_saveSnapshot_43 (fun H locs hG hS => ?_)
    obtain ⟨u10, eu10, h⟩ := xlet_of h
    replace hG : G t u10 H := by rw [eu10]; exact hG
    refine lv_iload_n X.1.1 X.1.2.1 dX10_saveSnapshot_44 rfl (lv_at hl 0 rfl) ?_
    obtain ⟨g11, h⟩ := xgd_of h
    cases h
    exact hret _ _ _ _ dX10_saveSnapshot_45 (nz_of g11) hG hS
  · replace h := xif_f h c4
    refine x_iconst X dX10_saveSnapshot_8 ?_
    cases h
    exact hret _ _ _ _ dX10_saveSnapshot_9 (by decide) hG hS
theorem hd_X10_saveSnapshot : yX10_saveSnapshot.cls = RX10 ∧ yX10_saveSnapshot.cls ≠ "java/lang/invoke/MethodHandle" ∧ yX10_saveSnapshot.cls ≠ "java/lang/invoke/VarHandle" ∧ (parseMethodDescriptor yX10_saveSnapshot.desc).map (fun d => d.parameters.length) = some 1 := by decide +kernel
abbrev rX10_restoreSnapshot : Room := { frames := 3, cells := 0, slots := 0, locals := 65 }
set_option maxRecDepth 100000 in
set_option maxHeartbeats 8000000 in
theorem c_X10_restoreSnapshot (l : Launch) (t : gP) (x1 : Int) (u : uS) (r : Int) (u' : uS) (h : f_X10_restoreSnapshot x1 u = some (r, u')) : xMi l yX10_restoreSnapshot wsX10_restoreSnapshot rX10_restoreSnapshot t [.ref (t.2.2.1 40), .int (iI x1)] u r u' 0 0 := by
  refine x_ofWi (cc := cX10_restoreSnapshot) (maxL := 2) (ret := .int) (own := RX10) (by decide) rfl rfl (Nat.le_of_ble_eq_true rfl) ?_
  intro p e s m args below meth c Q X hret H locs ls hG hS hl
  replace hl : lv_has ls 2 [(0, .ref (t.2.2.1 40)), (1, .int (iI x1))] := hl
  have q40 : 40 < NN ∧ sT 40 = 14 := by decide
  have iX10 : ∀ w ∈ wsX100, w ∈ wsX10_restoreSnapshot := by decide +kernel
  have w1 : Cond.fieldLink RX10 51 "TriggerNetworkModel" "isSaved" "[Z" ∈ wsX10_restoreSnapshot := x_w 1 rfl
  have q53 : 53 < NN ∧ sT 53 = 101 ∧ sN 53 = 2 := by decide
  have w2 : Cond.fieldLink RX10 48 "TriggerNetworkModel" "slots" "[I" ∈ wsX10_restoreSnapshot := x_w 2 rfl
  have q52 : 52 < NN ∧ sT 52 = 100 ∧ sN 52 = 2334 := by decide
  have w3 : Cond.fieldLink RX10 7 "TriggerNetworkModel" "now" "[I" ∈ wsX10_restoreSnapshot := x_w 3 rfl
  have q41 : 41 < NN ∧ sT 41 = 100 ∧ sN 41 = 1167 := by decide
  have w4 : Cond.fieldLink RX10 187 "TriggerNetworkModel" "undos" "I" ∈ wsX10_restoreSnapshot := x_w 4 rfl
  unfold f_X10_restoreSnapshot at h
  refine lv_aload_n X.1.1 X.1.2.1 dX10_restoreSnapshot_0 rfl (lv_at hl 0 rfl) ?_
  refine lv_iload_n X.1.1 X.1.2.1 dX10_restoreSnapshot_1 rfl (lv_at hl 1 rfl) ?_
  obtain ⟨v1, u2, hf, h⟩ := xbd_of h
  refine x_callVi0 X hG hS (c_X10_noSlot l t _ _ _ _ hf) (cwV 1 X.1.2.2.2.2 gX10_restoreSnapshot_X10_noSlot rfl rfl rfl hd_X10_noSlot ⟨Nat.le_of_ble_eq_true rfl, Nat.le_of_ble_eq_true rfl⟩) q40.1 q40.2 rfl (by decide) (by rfl) hl.1 (Nat.le_of_ble_eq_true rfl) dX10_restoreSnapshot_2 ⟨by decide, by decide⟩ rfl (fun H locs hG hS => ?_)
  obtain ⟨g3, h⟩ := xgd_of h
  refine x_if_ne (tgt := 30) X g3 dX10_restoreSnapshot_5 (by decide) (fun c4 => ?_) (fun c4 => ?_)
  · replace h := xif_f h c4
    refine x_iconst X dX10_restoreSnapshot_30 ?_
    cases h
    exact hret _ _ _ _ dX10_restoreSnapshot_31 rfl hG hS
  · replace h := xif_t h c4
    refine lv_aload_n X.1.1 X.1.2.1 dX10_restoreSnapshot_8 rfl (lv_at hl 0 rfl) ?_
    refine lv_aload_n X.1.1 X.1.2.1 dX10_restoreSnapshot_9 rfl (lv_at hl 0 rfl) ?_
    refine x_getr X hG 14 25 40 13 (inC := iX10) rfl q40.1 q40.2 ⟨by decide, by decide, by decide, rfl, by decide, by decide⟩ w1 dX10_restoreSnapshot_10 ?_
    refine lv_iload_n X.1.1 X.1.2.1 dX10_restoreSnapshot_13 rfl (lv_at hl 1 rfl) ?_
    obtain ⟨g5, h⟩ := xgd_of h
    refine x_zald X hG q53.1 q53.2.1 (n := 2) q53.2.2 g5 (by decide) dX10_restoreSnapshot_14 ?_
    obtain ⟨g6, h⟩ := xgd_of h
    obtain ⟨j7, ej7, h⟩ := xlet_of h
    have Jj7 : ∀ (s8 : Int) (u9 : uS), j7 s8 u9 = some (r, u') → xG p l e rX10_restoreSnapshot s m args below meth c t Q 2 0 0 23 u9 [(0, .ref (t.2.2.1 40)), (1, .int (iI x1))] [.int (iI s8), .ref (t.2.2.1 40)] := by
        intro s8 u9 h H locs ls hG hS hl
        replace h := (congrFun (congrFun ej7 s8) u9).symm.trans h
        refine x_iconst X dX10_restoreSnapshot_23 ?_
        obtain ⟨v10, u11, hf, h⟩ := xbd_of h
        refine x_callVi0 X hG hS (c_X10_throwsIf l t _ _ _ _ _ hf) (cwV 2 X.1.2.2.2.2 gX10_restoreSnapshot_X10_throwsIf rfl rfl rfl hd_X10_throwsIf ⟨Nat.le_of_ble_eq_true rfl, Nat.le_of_ble_eq_true rfl⟩) q40.1 q40.2 rfl (by decide) (by rfl) hl.1 (Nat.le_of_ble_eq_true rfl) dX10_restoreSnapshot_24 ⟨by decide, by decide⟩ rfl (fun H locs hG hS => ?_)
        obtain ⟨g12, h⟩ := xgd_of h
        refine x_if_eq (tgt := 32) X g12 dX10_restoreSnapshot_27 (by decide) (fun c13 => ?_) (fun c13 => ?_)
        · replace h := xif_t h c13
          refine lv_aload_n X.1.1 X.1.2.1 dX10_restoreSnapshot_32 rfl (lv_at hl 0 rfl) ?_
          refine x_getr X hG 14 24 40 12 (inC := iX10) rfl q40.1 q40.2 ⟨by decide, by decide, by decide, rfl, by decide, by decide⟩ w2 dX10_restoreSnapshot_33 ?_
          refine x_sipush X dX10_restoreSnapshot_36 (by decide) ?_
          refine lv_iload_n X.1.1 X.1.2.1 dX10_restoreSnapshot_39 rfl (lv_at hl 1 rfl) ?_
          refine x_imul X dX10_restoreSnapshot_40 ?_
          refine lv_aload_n X.1.1 X.1.2.1 dX10_restoreSnapshot_41 rfl (lv_at hl 0 rfl) ?_
          refine x_getr X hG 14 1 40 1 (inC := iX10) rfl q40.1 q40.2 ⟨by decide, by decide, by decide, rfl, by decide, by decide⟩ w3 dX10_restoreSnapshot_42 ?_
          refine x_iconst X dX10_restoreSnapshot_45 ?_
          refine x_sipush X dX10_restoreSnapshot_46 (by decide) ?_
          obtain ⟨v14, u15, hf, h⟩ := xbd_of h
          refine x_callSv0 X hG hS (c_X10_copies l t _ _ _ _ _ _ _ _ hf) (va_cwS 5 X.1.2.2.2.2 gX10_restoreSnapshot_X10_copies rfl rfl rfl hds_X10_copies ⟨Nat.le_of_ble_eq_true rfl, Nat.le_of_ble_eq_true rfl⟩) (by rfl) hl.1 (Nat.le_of_ble_eq_true rfl) dX10_restoreSnapshot_49 ⟨by decide, by decide⟩ rfl (fun H locs hG hS => ?_)
          refine lv_aload_n X.1.1 X.1.2.1 dX10_restoreSnapshot_52 rfl (lv_at hl 0 rfl) ?_
          refine x_iconst X dX10_restoreSnapshot_53 ?_
          refine x_puti X hG hS 14 22 40 22 _ tyX10 tyX10_ok nmX10 (inC := iX10) rfl q40.1 q40.2 ⟨by decide, by decide, by decide, rfl, rfl⟩ rfl (by decide +kernel) w4 dX10_restoreSnapshot_54 (fun H locs hG hS => ?_)
          obtain ⟨u16, eu16, h⟩ := xlet_of h
          replace hG : G t u16 H := by rw [eu16]; exact hG
          refine lv_aload_n X.1.1 X.1.2.1 dX10_restoreSnapshot_57 rfl (lv_at hl 0 rfl) ?_
          refine x_getr X hG 14 1 40 1 (inC := iX10) rfl q40.1 q40.2 ⟨by decide, by decide, by decide, rfl, by decide, by decide⟩ w3 dX10_restoreSnapshot_58 ?_
          refine x_iconst X dX10_restoreSnapshot_61 ?_
          refine x_iald X hG q41.1 q41.2.1 (n := 1167) q41.2.2 ⟨by decide, by decide⟩ (by decide) dX10_restoreSnapshot_62 ?_
          cases h
          exact hret _ _ _ _ dX10_restoreSnapshot_63 rfl hG hS
        · replace h := xif_f h c13
          refine x_iconst X dX10_restoreSnapshot_30 ?_
          cases h
          exact hret _ _ _ _ dX10_restoreSnapshot_31 rfl hG hS
    refine x_if_ne (tgt := 22) X g6 dX10_restoreSnapshot_15 (by decide) (fun c17 => ?_) (fun c17 => ?_)
    · replace h := xif_f h c17
      refine x_iconst X dX10_restoreSnapshot_22 ?_
      exact Jj7 _ _ h _ _ _ hG hS (lv_sub hl [0, 1] rfl)
    · replace h := xif_t h c17
      refine x_iconst X dX10_restoreSnapshot_18 ?_
      refine lv_goto (tgt := 23) X.1.1 X.1.2.1 dX10_restoreSnapshot_19 (by decide) ?_
      exact Jj7 _ _ h _ _ _ hG hS (lv_sub hl [0, 1] rfl)
theorem hd_X10_restoreSnapshot : yX10_restoreSnapshot.cls = RX10 ∧ yX10_restoreSnapshot.cls ≠ "java/lang/invoke/MethodHandle" ∧ yX10_restoreSnapshot.cls ≠ "java/lang/invoke/VarHandle" ∧ (parseMethodDescriptor yX10_restoreSnapshot.desc).map (fun d => d.parameters.length) = some 1 := by decide +kernel
