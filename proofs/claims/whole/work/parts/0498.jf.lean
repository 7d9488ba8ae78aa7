abbrev rX9_describe : Room := { frames := 7, cells := 13, slots := 1206, locals := 208 }
set_option maxRecDepth 100000 in
set_option maxHeartbeats 8000000 in
theorem c_X9_describe (l : Launch) (hfl : l.stackTraces = false) (t : gP) (x1 : Int) (u : uS) (g : Nat) (r : Int) (u' : uS) (h : f_X9_describe x1 u = some (g, r, u')) : xTim l yX9_describe wsX9_describe rX9_describe t [.ref (t.2.2.1 0), .int (iI x1)] u g r u' 13 1206 := by
  refine x_ofTim (cc := cX9_describe) (maxL := 2) (ret := .int) (own := RX9) (by decide) rfl rfl (Nat.le_of_ble_eq_true rfl) ?_
  intro p e s m args below meth c Q hQ X hlk htab hret hxo H locs ls hG hS hl
  replace hl : lv_has ls 2 [(0, .ref (t.2.2.1 0)), (1, .int (iI x1))] := hl
  have q0 : 0 < NN ∧ sT 0 = 13 := by decide
  have iX9 : ∀ w ∈ wsX90, w ∈ wsX9_describe := by decide +kernel
  have w1 : Cond.fieldLink RX9 71 "TriggerNetwork" "description" "Ljava/lang/StringBuilder;" ∈ wsX9_describe := x_w 1 rfl
  have q37 : 37 < NN ∧ sT 37 = 1 := by decide
  have w2 : Cond.fieldLink RX9 40 "TriggerNetwork" "now" "LTriggerNetwork$Situation;" ∈ wsX9_describe := x_w 2 rfl
  have q54 : 54 < NN ∧ sT 54 = 11 := by decide
  have iX7 : ∀ w ∈ wsX70, w ∈ wsX9_describe := by decide +kernel
  have w3 : Cond.fieldLink RX9 206 "TriggerNetwork$Situation" "retracted" "[I" ∈ wsX9_describe := x_w 3 rfl
  have q68 : 68 < NN ∧ sT 68 = 100 ∧ sN 68 = 20 := by decide
  have X0 := X
  obtain ⟨b, hb⟩ : ∃ b, mv t b = t := ⟨_, mv_self⟩
  replace hG : G (mv t b) u H := by rw [hb]; exact hG
  replace X := X0.mv (b := b)
  unfold f_X9_describe at h
  refine lv_aload_n X.1.1 X.1.2.1 dX9_describe_0 rfl (lv_at hl 0 rfl) ?_
  refine lv_iload_n X.1.1 X.1.2.1 dX9_describe_1 rfl (lv_at hl 1 rfl) ?_
  obtain ⟨g3, v1, u2, hf, h⟩ := xbt_of h
  refine x_callVTv X hG hS (c_X9_needEvent l hfl (mv t b) _ _ _ _ _ hf) (cwV 1 X.1.2.2.2.2 gX9_describe_X9_needEvent rfl rfl rfl hd_X9_needEvent ⟨Nat.le_of_ble_eq_true rfl, Nat.le_of_ble_eq_true rfl⟩) q0.1 q0.2 rfl (by decide) (by rfl) hl.1 (Nat.le_of_ble_eq_true rfl) dX9_describe_2 ⟨by decide, by decide⟩ rfl (fun hg H locs ce q9 hG hS h7 h8 h9 => by rcases h with ⟨h0, _⟩ | ⟨_, h⟩; (exact absurd h0 hg); (cases h; exact hxo _ _ _ _ _ _ _ _ _ _ (by decide) (by decide) hg hG hS h7 h8 h9)) (fun hg H locs hG hS => ?_)
  replace h := (h.resolve_right (fun q => q.1 hg)).2
  refine lv_aload_n X.1.1 X.1.2.1 dX9_describe_5 rfl (lv_at hl 0 rfl) ?_
  refine x_getr X hG 13 11 0 37 (inC := iX9) rfl q0.1 q0.2 ⟨by decide, by decide, by decide, rfl, by decide, by decide⟩ w1 dX9_describe_6 ?_
  refine x_iconst X dX9_describe_9 ?_
  obtain ⟨v4, u5, hf, h⟩ := xbd_of h
  refine x_kvm (t := mv t b) hS (va_runV (As := [.int (iI 0)]) X.1 (c_J4_setLength_d00df l (mv t b) _ _ _ _ hf) (cwV 1 X.1.2.2.2.2 gX9_describe_J4_setLength_d00df rfl rfl rfl hd_J4_setLength_d00df ⟨Nat.le_of_ble_eq_true rfl, Nat.le_of_ble_eq_true rfl⟩) ⟨x_blind, x_sbrecv X hG, x_pre X hG hS⟩ rfl rfl hl.1 rfl (lv_room (Nat.le_of_ble_eq_true rfl)) dX9_describe_10 ⟨by decide, by decide⟩) (fun b H locs hG hS => ?_)
  rw [mv_mv] at hG
  replace X := X0.mv (b := b)
  replace hS : va_S (gA t) s.heap H locs := hS
  refine lv_aload_n X.1.1 X.1.2.1 dX9_describe_13 rfl (lv_at hl 0 rfl) ?_
  refine x_getr X hG 13 11 0 37 (inC := iX9) rfl q0.1 q0.2 ⟨by decide, by decide, by decide, rfl, by decide, by decide⟩ w1 dX9_describe_14 ?_
  refine x_lds X (x_m 0 rfl) dX9_describe_17 ?_
  obtain ⟨v6, u7, hf, h⟩ := xbd_of h
  obtain ⟨g8, h⟩ := xgd_of h
  rw [g8] at hf
  refine x_ksm (t := mv t b) hS (va_runV (As := [.ref ((mv t b).2.2.1 2009)]) X.1 (c_J4_append_15ec4 l (mv t b) _ _ _ _ hf) (cwV 1 X.1.2.2.2.2 gX9_describe_J4_append_15ec4 rfl rfl rfl hd_J4_append_15ec4 ⟨Nat.le_of_ble_eq_true rfl, Nat.le_of_ble_eq_true rfl⟩) ⟨x_blind, x_sbrecv X hG, x_pre X hG hS⟩ rfl rfl hl.1 rfl (lv_room (Nat.le_of_ble_eq_true rfl)) dX9_describe_19 ⟨by decide, by decide⟩) (fun b H locs hG hS => ?_)
  rw [mv_mv] at hG
  replace X := X0.mv (b := b)
  replace hS : va_S (gA t) s.heap H locs := hS
  refine lv_iload_n X.1.1 X.1.2.1 dX9_describe_22 rfl (lv_at hl 1 rfl) ?_
  obtain ⟨v9, u10, hf, h⟩ := xbd_of h
  obtain ⟨g11, h⟩ := xgd_of h
  rw [g11] at hf
  refine x_ksm (t := mv t b) hS (va_runV (As := [.int (iI x1)]) X.1 (c_J4_append_bf812 l (mv t b) _ _ _ _ hf) (cwV 1 X.1.2.2.2.2 gX9_describe_J4_append_bf812 rfl rfl rfl hd_J4_append_bf812 ⟨Nat.le_of_ble_eq_true rfl, Nat.le_of_ble_eq_true rfl⟩) ⟨x_blind, x_sbrecv X hG, x_pre X hG hS⟩ rfl rfl hl.1 rfl (lv_room (Nat.le_of_ble_eq_true rfl)) dX9_describe_23 ⟨by decide, by decide⟩) (fun b H locs hG hS => ?_)
  rw [mv_mv] at hG
  replace X := X0.mv (b := b)
  replace hS : va_S (gA t) s.heap H locs := hS
  refine lv_pop X.1.1 X.1.2.1 dX9_describe_26 rfl ?_
  refine lv_aload_n X.1.1 X.1.2.1 dX9_describe_27 rfl (lv_at hl 0 rfl) ?_
  refine x_getr X hG 13 6 0 54 (inC := iX9) rfl q0.1 q0.2 ⟨by decide, by decide, by decide, rfl, by decide, by decide⟩ w2 dX9_describe_28 ?_
  refine x_getr X hG 11 16 54 14 (inC := iX7) rfl q54.1 q54.2 ⟨by decide, by decide, by decide, rfl, by decide, by decide⟩ w3 dX9_describe_31 ?_
  refine lv_iload_n X.1.1 X.1.2.1 dX9_describe_34 rfl (lv_at hl 1 rfl) ?_
  obtain ⟨g12, h⟩ := xgd_of h
  refine x_iald X hG q68.1 q68.2.1 (n := 20) q68.2.2 g12 (by decide) dX9_describe_35 ?_
  refine x_iconst X dX9_describe_36 ?_
  obtain ⟨g13, h⟩ := xgd_of h
  obtain ⟨j14, ej14, h⟩ := xlet_of h
  have Jj14 : ∀ (b : Nat) (u15 : uS), j14 u15 = some (g, r, u') → xG p l e rX9_describe s m args below meth c (mv t b) Q 2 13 1206 58 u15 [(0, .ref (t.2.2.1 0))] [] := by
      intro b u15 h H locs ls hG hS hl
      replace X := X0.mv (b := b)
      replace h := (congrFun ej14 u15).symm.trans h
      refine lv_aload_n X.1.1 X.1.2.1 dX9_describe_58 rfl (lv_at hl 0 rfl) ?_
      refine x_getr X hG 13 11 0 37 (inC := iX9) rfl q0.1 q0.2 ⟨by decide, by decide, by decide, rfl, by decide, by decide⟩ w1 dX9_describe_59 ?_
      obtain ⟨v16, u17, hf, h⟩ := xbd_of h
      refine x_callVi0 X hG hS (c_J4_length_8abf5 l (mv t b)  _ _ _ hf) (cwV 0 X.1.2.2.2.2 gX9_describe_J4_length_8abf5 rfl rfl rfl hd_J4_length_8abf5 ⟨Nat.le_of_ble_eq_true rfl, Nat.le_of_ble_eq_true rfl⟩) q37.1 q37.2 rfl (by decide) (by rfl) hl.1 (Nat.le_of_ble_eq_true rfl) dX9_describe_62 ⟨by decide, by decide⟩ rfl (fun H locs hG hS => ?_)
      cases h
      exact hret _ _ _ _ _ _ _ (by decide) (by decide) rfl dX9_describe_65 rfl hG hS
  refine x_icmp_ne (tgt := 53) X g13 ⟨by decide, by decide⟩ dX9_describe_37 (by decide) (fun c18 => ?_) (fun c18 => ?_)
  · replace h := xif_f h c18
    refine lv_aload_n X.1.1 X.1.2.1 dX9_describe_53 rfl (lv_at hl 0 rfl) ?_
    refine lv_iload_n X.1.1 X.1.2.1 dX9_describe_54 rfl (lv_at hl 1 rfl) ?_
    obtain ⟨v19, u20, hf, h⟩ := xbd_of h
    refine x_kvm (t := mv t b) hS (va_runV (As := [.int (iI x1)]) X.1 (c_X9_describeStanding l (mv t b) _ _ _ _ hf) (cwV 1 X.1.2.2.2.2 gX9_describe_X9_describeStanding rfl rfl rfl hd_X9_describeStanding ⟨Nat.le_of_ble_eq_true rfl, Nat.le_of_ble_eq_true rfl⟩) ⟨x_blind, va_recv (ci := 13) (q0 := 0) X.2.1 hG.P rfl (gL_o q0.1 q0.2 (by decide)), x_pre X hG hS⟩ rfl rfl hl.1 rfl (lv_room (Nat.le_of_ble_eq_true rfl)) dX9_describe_55 ⟨by decide, by decide⟩) (fun b H locs hG hS => ?_)
    rw [mv_mv] at hG
    replace X := X0.mv (b := b)
    replace hS : va_S (gA t) s.heap H locs := hS
    exact Jj14 _ _ h _ _ _ hG hS (lv_sub hl [0] rfl)
  · replace h := xif_t h c18
    refine lv_aload_n X.1.1 X.1.2.1 dX9_describe_40 rfl (lv_at hl 0 rfl) ?_
    refine x_getr X hG 13 11 0 37 (inC := iX9) rfl q0.1 q0.2 ⟨by decide, by decide, by decide, rfl, by decide, by decide⟩ w1 dX9_describe_41 ?_
    refine x_lds X (x_m 1 rfl) dX9_describe_44 ?_
    obtain ⟨v21, u22, hf, h⟩ := xbd_of h
    obtain ⟨g23, h⟩ := xgd_of h
    rw [g23] at hf
    refine x_ksm (t := mv t b) hS (va_runV (As := [.ref ((mv t b).2.2.1 2010)]) X.1 (c_J4_append_15ec4 l (mv t b) _ _ _ _ hf) (cwV 1 X.1.2.2.2.2 gX9_describe_J4_append_15ec4 rfl rfl rfl hd_J4_append_15ec4 ⟨Nat.le_of_ble_eq_true rfl, Nat.le_of_ble_eq_true rfl⟩) ⟨x_blind, x_sbrecv X hG, x_pre X hG hS⟩ rfl rfl hl.1 rfl (lv_room (Nat.le_of_ble_eq_true rfl)) dX9_describe_46 ⟨by decide, by decide⟩) (fun b H locs hG hS => ?_)
    rw [mv_mv] at hG
    replace X := X0.mv (b := b)
    replace hS : va_S (gA t) s.heap H locs := hS
    refine lv_pop X.1.1 X.1.2.1 dX9_describe_49 rfl ?_
    refine lv_goto (tgt := 58) X.1.1 X.1.2.1 dX9_describe_50 (by decide) ?_
    refine W.widen (k := 13) (n := 1206) (by decide) (by decide) ?_
    exact Jj14 _ _ h _ _ _ hG hS (lv_sub hl [0] rfl)
theorem hd_X9_describe : yX9_describe.cls = RX9 ∧ yX9_describe.cls ≠ "java/lang/invoke/MethodHandle" ∧ yX9_describe.cls ≠ "java/lang/invoke/VarHandle" ∧ (parseMethodDescriptor yX9_describe.desc).map (fun d => d.parameters.length) = some 1 := by decide +kernel
