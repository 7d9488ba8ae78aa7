/-! X, part r: the law's wrappers (DRAFT) -/
abbrev rL_parse : Room := { frames := rX9_parse.frames + 1, cells := 1, slots := 6, locals := rX9_parse.locals + 30 }
set_option maxRecDepth 100000 in
set_option maxHeartbeats 8000000 in
theorem c_L_parse (l : Launch) (hfl : l.stackTraces = false) (t : gP) (x1 : Int) (u : uS) (g : Nat) (r : Int) (u1 : uS) (h : f_X9_parse x1 u = some (g, r, u1)) (hg : g = 0 ∨ g = 2) : xWi l yL_parse wsL_parse rL_parse t [.ref (t.2.2.1 0), .int (iI x1), .ref (t.2.2.1 39)] u (if g = 0 then 0 else 1) (if g = 0 then up u1 39 0 (iI r).toInt else u1) 1 6 := by
  refine x_ofWHi (cc := cL_parse) (maxL := 4) (ret := .int) (own := RL) (by decide) rfl rfl (Nat.le_of_ble_eq_true rfl) ?_
  intro p e s m args below meth c Q X hN htab hret H locs ls hG hS hl
  replace hl : lv_has ls 4 [(0, .ref (t.2.2.1 0)), (1, .int (iI x1)), (2, .ref (t.2.2.1 39))] := hl
  have q0 : 0 < NN ∧ sT 0 = 13 := by decide
  have q39 : 39 < NN ∧ sT 39 = 103 := by decide
  refine lv_aload_n X.1.1 X.1.2.1 dL_parse_0 rfl (lv_at hl 2 rfl) ?_
  refine x_iconst X dL_parse_1 ?_
  refine lv_aload_n X.1.1 X.1.2.1 dL_parse_2 rfl (lv_at hl 0 rfl) ?_
  refine lv_iload_n X.1.1 X.1.2.1 dL_parse_3 rfl (lv_at hl 1 rfl) ?_
  refine x_callVTi X hG hS (c_X9_parse l hfl t x1 u g r u1 h) (cwV 1 X.1.2.2.2.2 gL_parse_X9_parse rfl rfl rfl hd_X9_parse ⟨Nat.le_of_ble_eq_true rfl, Nat.le_of_ble_eq_true rfl⟩) q0.1 q0.2 rfl (by decide) (by rfl) hl.1 (Nat.le_of_ble_eq_true rfl) dL_parse_4 ⟨by decide, by decide⟩ rfl (fun hg0 H locs ce q9 hG hS h7 h8 h9 => ?_) (fun hg0 H locs hG hS => ?_)
  · rw [if_neg hg0, if_neg hg0] at hret
    rcases hg with rfl | rfl
    · exact absurd rfl hg0
    · refine x_cat (g := 2) X hN htab [] ⟨0, 9, 12, 13⟩ [] rfl (fun z hz => by cases hz) (by decide) (by decide) (by decide +kernel) (X.2.2.1.2.2.2.2.2.2.2.2.2 (xE 2) (by decide)) h7 h8 h9 ?_
      refine lv_astore_n (lv' := [(3, .ref q9), (0, .ref (t.2.2.1 0)), (1, .int (iI x1)), (2, .ref (t.2.2.1 39))]) X.1.1 X.1.2.1 dL_parse_12 rfl hl (by decide) rfl (fun ls hl => ?_)
      refine x_iconst X dL_parse_13 ?_
      exact hret _ _ _ _ _ _ (by decide) (by decide) dL_parse_14 (by decide) hG hS
  · rw [if_pos hg0, if_pos hg0] at hret
    rw [← iI_x (iI r)]
    refine x_i2l X (inR_x (iI r)) dL_parse_7 ?_
    refine x_last X hG hS q39.1 q39.2 (n := 1) (by decide +kernel) (by decide) (by decide) dL_parse_8 (fun H locs hG hS => ?_)
    refine lv_goto (tgt := 15) X.1.1 X.1.2.1 dL_parse_9 (by decide) ?_
    refine x_iconst X dL_parse_15 ?_
    exact hret _ _ _ _ _ _ (by decide) (by decide) dL_parse_16 (by decide) hG hS
abbrev rL_size : Room := { frames := rX9_size.frames + 1, cells := 1, slots := 6, locals := rX9_size.locals + 30 }
set_option maxRecDepth 100000 in
set_option maxHeartbeats 8000000 in
theorem c_L_size (l : Launch) (hfl : l.stackTraces = false) (t : gP) (x1 : Int) (u : uS) (g : Nat) (r : Int) (u1 : uS) (h : f_X9_size x1 u = some (g, r, u1)) (hg : g = 0 ∨ g = 2) : xWi l yL_size wsL_size rL_size t [.ref (t.2.2.1 0), .int (iI x1), .ref (t.2.2.1 39)] u (if g = 0 then 0 else 1) (if g = 0 then up u1 39 0 (iI r).toInt else u1) 1 6 := by
  refine x_ofWHi (cc := cL_size) (maxL := 4) (ret := .int) (own := RL) (by decide) rfl rfl (Nat.le_of_ble_eq_true rfl) ?_
  intro p e s m args below meth c Q X hN htab hret H locs ls hG hS hl
  replace hl : lv_has ls 4 [(0, .ref (t.2.2.1 0)), (1, .int (iI x1)), (2, .ref (t.2.2.1 39))] := hl
  have q0 : 0 < NN ∧ sT 0 = 13 := by decide
  have q39 : 39 < NN ∧ sT 39 = 103 := by decide
  refine lv_aload_n X.1.1 X.1.2.1 dL_size_0 rfl (lv_at hl 2 rfl) ?_
  refine x_iconst X dL_size_1 ?_
  refine lv_aload_n X.1.1 X.1.2.1 dL_size_2 rfl (lv_at hl 0 rfl) ?_
  refine lv_iload_n X.1.1 X.1.2.1 dL_size_3 rfl (lv_at hl 1 rfl) ?_
  refine x_callVTi X hG hS (c_X9_size l hfl t x1 u g r u1 h) (cwV 1 X.1.2.2.2.2 gL_size_X9_size rfl rfl rfl hd_X9_size ⟨Nat.le_of_ble_eq_true rfl, Nat.le_of_ble_eq_true rfl⟩) q0.1 q0.2 rfl (by decide) (by rfl) hl.1 (Nat.le_of_ble_eq_true rfl) dL_size_4 ⟨by decide, by decide⟩ rfl (fun hg0 H locs ce q9 hG hS h7 h8 h9 => ?_) (fun hg0 H locs hG hS => ?_)
  · rw [if_neg hg0, if_neg hg0] at hret
    rcases hg with rfl | rfl
    · exact absurd rfl hg0
    · refine x_cat (g := 2) X hN htab [] ⟨0, 9, 12, 13⟩ [] rfl (fun z hz => by cases hz) (by decide) (by decide) (by decide +kernel) (X.2.2.1.2.2.2.2.2.2.2.2.2 (xE 2) (by decide)) h7 h8 h9 ?_
      refine lv_astore_n (lv' := [(3, .ref q9), (0, .ref (t.2.2.1 0)), (1, .int (iI x1)), (2, .ref (t.2.2.1 39))]) X.1.1 X.1.2.1 dL_size_12 rfl hl (by decide) rfl (fun ls hl => ?_)
      refine x_iconst X dL_size_13 ?_
      exact hret _ _ _ _ _ _ (by decide) (by decide) dL_size_14 (by decide) hG hS
  · rw [if_pos hg0, if_pos hg0] at hret
    rw [← iI_x (iI r)]
    refine x_i2l X (inR_x (iI r)) dL_size_7 ?_
    refine x_last X hG hS q39.1 q39.2 (n := 1) (by decide +kernel) (by decide) (by decide) dL_size_8 (fun H locs hG hS => ?_)
    refine lv_goto (tgt := 15) X.1.1 X.1.2.1 dL_size_9 (by decide) ?_
    refine x_iconst X dL_size_15 ?_
    exact hret _ _ _ _ _ _ (by decide) (by decide) dL_size_16 (by decide) hG hS
abbrev rL_between : Room := { frames := rX9_between.frames + 1, cells := 2, slots := 12, locals := rX9_between.locals + 30 }
set_option maxRecDepth 100000 in
set_option maxHeartbeats 8000000 in
theorem c_L_between (l : Launch) (hfl : l.stackTraces = false) (t : gP) (x1 : Int) (x2 : Int) (u : uS) (g : Nat) (r : Int) (u1 : uS) (h : f_X9_between x1 x2 u = some (g, r, u1)) (hg : g = 0 ∨ g = 1) : xWi l yL_between wsL_between rL_between t [.ref (t.2.2.1 0), .int (iI x1), .int (iI x2), .ref (t.2.2.1 39)] u (if g = 0 then 0 else 1) (if g = 0 then up u1 39 0 (iI r).toInt else u1) 2 12 := by
  refine x_ofWHi (cc := cL_between) (maxL := 5) (ret := .int) (own := RL) (by decide) rfl rfl (Nat.le_of_ble_eq_true rfl) ?_
  intro p e s m args below meth c Q X hN htab hret H locs ls hG hS hl
  replace hl : lv_has ls 5 [(0, .ref (t.2.2.1 0)), (1, .int (iI x1)), (2, .int (iI x2)), (3, .ref (t.2.2.1 39))] := hl
  have q0 : 0 < NN ∧ sT 0 = 13 := by decide
  have q39 : 39 < NN ∧ sT 39 = 103 := by decide
  refine lv_aload_n X.1.1 X.1.2.1 dL_between_0 rfl (lv_at hl 3 rfl) ?_
  refine x_iconst X dL_between_1 ?_
  refine lv_aload_n X.1.1 X.1.2.1 dL_between_2 rfl (lv_at hl 0 rfl) ?_
  refine lv_iload_n X.1.1 X.1.2.1 dL_between_3 rfl (lv_at hl 1 rfl) ?_
  refine lv_iload_n X.1.1 X.1.2.1 dL_between_4 rfl (lv_at hl 2 rfl) ?_
  refine x_callVTi X hG hS (c_X9_between l hfl t x1 x2 u g r u1 h) (cwV 2 X.1.2.2.2.2 gL_between_X9_between rfl rfl rfl hd_X9_between ⟨Nat.le_of_ble_eq_true rfl, Nat.le_of_ble_eq_true rfl⟩) q0.1 q0.2 rfl (by decide) (by rfl) hl.1 (Nat.le_of_ble_eq_true rfl) dL_between_5 ⟨by decide, by decide⟩ rfl (fun hg0 H locs ce q9 hG hS h7 h8 h9 => ?_) (fun hg0 H locs hG hS => ?_)
  · rw [if_neg hg0, if_neg hg0] at hret
    rcases hg with rfl | rfl
    · exact absurd rfl hg0
    · refine x_cat (g := 1) X hN htab [] ⟨0, 10, 13, 22⟩ [] rfl (fun z hz => by cases hz) (by decide) (by decide) (by decide +kernel) (X.2.2.1.2.2.2.2.2.2.2.2.2 (xE 1) (by decide)) h7 h8 h9 ?_
      refine lv_astore (lv' := [(4, .ref q9), (0, .ref (t.2.2.1 0)), (1, .int (iI x1)), (2, .int (iI x2)), (3, .ref (t.2.2.1 39))]) X.1.1 X.1.2.1 dL_between_13 hl (by decide) rfl (fun ls hl => ?_)
      refine x_iconst X dL_between_15 ?_
      exact hret _ _ _ _ _ _ (by decide) (by decide) dL_between_16 (by decide) hG hS
  · rw [if_pos hg0, if_pos hg0] at hret
    rw [← iI_x (iI r)]
    refine x_i2l X (inR_x (iI r)) dL_between_8 ?_
    refine x_last X hG hS q39.1 q39.2 (n := 1) (by decide +kernel) (by decide) (by decide) dL_between_9 (fun H locs hG hS => ?_)
    refine lv_goto (tgt := 17) X.1.1 X.1.2.1 dL_between_10 (by decide) ?_
    refine x_iconst X dL_between_17 ?_
    exact hret _ _ _ _ _ _ (by decide) (by decide) dL_between_18 (by decide) hG hS
abbrev rL_travel : Room := { frames := rX9_travel.frames + 1, cells := 2, slots := 12, locals := rX9_travel.locals + 30 }
set_option maxRecDepth 100000 in
set_option maxHeartbeats 8000000 in
theorem c_L_travel (l : Launch) (hfl : l.stackTraces = false) (t : gP) (x1 : Int) (x2 : Int) (u : uS) (g : Nat) (r : Int) (u1 : uS) (h : f_X9_travel x1 x2 u = some (g, r, u1)) (hg : g = 0 ∨ g = 1) : xWi l yL_travel wsL_travel rL_travel t [.ref (t.2.2.1 0), .int (iI x1), .int (iI x2), .ref (t.2.2.1 39)] u (if g = 0 then 0 else 1) (if g = 0 then up u1 39 0 (iI r).toInt else u1) 2 12 := by
  refine x_ofWHi (cc := cL_travel) (maxL := 5) (ret := .int) (own := RL) (by decide) rfl rfl (Nat.le_of_ble_eq_true rfl) ?_
  intro p e s m args below meth c Q X hN htab hret H locs ls hG hS hl
  replace hl : lv_has ls 5 [(0, .ref (t.2.2.1 0)), (1, .int (iI x1)), (2, .int (iI x2)), (3, .ref (t.2.2.1 39))] := hl
  have q0 : 0 < NN ∧ sT 0 = 13 := by decide
  have q39 : 39 < NN ∧ sT 39 = 103 := by decide
  refine lv_aload_n X.1.1 X.1.2.1 dL_travel_0 rfl (lv_at hl 3 rfl) ?_
  refine x_iconst X dL_travel_1 ?_
  refine lv_aload_n X.1.1 X.1.2.1 dL_travel_2 rfl (lv_at hl 0 rfl) ?_
  refine lv_iload_n X.1.1 X.1.2.1 dL_travel_3 rfl (lv_at hl 1 rfl) ?_
  refine lv_iload_n X.1.1 X.1.2.1 dL_travel_4 rfl (lv_at hl 2 rfl) ?_
  refine x_callVTi X hG hS (c_X9_travel l hfl t x1 x2 u g r u1 h) (cwV 2 X.1.2.2.2.2 gL_travel_X9_travel rfl rfl rfl hd_X9_travel ⟨Nat.le_of_ble_eq_true rfl, Nat.le_of_ble_eq_true rfl⟩) q0.1 q0.2 rfl (by decide) (by rfl) hl.1 (Nat.le_of_ble_eq_true rfl) dL_travel_5 ⟨by decide, by decide⟩ rfl (fun hg0 H locs ce q9 hG hS h7 h8 h9 => ?_) (fun hg0 H locs hG hS => ?_)
  · rw [if_neg hg0, if_neg hg0] at hret
    rcases hg with rfl | rfl
    · exact absurd rfl hg0
    · refine x_cat (g := 1) X hN htab [] ⟨0, 10, 13, 22⟩ [] rfl (fun z hz => by cases hz) (by decide) (by decide) (by decide +kernel) (X.2.2.1.2.2.2.2.2.2.2.2.2 (xE 1) (by decide)) h7 h8 h9 ?_
      refine lv_astore (lv' := [(4, .ref q9), (0, .ref (t.2.2.1 0)), (1, .int (iI x1)), (2, .int (iI x2)), (3, .ref (t.2.2.1 39))]) X.1.1 X.1.2.1 dL_travel_13 hl (by decide) rfl (fun ls hl => ?_)
      refine x_iconst X dL_travel_15 ?_
      exact hret _ _ _ _ _ _ (by decide) (by decide) dL_travel_16 (by decide) hG hS
  · rw [if_pos hg0, if_pos hg0] at hret
    rw [← iI_x (iI r)]
    refine x_i2l X (inR_x (iI r)) dL_travel_8 ?_
    refine x_last X hG hS q39.1 q39.2 (n := 1) (by decide +kernel) (by decide) (by decide) dL_travel_9 (fun H locs hG hS => ?_)
    refine lv_goto (tgt := 17) X.1.1 X.1.2.1 dL_travel_10 (by decide) ?_
    refine x_iconst X dL_travel_17 ?_
    exact hret _ _ _ _ _ _ (by decide) (by decide) dL_travel_18 (by decide) hG hS
abbrev rL_ladder : Room := { frames := rX9_ladder.frames + 1, cells := 1, slots := 6, locals := rX9_ladder.locals + 30 }
set_option maxRecDepth 100000 in
set_option maxHeartbeats 8000000 in
theorem c_L_ladder (l : Launch) (hfl : l.stackTraces = false) (t : gP) (x1 : Int) (u : uS) (g : Nat) (r : Int) (u1 : uS) (h : f_X9_ladder x1 u = some (g, r, u1)) (hg : g = 0 ∨ g = 2) : xWi l yL_ladder wsL_ladder rL_ladder t [.ref (t.2.2.1 0), .int (iI x1), .ref (t.2.2.1 39)] u (if g = 0 then 0 else 1) (if g = 0 then up u1 39 0 (iI r).toInt else u1) 1 6 := by
  refine x_ofWHi (cc := cL_ladder) (maxL := 4) (ret := .int) (own := RL) (by decide) rfl rfl (Nat.le_of_ble_eq_true rfl) ?_
  intro p e s m args below meth c Q X hN htab hret H locs ls hG hS hl
  replace hl : lv_has ls 4 [(0, .ref (t.2.2.1 0)), (1, .int (iI x1)), (2, .ref (t.2.2.1 39))] := hl
  have q0 : 0 < NN ∧ sT 0 = 13 := by decide
  have q39 : 39 < NN ∧ sT 39 = 103 := by decide
  refine lv_aload_n X.1.1 X.1.2.1 dL_ladder_0 rfl (lv_at hl 2 rfl) ?_
  refine x_iconst X dL_ladder_1 ?_
  refine lv_aload_n X.1.1 X.1.2.1 dL_ladder_2 rfl (lv_at hl 0 rfl) ?_
  refine lv_iload_n X.1.1 X.1.2.1 dL_ladder_3 rfl (lv_at hl 1 rfl) ?_
  refine x_callVTi X hG hS (c_X9_ladder l hfl t x1 u g r u1 h) (cwV 1 X.1.2.2.2.2 gL_ladder_X9_ladder rfl rfl rfl hd_X9_ladder ⟨Nat.le_of_ble_eq_true rfl, Nat.le_of_ble_eq_true rfl⟩) q0.1 q0.2 rfl (by decide) (by rfl) hl.1 (Nat.le_of_ble_eq_true rfl) dL_ladder_4 ⟨by decide, by decide⟩ rfl (fun hg0 H locs ce q9 hG hS h7 h8 h9 => ?_) (fun hg0 H locs hG hS => ?_)
  · rw [if_neg hg0, if_neg hg0] at hret
    rcases hg with rfl | rfl
    · exact absurd rfl hg0
    · refine x_cat (g := 2) X hN htab [] ⟨0, 9, 12, 13⟩ [] rfl (fun z hz => by cases hz) (by decide) (by decide) (by decide +kernel) (X.2.2.1.2.2.2.2.2.2.2.2.2 (xE 2) (by decide)) h7 h8 h9 ?_
      refine lv_astore_n (lv' := [(3, .ref q9), (0, .ref (t.2.2.1 0)), (1, .int (iI x1)), (2, .ref (t.2.2.1 39))]) X.1.1 X.1.2.1 dL_ladder_12 rfl hl (by decide) rfl (fun ls hl => ?_)
      refine x_iconst X dL_ladder_13 ?_
      exact hret _ _ _ _ _ _ (by decide) (by decide) dL_ladder_14 (by decide) hG hS
  · rw [if_pos hg0, if_pos hg0] at hret
    rw [← iI_x (iI r)]
    refine x_i2l X (inR_x (iI r)) dL_ladder_7 ?_
    refine x_last X hG hS q39.1 q39.2 (n := 1) (by decide +kernel) (by decide) (by decide) dL_ladder_8 (fun H locs hG hS => ?_)
    refine lv_goto (tgt := 15) X.1.1 X.1.2.1 dL_ladder_9 (by decide) ?_
    refine x_iconst X dL_ladder_15 ?_
    exact hret _ _ _ _ _ _ (by decide) (by decide) dL_ladder_16 (by decide) hG hS
abbrev rL_station : Room := { frames := rX9_station.frames + 1, cells := 2, slots := 12, locals := rX9_station.locals + 30 }
set_option maxRecDepth 100000 in
set_option maxHeartbeats 8000000 in
theorem c_L_station (l : Launch) (hfl : l.stackTraces = false) (t : gP) (x1 : Int) (x2 : Int) (u : uS) (g : Nat) (r : Int) (u1 : uS) (h : f_X9_station x1 x2 u = some (g, r, u1)) (hg : g = 0 ∨ g = 1 ∨ g = 2) : xWi l yL_station wsL_station rL_station t [.ref (t.2.2.1 0), .int (iI x1), .int (iI x2), .ref (t.2.2.1 39)] u (if g = 0 then 0 else if g = 1 then 1 else 2) (if g = 0 then up u1 39 0 (iI r).toInt else u1) 2 12 := by
  refine x_ofWHi (cc := cL_station) (maxL := 5) (ret := .int) (own := RL) (by decide) rfl rfl (Nat.le_of_ble_eq_true rfl) ?_
  intro p e s m args below meth c Q X hN htab hret H locs ls hG hS hl
  replace hl : lv_has ls 5 [(0, .ref (t.2.2.1 0)), (1, .int (iI x1)), (2, .int (iI x2)), (3, .ref (t.2.2.1 39))] := hl
  have q0 : 0 < NN ∧ sT 0 = 13 := by decide
  have q39 : 39 < NN ∧ sT 39 = 103 := by decide
  refine lv_aload_n X.1.1 X.1.2.1 dL_station_0 rfl (lv_at hl 3 rfl) ?_
  refine x_iconst X dL_station_1 ?_
  refine lv_aload_n X.1.1 X.1.2.1 dL_station_2 rfl (lv_at hl 0 rfl) ?_
  refine lv_iload_n X.1.1 X.1.2.1 dL_station_3 rfl (lv_at hl 1 rfl) ?_
  refine lv_iload_n X.1.1 X.1.2.1 dL_station_4 rfl (lv_at hl 2 rfl) ?_
  refine x_callVTi X hG hS (c_X9_station l hfl t x1 x2 u g r u1 h) (cwV 2 X.1.2.2.2.2 gL_station_X9_station rfl rfl rfl hd_X9_station ⟨Nat.le_of_ble_eq_true rfl, Nat.le_of_ble_eq_true rfl⟩) q0.1 q0.2 rfl (by decide) (by rfl) hl.1 (Nat.le_of_ble_eq_true rfl) dL_station_5 ⟨by decide, by decide⟩ rfl (fun hg0 H locs ce q9 hG hS h7 h8 h9 => ?_) (fun hg0 H locs hG hS => ?_)
  · rw [if_neg hg0, if_neg hg0] at hret
    rcases hg with rfl | rfl | rfl
    · exact absurd rfl hg0
    · refine x_cat (g := 1) X hN htab [] ⟨0, 10, 13, 22⟩ [(⟨0, 10, 17, 13⟩ : ExceptionTableEntry)] rfl (fun z hz => by cases hz) (by decide) (by decide) (by decide +kernel) (X.2.2.1.2.2.2.2.2.2.2.2.2 (xE 1) (by decide)) h7 h8 h9 ?_
      refine lv_astore (lv' := [(4, .ref q9), (0, .ref (t.2.2.1 0)), (1, .int (iI x1)), (2, .int (iI x2)), (3, .ref (t.2.2.1 39))]) X.1.1 X.1.2.1 dL_station_13 hl (by decide) rfl (fun ls hl => ?_)
      refine x_iconst X dL_station_15 ?_
      exact hret _ _ _ _ _ _ (by decide) (by decide) dL_station_16 (by decide) hG hS
    · refine x_cat (g := 2) X hN htab [(⟨0, 10, 13, 22⟩ : ExceptionTableEntry)] ⟨0, 10, 17, 13⟩ [] rfl (fun z hz => (List.mem_cons.mp hz).elim (fun h => by subst h; exact ⟨by decide, xE 1, by decide +kernel, by decide +kernel⟩) (fun hz => by cases hz)) (by decide) (by decide) (by decide +kernel) (X.2.2.1.2.2.2.2.2.2.2.2.2 (xE 2) (by decide)) h7 h8 h9 ?_
      refine lv_astore (lv' := [(4, .ref q9), (0, .ref (t.2.2.1 0)), (1, .int (iI x1)), (2, .int (iI x2)), (3, .ref (t.2.2.1 39))]) X.1.1 X.1.2.1 dL_station_17 hl (by decide) rfl (fun ls hl => ?_)
      refine x_iconst X dL_station_19 ?_
      exact hret _ _ _ _ _ _ (by decide) (by decide) dL_station_20 (by decide) hG hS
  · rw [if_pos hg0, if_pos hg0] at hret
    rw [← iI_x (iI r)]
    refine x_i2l X (inR_x (iI r)) dL_station_8 ?_
    refine x_last X hG hS q39.1 q39.2 (n := 1) (by decide +kernel) (by decide) (by decide) dL_station_9 (fun H locs hG hS => ?_)
    refine lv_goto (tgt := 21) X.1.1 X.1.2.1 dL_station_10 (by decide) ?_
    refine x_iconst X dL_station_21 ?_
    exact hret _ _ _ _ _ _ (by decide) (by decide) dL_station_22 (by decide) hG hS
abbrev rL_pick : Room := { frames := rX9_pick.frames + 1, cells := 2, slots := 12, locals := rX9_pick.locals + 30 }
set_option maxRecDepth 100000 in
set_option maxHeartbeats 8000000 in
theorem c_L_pick (l : Launch) (hfl : l.stackTraces = false) (t : gP) (x1 : Int) (x2 : Int) (u : uS) (g : Nat) (r : Int) (u1 : uS) (h : f_X9_pick x1 x2 u = some (g, r, u1)) (hg : g = 0 ∨ g = 1 ∨ g = 2) : xWi l yL_pick wsL_pick rL_pick t [.ref (t.2.2.1 0), .int (iI x1), .int (iI x2), .ref (t.2.2.1 39)] u (if g = 0 then 0 else if g = 1 then 1 else 2) (if g = 0 then up u1 39 0 (iI r).toInt else u1) 2 12 := by
  refine x_ofWHi (cc := cL_pick) (maxL := 5) (ret := .int) (own := RL) (by decide) rfl rfl (Nat.le_of_ble_eq_true rfl) ?_
  intro p e s m args below meth c Q X hN htab hret H locs ls hG hS hl
  replace hl : lv_has ls 5 [(0, .ref (t.2.2.1 0)), (1, .int (iI x1)), (2, .int (iI x2)), (3, .ref (t.2.2.1 39))] := hl
  have q0 : 0 < NN ∧ sT 0 = 13 := by decide
  have q39 : 39 < NN ∧ sT 39 = 103 := by decide
  refine lv_aload_n X.1.1 X.1.2.1 dL_pick_0 rfl (lv_at hl 3 rfl) ?_
  refine x_iconst X dL_pick_1 ?_
  refine lv_aload_n X.1.1 X.1.2.1 dL_pick_2 rfl (lv_at hl 0 rfl) ?_
  refine lv_iload_n X.1.1 X.1.2.1 dL_pick_3 rfl (lv_at hl 1 rfl) ?_
  refine lv_iload_n X.1.1 X.1.2.1 dL_pick_4 rfl (lv_at hl 2 rfl) ?_
  refine x_callVTi X hG hS (c_X9_pick l hfl t x1 x2 u g r u1 h) (cwV 2 X.1.2.2.2.2 gL_pick_X9_pick rfl rfl rfl hd_X9_pick ⟨Nat.le_of_ble_eq_true rfl, Nat.le_of_ble_eq_true rfl⟩) q0.1 q0.2 rfl (by decide) (by rfl) hl.1 (Nat.le_of_ble_eq_true rfl) dL_pick_5 ⟨by decide, by decide⟩ rfl (fun hg0 H locs ce q9 hG hS h7 h8 h9 => ?_) (fun hg0 H locs hG hS => ?_)
  · rw [if_neg hg0, if_neg hg0] at hret
    rcases hg with rfl | rfl | rfl
    · exact absurd rfl hg0
    · refine x_cat (g := 1) X hN htab [] ⟨0, 10, 13, 22⟩ [(⟨0, 10, 17, 13⟩ : ExceptionTableEntry)] rfl (fun z hz => by cases hz) (by decide) (by decide) (by decide +kernel) (X.2.2.1.2.2.2.2.2.2.2.2.2 (xE 1) (by decide)) h7 h8 h9 ?_
      refine lv_astore (lv' := [(4, .ref q9), (0, .ref (t.2.2.1 0)), (1, .int (iI x1)), (2, .int (iI x2)), (3, .ref (t.2.2.1 39))]) X.1.1 X.1.2.1 dL_pick_13 hl (by decide) rfl (fun ls hl => ?_)
      refine x_iconst X dL_pick_15 ?_
      exact hret _ _ _ _ _ _ (by decide) (by decide) dL_pick_16 (by decide) hG hS
    · refine x_cat (g := 2) X hN htab [(⟨0, 10, 13, 22⟩ : ExceptionTableEntry)] ⟨0, 10, 17, 13⟩ [] rfl (fun z hz => (List.mem_cons.mp hz).elim (fun h => by subst h; exact ⟨by decide, xE 1, by decide +kernel, by decide +kernel⟩) (fun hz => by cases hz)) (by decide) (by decide) (by decide +kernel) (X.2.2.1.2.2.2.2.2.2.2.2.2 (xE 2) (by decide)) h7 h8 h9 ?_
      refine lv_astore (lv' := [(4, .ref q9), (0, .ref (t.2.2.1 0)), (1, .int (iI x1)), (2, .int (iI x2)), (3, .ref (t.2.2.1 39))]) X.1.1 X.1.2.1 dL_pick_17 hl (by decide) rfl (fun ls hl => ?_)
      refine x_iconst X dL_pick_19 ?_
      exact hret _ _ _ _ _ _ (by decide) (by decide) dL_pick_20 (by decide) hG hS
  · rw [if_pos hg0, if_pos hg0] at hret
    rw [← iI_x (iI r)]
    refine x_i2l X (inR_x (iI r)) dL_pick_8 ?_
    refine x_last X hG hS q39.1 q39.2 (n := 1) (by decide +kernel) (by decide) (by decide) dL_pick_9 (fun H locs hG hS => ?_)
    refine lv_goto (tgt := 21) X.1.1 X.1.2.1 dL_pick_10 (by decide) ?_
    refine x_iconst X dL_pick_21 ?_
    exact hret _ _ _ _ _ _ (by decide) (by decide) dL_pick_22 (by decide) hG hS
abbrev rL_fits : Room := { frames := rX9_fits.frames + 1, cells := 2, slots := 12, locals := rX9_fits.locals + 30 }
set_option maxRecDepth 100000 in
set_option maxHeartbeats 8000000 in
theorem c_L_fits (l : Launch) (hfl : l.stackTraces = false) (t : gP) (x1 : Int) (x2 : Int) (u : uS) (g : Nat) (r : Int) (u1 : uS) (h : f_X9_fits x1 x2 u = some (g, r, u1)) (hg : g = 0 ∨ g = 1) (hb : r = 0 ∨ r = 1) : xWi l yL_fits wsL_fits rL_fits t [.ref (t.2.2.1 0), .int (iI x1), .int (iI x2), .ref (t.2.2.1 39)] u (if g = 0 then 0 else 1) (if g = 0 then up u1 39 0 r else u1) 2 12 := by
  refine x_ofWHi (cc := cL_fits) (maxL := 5) (ret := .int) (own := RL) (by decide) rfl rfl (Nat.le_of_ble_eq_true rfl) ?_
  intro p e s m args below meth c Q X hN htab hret H locs ls hG hS hl
  replace hl : lv_has ls 5 [(0, .ref (t.2.2.1 0)), (1, .int (iI x1)), (2, .int (iI x2)), (3, .ref (t.2.2.1 39))] := hl
  have q0 : 0 < NN ∧ sT 0 = 13 := by decide
  have q39 : 39 < NN ∧ sT 39 = 103 := by decide
  refine lv_aload_n X.1.1 X.1.2.1 dL_fits_0 rfl (lv_at hl 3 rfl) ?_
  refine x_iconst X dL_fits_1 ?_
  refine lv_aload_n X.1.1 X.1.2.1 dL_fits_2 rfl (lv_at hl 0 rfl) ?_
  refine lv_iload_n X.1.1 X.1.2.1 dL_fits_3 rfl (lv_at hl 1 rfl) ?_
  refine lv_iload_n X.1.1 X.1.2.1 dL_fits_4 rfl (lv_at hl 2 rfl) ?_
  refine x_callVTi X hG hS (c_X9_fits l hfl t x1 x2 u g r u1 h) (cwV 2 X.1.2.2.2.2 gL_fits_X9_fits rfl rfl rfl hd_X9_fits ⟨Nat.le_of_ble_eq_true rfl, Nat.le_of_ble_eq_true rfl⟩) q0.1 q0.2 rfl (by decide) (by rfl) hl.1 (Nat.le_of_ble_eq_true rfl) dL_fits_5 ⟨by decide, by decide⟩ rfl (fun hg0 H locs ce q9 hG hS h7 h8 h9 => ?_) (fun hg0 H locs hG hS => ?_)
  · rw [if_neg hg0, if_neg hg0] at hret
    rcases hg with rfl | rfl
    · exact absurd rfl hg0
    · refine x_cat (g := 1) X hN htab [] ⟨0, 17, 20, 22⟩ [] rfl (fun z hz => by cases hz) (by decide) (by decide) (by decide +kernel) (X.2.2.1.2.2.2.2.2.2.2.2.2 (xE 1) (by decide)) h7 h8 h9 ?_
      refine lv_astore (lv' := [(4, .ref q9), (0, .ref (t.2.2.1 0)), (1, .int (iI x1)), (2, .int (iI x2)), (3, .ref (t.2.2.1 39))]) X.1.1 X.1.2.1 dL_fits_20 hl (by decide) rfl (fun ls hl => ?_)
      refine x_iconst X dL_fits_22 ?_
      exact hret _ _ _ _ _ _ (by decide) (by decide) dL_fits_23 (by decide) hG hS
  · rw [if_pos hg0, if_pos hg0] at hret
    refine x_if_eq (tgt := 15) X (by omega) dL_fits_8 (by decide) (fun hz => ?_) (fun hz => ?_)
    · refine x_lconst X dL_fits_15 0 rfl ?_
      rw [hz] at hret
      refine x_last X hG hS q39.1 q39.2 (n := 1) (by decide +kernel) (by decide) (by decide) dL_fits_16 (fun H locs hG hS => ?_)
      refine lv_goto (tgt := 24) X.1.1 X.1.2.1 dL_fits_17 (by decide) ?_
      refine x_iconst X dL_fits_24 ?_
      exact hret _ _ _ _ _ _ (by decide) (by decide) dL_fits_25 (by decide) hG hS
    · have hz : r = 1 := by omega
      refine x_lconst X dL_fits_11 1 rfl ?_
      refine lv_goto (tgt := 16) X.1.1 X.1.2.1 dL_fits_12 (by decide) ?_
      rw [hz] at hret
      refine x_last X hG hS q39.1 q39.2 (n := 1) (by decide +kernel) (by decide) (by decide) dL_fits_16 (fun H locs hG hS => ?_)
      refine lv_goto (tgt := 24) X.1.1 X.1.2.1 dL_fits_17 (by decide) ?_
      refine x_iconst X dL_fits_24 ?_
      exact hret _ _ _ _ _ _ (by decide) (by decide) dL_fits_25 (by decide) hG hS
abbrev rL_event : Room := { frames := rX9_event.frames + 1, cells := 2, slots := 12, locals := rX9_event.locals + 30 }
set_option maxRecDepth 100000 in
set_option maxHeartbeats 8000000 in
theorem c_L_event (l : Launch) (hfl : l.stackTraces = false) (t : gP) (x1 : Int) (x2 : Int) (u : uS) (g : Nat) (r : Int) (u1 : uS) (h : f_X9_event x1 x2 u = some (g, r, u1)) (hg : g = 0 ∨ g = 1 ∨ g = 2) : xWi l yL_event wsL_event rL_event t [.ref (t.2.2.1 0), .int (iI x1), .int (iI x2), .ref (t.2.2.1 39)] u (if g = 0 then 0 else if g = 1 then 1 else 2) (if g = 0 then up u1 39 0 (iI r).toInt else u1) 2 12 := by
  refine x_ofWHi (cc := cL_event) (maxL := 5) (ret := .int) (own := RL) (by decide) rfl rfl (Nat.le_of_ble_eq_true rfl) ?_
  intro p e s m args below meth c Q X hN htab hret H locs ls hG hS hl
  replace hl : lv_has ls 5 [(0, .ref (t.2.2.1 0)), (1, .int (iI x1)), (2, .int (iI x2)), (3, .ref (t.2.2.1 39))] := hl
  have q0 : 0 < NN ∧ sT 0 = 13 := by decide
  have q39 : 39 < NN ∧ sT 39 = 103 := by decide
  refine lv_aload_n X.1.1 X.1.2.1 dL_event_0 rfl (lv_at hl 3 rfl) ?_
  refine x_iconst X dL_event_1 ?_
  refine lv_aload_n X.1.1 X.1.2.1 dL_event_2 rfl (lv_at hl 0 rfl) ?_
  refine lv_iload_n X.1.1 X.1.2.1 dL_event_3 rfl (lv_at hl 1 rfl) ?_
  refine lv_iload_n X.1.1 X.1.2.1 dL_event_4 rfl (lv_at hl 2 rfl) ?_
  refine x_callVTi X hG hS (c_X9_event l hfl t x1 x2 u g r u1 h) (cwV 2 X.1.2.2.2.2 gL_event_X9_event rfl rfl rfl hd_X9_event ⟨Nat.le_of_ble_eq_true rfl, Nat.le_of_ble_eq_true rfl⟩) q0.1 q0.2 rfl (by decide) (by rfl) hl.1 (Nat.le_of_ble_eq_true rfl) dL_event_5 ⟨by decide, by decide⟩ rfl (fun hg0 H locs ce q9 hG hS h7 h8 h9 => ?_) (fun hg0 H locs hG hS => ?_)
  · rw [if_neg hg0, if_neg hg0] at hret
    rcases hg with rfl | rfl | rfl
    · exact absurd rfl hg0
    · refine x_cat (g := 1) X hN htab [] ⟨0, 10, 13, 22⟩ [(⟨0, 10, 17, 13⟩ : ExceptionTableEntry)] rfl (fun z hz => by cases hz) (by decide) (by decide) (by decide +kernel) (X.2.2.1.2.2.2.2.2.2.2.2.2 (xE 1) (by decide)) h7 h8 h9 ?_
      refine lv_astore (lv' := [(4, .ref q9), (0, .ref (t.2.2.1 0)), (1, .int (iI x1)), (2, .int (iI x2)), (3, .ref (t.2.2.1 39))]) X.1.1 X.1.2.1 dL_event_13 hl (by decide) rfl (fun ls hl => ?_)
      refine x_iconst X dL_event_15 ?_
      exact hret _ _ _ _ _ _ (by decide) (by decide) dL_event_16 (by decide) hG hS
    · refine x_cat (g := 2) X hN htab [(⟨0, 10, 13, 22⟩ : ExceptionTableEntry)] ⟨0, 10, 17, 13⟩ [] rfl (fun z hz => (List.mem_cons.mp hz).elim (fun h => by subst h; exact ⟨by decide, xE 1, by decide +kernel, by decide +kernel⟩) (fun hz => by cases hz)) (by decide) (by decide) (by decide +kernel) (X.2.2.1.2.2.2.2.2.2.2.2.2 (xE 2) (by decide)) h7 h8 h9 ?_
      refine lv_astore (lv' := [(4, .ref q9), (0, .ref (t.2.2.1 0)), (1, .int (iI x1)), (2, .int (iI x2)), (3, .ref (t.2.2.1 39))]) X.1.1 X.1.2.1 dL_event_17 hl (by decide) rfl (fun ls hl => ?_)
      refine x_iconst X dL_event_19 ?_
      exact hret _ _ _ _ _ _ (by decide) (by decide) dL_event_20 (by decide) hG hS
  · rw [if_pos hg0, if_pos hg0] at hret
    rw [← iI_x (iI r)]
    refine x_i2l X (inR_x (iI r)) dL_event_8 ?_
    refine x_last X hG hS q39.1 q39.2 (n := 1) (by decide +kernel) (by decide) (by decide) dL_event_9 (fun H locs hG hS => ?_)
    refine lv_goto (tgt := 21) X.1.1 X.1.2.1 dL_event_10 (by decide) ?_
    refine x_iconst X dL_event_21 ?_
    exact hret _ _ _ _ _ _ (by decide) (by decide) dL_event_22 (by decide) hG hS
abbrev rL_eventPick : Room := { frames := rX9_eventPick.frames + 1, cells := 1, slots := 6, locals := rX9_eventPick.locals + 30 }
set_option maxRecDepth 100000 in
set_option maxHeartbeats 8000000 in
theorem c_L_eventPick (l : Launch) (hfl : l.stackTraces = false) (t : gP) (x1 : Int) (x2 : Int) (u : uS) (g : Nat) (r : Int) (u1 : uS) (h : f_X9_eventPick x1 x2 u = some (g, r, u1)) (hg : g = 0 ∨ g = 1) : xWi l yL_eventPick wsL_eventPick rL_eventPick t [.ref (t.2.2.1 0), .int (iI x1), .int (iI x2), .ref (t.2.2.1 39)] u (if g = 0 then 0 else 1) (if g = 0 then up u1 39 0 (iI r).toInt else u1) 1 6 := by
  refine x_ofWHi (cc := cL_eventPick) (maxL := 5) (ret := .int) (own := RL) (by decide) rfl rfl (Nat.le_of_ble_eq_true rfl) ?_
  intro p e s m args below meth c Q X hN htab hret H locs ls hG hS hl
  replace hl : lv_has ls 5 [(0, .ref (t.2.2.1 0)), (1, .int (iI x1)), (2, .int (iI x2)), (3, .ref (t.2.2.1 39))] := hl
  have q0 : 0 < NN ∧ sT 0 = 13 := by decide
  have q39 : 39 < NN ∧ sT 39 = 103 := by decide
  refine lv_aload_n X.1.1 X.1.2.1 dL_eventPick_0 rfl (lv_at hl 3 rfl) ?_
  refine x_iconst X dL_eventPick_1 ?_
  refine lv_aload_n X.1.1 X.1.2.1 dL_eventPick_2 rfl (lv_at hl 0 rfl) ?_
  refine lv_iload_n X.1.1 X.1.2.1 dL_eventPick_3 rfl (lv_at hl 1 rfl) ?_
  refine lv_iload_n X.1.1 X.1.2.1 dL_eventPick_4 rfl (lv_at hl 2 rfl) ?_
  refine x_callVTi X hG hS (c_X9_eventPick l hfl t x1 x2 u g r u1 h) (cwV 2 X.1.2.2.2.2 gL_eventPick_X9_eventPick rfl rfl rfl hd_X9_eventPick ⟨Nat.le_of_ble_eq_true rfl, Nat.le_of_ble_eq_true rfl⟩) q0.1 q0.2 rfl (by decide) (by rfl) hl.1 (Nat.le_of_ble_eq_true rfl) dL_eventPick_5 ⟨by decide, by decide⟩ rfl (fun hg0 H locs ce q9 hG hS h7 h8 h9 => ?_) (fun hg0 H locs hG hS => ?_)
  · rw [if_neg hg0, if_neg hg0] at hret
    rcases hg with rfl | rfl
    · exact absurd rfl hg0
    · refine x_cat (g := 1) X hN htab [] ⟨0, 10, 13, 22⟩ [] rfl (fun z hz => by cases hz) (by decide) (by decide) (by decide +kernel) (X.2.2.1.2.2.2.2.2.2.2.2.2 (xE 1) (by decide)) h7 h8 h9 ?_
      refine lv_astore (lv' := [(4, .ref q9), (0, .ref (t.2.2.1 0)), (1, .int (iI x1)), (2, .int (iI x2)), (3, .ref (t.2.2.1 39))]) X.1.1 X.1.2.1 dL_eventPick_13 hl (by decide) rfl (fun ls hl => ?_)
      refine x_iconst X dL_eventPick_15 ?_
      exact hret _ _ _ _ _ _ (by decide) (by decide) dL_eventPick_16 (by decide) hG hS
  · rw [if_pos hg0, if_pos hg0] at hret
    rw [← iI_x (iI r)]
    refine x_i2l X (inR_x (iI r)) dL_eventPick_8 ?_
    refine x_last X hG hS q39.1 q39.2 (n := 1) (by decide +kernel) (by decide) (by decide) dL_eventPick_9 (fun H locs hG hS => ?_)
    refine lv_goto (tgt := 17) X.1.1 X.1.2.1 dL_eventPick_10 (by decide) ?_
    refine x_iconst X dL_eventPick_17 ?_
    exact hret _ _ _ _ _ _ (by decide) (by decide) dL_eventPick_18 (by decide) hG hS
abbrev rL_misfit : Room := { frames := rX9_misfit.frames + 1, cells := 3, slots := 18, locals := rX9_misfit.locals + 30 }
set_option maxRecDepth 100000 in
set_option maxHeartbeats 8000000 in
theorem c_L_misfit (l : Launch) (hfl : l.stackTraces = false) (t : gP) (x1 : Int) (x2 : Int) (u : uS) (g : Nat) (r : Int) (u1 : uS) (h : f_X9_misfit x1 x2 u = some (g, r, u1)) (hg : g = 0 ∨ g = 1 ∨ g = 3) : xWi l yL_misfit wsL_misfit rL_misfit t [.ref (t.2.2.1 0), .int (iI x1), .int (iI x2), .ref (t.2.2.1 39)] u (if g = 0 then 0 else if g = 1 then 1 else 2) (if g = 0 then up u1 39 0 (iI r).toInt else u1) 3 18 := by
  refine x_ofWHi (cc := cL_misfit) (maxL := 5) (ret := .int) (own := RL) (by decide) rfl rfl (Nat.le_of_ble_eq_true rfl) ?_
  intro p e s m args below meth c Q X hN htab hret H locs ls hG hS hl
  replace hl : lv_has ls 5 [(0, .ref (t.2.2.1 0)), (1, .int (iI x1)), (2, .int (iI x2)), (3, .ref (t.2.2.1 39))] := hl
  have q0 : 0 < NN ∧ sT 0 = 13 := by decide
  have q39 : 39 < NN ∧ sT 39 = 103 := by decide
  refine lv_aload_n X.1.1 X.1.2.1 dL_misfit_0 rfl (lv_at hl 3 rfl) ?_
  refine x_iconst X dL_misfit_1 ?_
  refine lv_aload_n X.1.1 X.1.2.1 dL_misfit_2 rfl (lv_at hl 0 rfl) ?_
  refine lv_iload_n X.1.1 X.1.2.1 dL_misfit_3 rfl (lv_at hl 1 rfl) ?_
  refine lv_iload_n X.1.1 X.1.2.1 dL_misfit_4 rfl (lv_at hl 2 rfl) ?_
  refine x_callVTi X hG hS (c_X9_misfit l hfl t x1 x2 u g r u1 h) (cwV 2 X.1.2.2.2.2 gL_misfit_X9_misfit rfl rfl rfl hd_X9_misfit ⟨Nat.le_of_ble_eq_true rfl, Nat.le_of_ble_eq_true rfl⟩) q0.1 q0.2 rfl (by decide) (by rfl) hl.1 (Nat.le_of_ble_eq_true rfl) dL_misfit_5 ⟨by decide, by decide⟩ rfl (fun hg0 H locs ce q9 hG hS h7 h8 h9 => ?_) (fun hg0 H locs hG hS => ?_)
  · rw [if_neg hg0, if_neg hg0] at hret
    rcases hg with rfl | rfl | rfl
    · exact absurd rfl hg0
    · refine x_cat (g := 1) X hN htab [] ⟨0, 10, 13, 22⟩ [(⟨0, 10, 17, 49⟩ : ExceptionTableEntry)] rfl (fun z hz => by cases hz) (by decide) (by decide) (by decide +kernel) (X.2.2.1.2.2.2.2.2.2.2.2.2 (xE 1) (by decide)) h7 h8 h9 ?_
      refine lv_astore (lv' := [(4, .ref q9), (0, .ref (t.2.2.1 0)), (1, .int (iI x1)), (2, .int (iI x2)), (3, .ref (t.2.2.1 39))]) X.1.1 X.1.2.1 dL_misfit_13 hl (by decide) rfl (fun ls hl => ?_)
      refine x_iconst X dL_misfit_15 ?_
      exact hret _ _ _ _ _ _ (by decide) (by decide) dL_misfit_16 (by decide) hG hS
    · refine x_cat (g := 3) X hN htab [(⟨0, 10, 13, 22⟩ : ExceptionTableEntry)] ⟨0, 10, 17, 49⟩ [] rfl (fun z hz => (List.mem_cons.mp hz).elim (fun h => by subst h; exact ⟨by decide, xE 1, by decide +kernel, by decide +kernel⟩) (fun hz => by cases hz)) (by decide) (by decide) (by decide +kernel) (X.2.2.1.2.2.2.2.2.2.2.2.2 (xE 3) (by decide)) h7 h8 h9 ?_
      refine lv_astore (lv' := [(4, .ref q9), (0, .ref (t.2.2.1 0)), (1, .int (iI x1)), (2, .int (iI x2)), (3, .ref (t.2.2.1 39))]) X.1.1 X.1.2.1 dL_misfit_17 hl (by decide) rfl (fun ls hl => ?_)
      refine x_iconst X dL_misfit_19 ?_
      exact hret _ _ _ _ _ _ (by decide) (by decide) dL_misfit_20 (by decide) hG hS
  · rw [if_pos hg0, if_pos hg0] at hret
    rw [← iI_x (iI r)]
    refine x_i2l X (inR_x (iI r)) dL_misfit_8 ?_
    refine x_last X hG hS q39.1 q39.2 (n := 1) (by decide +kernel) (by decide) (by decide) dL_misfit_9 (fun H locs hG hS => ?_)
    refine lv_goto (tgt := 21) X.1.1 X.1.2.1 dL_misfit_10 (by decide) ?_
    refine x_iconst X dL_misfit_21 ?_
    exact hret _ _ _ _ _ _ (by decide) (by decide) dL_misfit_22 (by decide) hG hS
abbrev rL_ratioAfter : Room := { frames := rX9_ratioAfter.frames + 1, cells := 3, slots := 18, locals := rX9_ratioAfter.locals + 30 }
set_option maxRecDepth 100000 in
set_option maxHeartbeats 8000000 in
theorem c_L_ratioAfter (l : Launch) (hfl : l.stackTraces = false) (t : gP) (x1 : Int) (x2 : Int) (x3 : Int) (u : uS) (g : Nat) (r : Int) (u1 : uS) (h : f_X9_ratioAfter x1 x2 x3 u = some (g, r, u1)) (hg : g = 0 ∨ g = 1 ∨ g = 2) : xWi l yL_ratioAfter wsL_ratioAfter rL_ratioAfter t [.ref (t.2.2.1 0), .int (iI x1), .int (iI x2), .int (iI x3), .ref (t.2.2.1 39)] u (if g = 0 then 0 else if g = 1 then 1 else 2) (if g = 0 then up u1 39 0 (iI r).toInt else u1) 3 18 := by
  refine x_ofWHi (cc := cL_ratioAfter) (maxL := 6) (ret := .int) (own := RL) (by decide) rfl rfl (Nat.le_of_ble_eq_true rfl) ?_
  intro p e s m args below meth c Q X hN htab hret H locs ls hG hS hl
  replace hl : lv_has ls 6 [(0, .ref (t.2.2.1 0)), (1, .int (iI x1)), (2, .int (iI x2)), (3, .int (iI x3)), (4, .ref (t.2.2.1 39))] := hl
  have q0 : 0 < NN ∧ sT 0 = 13 := by decide
  have q39 : 39 < NN ∧ sT 39 = 103 := by decide
  refine lv_aload X.1.1 X.1.2.1 dL_ratioAfter_0 (lv_at hl 4 rfl) ?_
  refine x_iconst X dL_ratioAfter_2 ?_
  refine lv_aload_n X.1.1 X.1.2.1 dL_ratioAfter_3 rfl (lv_at hl 0 rfl) ?_
  refine lv_iload_n X.1.1 X.1.2.1 dL_ratioAfter_4 rfl (lv_at hl 1 rfl) ?_
  refine lv_iload_n X.1.1 X.1.2.1 dL_ratioAfter_5 rfl (lv_at hl 2 rfl) ?_
  refine lv_iload_n X.1.1 X.1.2.1 dL_ratioAfter_6 rfl (lv_at hl 3 rfl) ?_
  refine x_callVTi X hG hS (c_X9_ratioAfter l hfl t x1 x2 x3 u g r u1 h) (cwV 3 X.1.2.2.2.2 gL_ratioAfter_X9_ratioAfter rfl rfl rfl hd_X9_ratioAfter ⟨Nat.le_of_ble_eq_true rfl, Nat.le_of_ble_eq_true rfl⟩) q0.1 q0.2 rfl (by decide) (by rfl) hl.1 (Nat.le_of_ble_eq_true rfl) dL_ratioAfter_7 ⟨by decide, by decide⟩ rfl (fun hg0 H locs ce q9 hG hS h7 h8 h9 => ?_) (fun hg0 H locs hG hS => ?_)
  · rw [if_neg hg0, if_neg hg0] at hret
    rcases hg with rfl | rfl | rfl
    · exact absurd rfl hg0
    · refine x_cat (g := 1) X hN htab [] ⟨0, 12, 15, 22⟩ [(⟨0, 12, 19, 13⟩ : ExceptionTableEntry)] rfl (fun z hz => by cases hz) (by decide) (by decide) (by decide +kernel) (X.2.2.1.2.2.2.2.2.2.2.2.2 (xE 1) (by decide)) h7 h8 h9 ?_
      refine lv_astore (lv' := [(5, .ref q9), (0, .ref (t.2.2.1 0)), (1, .int (iI x1)), (2, .int (iI x2)), (3, .int (iI x3)), (4, .ref (t.2.2.1 39))]) X.1.1 X.1.2.1 dL_ratioAfter_15 hl (by decide) rfl (fun ls hl => ?_)
      refine x_iconst X dL_ratioAfter_17 ?_
      exact hret _ _ _ _ _ _ (by decide) (by decide) dL_ratioAfter_18 (by decide) hG hS
    · refine x_cat (g := 2) X hN htab [(⟨0, 12, 15, 22⟩ : ExceptionTableEntry)] ⟨0, 12, 19, 13⟩ [] rfl (fun z hz => (List.mem_cons.mp hz).elim (fun h => by subst h; exact ⟨by decide, xE 1, by decide +kernel, by decide +kernel⟩) (fun hz => by cases hz)) (by decide) (by decide) (by decide +kernel) (X.2.2.1.2.2.2.2.2.2.2.2.2 (xE 2) (by decide)) h7 h8 h9 ?_
      refine lv_astore (lv' := [(5, .ref q9), (0, .ref (t.2.2.1 0)), (1, .int (iI x1)), (2, .int (iI x2)), (3, .int (iI x3)), (4, .ref (t.2.2.1 39))]) X.1.1 X.1.2.1 dL_ratioAfter_19 hl (by decide) rfl (fun ls hl => ?_)
      refine x_iconst X dL_ratioAfter_21 ?_
      exact hret _ _ _ _ _ _ (by decide) (by decide) dL_ratioAfter_22 (by decide) hG hS
  · rw [if_pos hg0, if_pos hg0] at hret
    rw [← iI_x (iI r)]
    refine x_i2l X (inR_x (iI r)) dL_ratioAfter_10 ?_
    refine x_last X hG hS q39.1 q39.2 (n := 1) (by decide +kernel) (by decide) (by decide) dL_ratioAfter_11 (fun H locs hG hS => ?_)
    refine lv_goto (tgt := 23) X.1.1 X.1.2.1 dL_ratioAfter_12 (by decide) ?_
    refine x_iconst X dL_ratioAfter_23 ?_
    exact hret _ _ _ _ _ _ (by decide) (by decide) dL_ratioAfter_24 (by decide) hG hS
abbrev rL_eventsWithout : Room := { frames := rX9_eventsWithout.frames + 1, cells := 3, slots := 18, locals := rX9_eventsWithout.locals + 30 }
set_option maxRecDepth 100000 in
set_option maxHeartbeats 8000000 in
theorem c_L_eventsWithout (l : Launch) (hfl : l.stackTraces = false) (t : gP) (x1 : Int) (x2 : Int) (u : uS) (g : Nat) (r : Int) (u1 : uS) (h : f_X9_eventsWithout x1 x2 u = some (g, r, u1)) (hg : g = 0 ∨ g = 1 ∨ g = 2 ∨ g = 3) : xWi l yL_eventsWithout wsL_eventsWithout rL_eventsWithout t [.ref (t.2.2.1 0), .int (iI x1), .int (iI x2), .ref (t.2.2.1 39)] u (if g = 0 then 0 else if g = 1 then 1 else if g = 2 then 2 else 3) (if g = 0 then up u1 39 0 (iI r).toInt else u1) 3 18 := by
  refine x_ofWHi (cc := cL_eventsWithout) (maxL := 5) (ret := .int) (own := RL) (by decide) rfl rfl (Nat.le_of_ble_eq_true rfl) ?_
  intro p e s m args below meth c Q X hN htab hret H locs ls hG hS hl
  replace hl : lv_has ls 5 [(0, .ref (t.2.2.1 0)), (1, .int (iI x1)), (2, .int (iI x2)), (3, .ref (t.2.2.1 39))] := hl
  have q0 : 0 < NN ∧ sT 0 = 13 := by decide
  have q39 : 39 < NN ∧ sT 39 = 103 := by decide
  refine lv_aload_n X.1.1 X.1.2.1 dL_eventsWithout_0 rfl (lv_at hl 3 rfl) ?_
  refine x_iconst X dL_eventsWithout_1 ?_
  refine lv_aload_n X.1.1 X.1.2.1 dL_eventsWithout_2 rfl (lv_at hl 0 rfl) ?_
  refine lv_iload_n X.1.1 X.1.2.1 dL_eventsWithout_3 rfl (lv_at hl 1 rfl) ?_
  refine lv_iload_n X.1.1 X.1.2.1 dL_eventsWithout_4 rfl (lv_at hl 2 rfl) ?_
  refine x_callVTi X hG hS (c_X9_eventsWithout l hfl t x1 x2 u g r u1 h) (cwV 2 X.1.2.2.2.2 gL_eventsWithout_X9_eventsWithout rfl rfl rfl hd_X9_eventsWithout ⟨Nat.le_of_ble_eq_true rfl, Nat.le_of_ble_eq_true rfl⟩) q0.1 q0.2 rfl (by decide) (by rfl) hl.1 (Nat.le_of_ble_eq_true rfl) dL_eventsWithout_5 ⟨by decide, by decide⟩ rfl (fun hg0 H locs ce q9 hG hS h7 h8 h9 => ?_) (fun hg0 H locs hG hS => ?_)
  · rw [if_neg hg0, if_neg hg0] at hret
    rcases hg with rfl | rfl | rfl | rfl
    · exact absurd rfl hg0
    · refine x_cat (g := 1) X hN htab [] ⟨0, 10, 13, 22⟩ [(⟨0, 10, 17, 13⟩ : ExceptionTableEntry), (⟨0, 10, 21, 49⟩ : ExceptionTableEntry)] rfl (fun z hz => by cases hz) (by decide) (by decide) (by decide +kernel) (X.2.2.1.2.2.2.2.2.2.2.2.2 (xE 1) (by decide)) h7 h8 h9 ?_
      refine lv_astore (lv' := [(4, .ref q9), (0, .ref (t.2.2.1 0)), (1, .int (iI x1)), (2, .int (iI x2)), (3, .ref (t.2.2.1 39))]) X.1.1 X.1.2.1 dL_eventsWithout_13 hl (by decide) rfl (fun ls hl => ?_)
      refine x_iconst X dL_eventsWithout_15 ?_
      exact hret _ _ _ _ _ _ (by decide) (by decide) dL_eventsWithout_16 (by decide) hG hS
    · refine x_cat (g := 2) X hN htab [(⟨0, 10, 13, 22⟩ : ExceptionTableEntry)] ⟨0, 10, 17, 13⟩ [(⟨0, 10, 21, 49⟩ : ExceptionTableEntry)] rfl (fun z hz => (List.mem_cons.mp hz).elim (fun h => by subst h; exact ⟨by decide, xE 1, by decide +kernel, by decide +kernel⟩) (fun hz => by cases hz)) (by decide) (by decide) (by decide +kernel) (X.2.2.1.2.2.2.2.2.2.2.2.2 (xE 2) (by decide)) h7 h8 h9 ?_
      refine lv_astore (lv' := [(4, .ref q9), (0, .ref (t.2.2.1 0)), (1, .int (iI x1)), (2, .int (iI x2)), (3, .ref (t.2.2.1 39))]) X.1.1 X.1.2.1 dL_eventsWithout_17 hl (by decide) rfl (fun ls hl => ?_)
      refine x_iconst X dL_eventsWithout_19 ?_
      exact hret _ _ _ _ _ _ (by decide) (by decide) dL_eventsWithout_20 (by decide) hG hS
    · refine x_cat (g := 3) X hN htab [(⟨0, 10, 13, 22⟩ : ExceptionTableEntry), (⟨0, 10, 17, 13⟩ : ExceptionTableEntry)] ⟨0, 10, 21, 49⟩ [] rfl (fun z hz => (List.mem_cons.mp hz).elim (fun h => by subst h; exact ⟨by decide, xE 1, by decide +kernel, by decide +kernel⟩) (fun hz => (List.mem_cons.mp hz).elim (fun h => by subst h; exact ⟨by decide, xE 2, by decide +kernel, by decide +kernel⟩) (fun hz => by cases hz))) (by decide) (by decide) (by decide +kernel) (X.2.2.1.2.2.2.2.2.2.2.2.2 (xE 3) (by decide)) h7 h8 h9 ?_
      refine lv_astore (lv' := [(4, .ref q9), (0, .ref (t.2.2.1 0)), (1, .int (iI x1)), (2, .int (iI x2)), (3, .ref (t.2.2.1 39))]) X.1.1 X.1.2.1 dL_eventsWithout_21 hl (by decide) rfl (fun ls hl => ?_)
      refine x_iconst X dL_eventsWithout_23 ?_
      exact hret _ _ _ _ _ _ (by decide) (by decide) dL_eventsWithout_24 (by decide) hG hS
  · rw [if_pos hg0, if_pos hg0] at hret
    rw [← iI_x (iI r)]
    refine x_i2l X (inR_x (iI r)) dL_eventsWithout_8 ?_
    refine x_last X hG hS q39.1 q39.2 (n := 1) (by decide +kernel) (by decide) (by decide) dL_eventsWithout_9 (fun H locs hG hS => ?_)
    refine lv_goto (tgt := 25) X.1.1 X.1.2.1 dL_eventsWithout_10 (by decide) ?_
    refine x_iconst X dL_eventsWithout_25 ?_
    exact hret _ _ _ _ _ _ (by decide) (by decide) dL_eventsWithout_26 (by decide) hG hS
abbrev rL_setLevel : Room := { frames := rX9_setLevel.frames + 1, cells := 2, slots := 12, locals := rX9_setLevel.locals + 30 }
set_option maxRecDepth 100000 in
set_option maxHeartbeats 8000000 in
theorem c_L_setLevel (l : Launch) (hfl : l.stackTraces = false) (t : gP) (x1 : Int) (x2 : Int) (u : uS) (g : Nat) (r : Int) (u1 : uS) (h : f_X9_setLevel x1 x2 u = some (g, r, u1)) (hg : g = 0 ∨ g = 1 ∨ g = 2) : xWi l yL_setLevel wsL_setLevel rL_setLevel t [.ref (t.2.2.1 0), .int (iI x1), .int (iI x2), .ref (t.2.2.1 39)] u (if g = 0 then 0 else if g = 1 then 1 else 2) (if g = 0 then up u1 39 0 (iI r).toInt else u1) 2 12 := by
  refine x_ofWHi (cc := cL_setLevel) (maxL := 5) (ret := .int) (own := RL) (by decide) rfl rfl (Nat.le_of_ble_eq_true rfl) ?_
  intro p e s m args below meth c Q X hN htab hret H locs ls hG hS hl
  replace hl : lv_has ls 5 [(0, .ref (t.2.2.1 0)), (1, .int (iI x1)), (2, .int (iI x2)), (3, .ref (t.2.2.1 39))] := hl
  have q0 : 0 < NN ∧ sT 0 = 13 := by decide
  have q39 : 39 < NN ∧ sT 39 = 103 := by decide
  refine lv_aload_n X.1.1 X.1.2.1 dL_setLevel_0 rfl (lv_at hl 3 rfl) ?_
  refine x_iconst X dL_setLevel_1 ?_
  refine lv_aload_n X.1.1 X.1.2.1 dL_setLevel_2 rfl (lv_at hl 0 rfl) ?_
  refine lv_iload_n X.1.1 X.1.2.1 dL_setLevel_3 rfl (lv_at hl 1 rfl) ?_
  refine lv_iload_n X.1.1 X.1.2.1 dL_setLevel_4 rfl (lv_at hl 2 rfl) ?_
  refine x_callVTi X hG hS (c_X9_setLevel l hfl t x1 x2 u g r u1 h) (cwV 2 X.1.2.2.2.2 gL_setLevel_X9_setLevel rfl rfl rfl hd_X9_setLevel ⟨Nat.le_of_ble_eq_true rfl, Nat.le_of_ble_eq_true rfl⟩) q0.1 q0.2 rfl (by decide) (by rfl) hl.1 (Nat.le_of_ble_eq_true rfl) dL_setLevel_5 ⟨by decide, by decide⟩ rfl (fun hg0 H locs ce q9 hG hS h7 h8 h9 => ?_) (fun hg0 H locs hG hS => ?_)
  · rw [if_neg hg0, if_neg hg0] at hret
    rcases hg with rfl | rfl | rfl
    · exact absurd rfl hg0
    · refine x_cat (g := 1) X hN htab [] ⟨0, 10, 13, 22⟩ [(⟨0, 10, 17, 13⟩ : ExceptionTableEntry)] rfl (fun z hz => by cases hz) (by decide) (by decide) (by decide +kernel) (X.2.2.1.2.2.2.2.2.2.2.2.2 (xE 1) (by decide)) h7 h8 h9 ?_
      refine lv_astore (lv' := [(4, .ref q9), (0, .ref (t.2.2.1 0)), (1, .int (iI x1)), (2, .int (iI x2)), (3, .ref (t.2.2.1 39))]) X.1.1 X.1.2.1 dL_setLevel_13 hl (by decide) rfl (fun ls hl => ?_)
      refine x_iconst X dL_setLevel_15 ?_
      exact hret _ _ _ _ _ _ (by decide) (by decide) dL_setLevel_16 (by decide) hG hS
    · refine x_cat (g := 2) X hN htab [(⟨0, 10, 13, 22⟩ : ExceptionTableEntry)] ⟨0, 10, 17, 13⟩ [] rfl (fun z hz => (List.mem_cons.mp hz).elim (fun h => by subst h; exact ⟨by decide, xE 1, by decide +kernel, by decide +kernel⟩) (fun hz => by cases hz)) (by decide) (by decide) (by decide +kernel) (X.2.2.1.2.2.2.2.2.2.2.2.2 (xE 2) (by decide)) h7 h8 h9 ?_
      refine lv_astore (lv' := [(4, .ref q9), (0, .ref (t.2.2.1 0)), (1, .int (iI x1)), (2, .int (iI x2)), (3, .ref (t.2.2.1 39))]) X.1.1 X.1.2.1 dL_setLevel_17 hl (by decide) rfl (fun ls hl => ?_)
      refine x_iconst X dL_setLevel_19 ?_
      exact hret _ _ _ _ _ _ (by decide) (by decide) dL_setLevel_20 (by decide) hG hS
  · rw [if_pos hg0, if_pos hg0] at hret
    rw [← iI_x (iI r)]
    refine x_i2l X (inR_x (iI r)) dL_setLevel_8 ?_
    refine x_last X hG hS q39.1 q39.2 (n := 1) (by decide +kernel) (by decide) (by decide) dL_setLevel_9 (fun H locs hG hS => ?_)
    refine lv_goto (tgt := 21) X.1.1 X.1.2.1 dL_setLevel_10 (by decide) ?_
    refine x_iconst X dL_setLevel_21 ?_
    exact hret _ _ _ _ _ _ (by decide) (by decide) dL_setLevel_22 (by decide) hG hS
abbrev rL_pass : Room := { frames := rX9_pass.frames + 1, cells := 2, slots := 12, locals := rX9_pass.locals + 30 }
set_option maxRecDepth 100000 in
set_option maxHeartbeats 8000000 in
theorem c_L_pass (l : Launch) (hfl : l.stackTraces = false) (t : gP) (x1 : Int) (u : uS) (g : Nat) (r : Int) (u1 : uS) (h : f_X9_pass x1 u = some (g, r, u1)) (hg : g = 0 ∨ g = 2 ∨ g = 3) : xWi l yL_pass wsL_pass rL_pass t [.ref (t.2.2.1 0), .int (iI x1), .ref (t.2.2.1 39)] u (if g = 0 then 0 else if g = 2 then 1 else 2) (if g = 0 then up u1 39 0 (iI r).toInt else u1) 2 12 := by
  refine x_ofWHi (cc := cL_pass) (maxL := 4) (ret := .int) (own := RL) (by decide) rfl rfl (Nat.le_of_ble_eq_true rfl) ?_
  intro p e s m args below meth c Q X hN htab hret H locs ls hG hS hl
  replace hl : lv_has ls 4 [(0, .ref (t.2.2.1 0)), (1, .int (iI x1)), (2, .ref (t.2.2.1 39))] := hl
  have q0 : 0 < NN ∧ sT 0 = 13 := by decide
  have q39 : 39 < NN ∧ sT 39 = 103 := by decide
  refine lv_aload_n X.1.1 X.1.2.1 dL_pass_0 rfl (lv_at hl 2 rfl) ?_
  refine x_iconst X dL_pass_1 ?_
  refine lv_aload_n X.1.1 X.1.2.1 dL_pass_2 rfl (lv_at hl 0 rfl) ?_
  refine lv_iload_n X.1.1 X.1.2.1 dL_pass_3 rfl (lv_at hl 1 rfl) ?_
  refine x_callVTi X hG hS (c_X9_pass l hfl t x1 u g r u1 h) (cwV 1 X.1.2.2.2.2 gL_pass_X9_pass rfl rfl rfl hd_X9_pass ⟨Nat.le_of_ble_eq_true rfl, Nat.le_of_ble_eq_true rfl⟩) q0.1 q0.2 rfl (by decide) (by rfl) hl.1 (Nat.le_of_ble_eq_true rfl) dL_pass_4 ⟨by decide, by decide⟩ rfl (fun hg0 H locs ce q9 hG hS h7 h8 h9 => ?_) (fun hg0 H locs hG hS => ?_)
  · rw [if_neg hg0, if_neg hg0] at hret
    rcases hg with rfl | rfl | rfl
    · exact absurd rfl hg0
    · refine x_cat (g := 2) X hN htab [] ⟨0, 9, 12, 13⟩ [(⟨0, 9, 15, 49⟩ : ExceptionTableEntry)] rfl (fun z hz => by cases hz) (by decide) (by decide) (by decide +kernel) (X.2.2.1.2.2.2.2.2.2.2.2.2 (xE 2) (by decide)) h7 h8 h9 ?_
      refine lv_astore_n (lv' := [(3, .ref q9), (0, .ref (t.2.2.1 0)), (1, .int (iI x1)), (2, .ref (t.2.2.1 39))]) X.1.1 X.1.2.1 dL_pass_12 rfl hl (by decide) rfl (fun ls hl => ?_)
      refine x_iconst X dL_pass_13 ?_
      exact hret _ _ _ _ _ _ (by decide) (by decide) dL_pass_14 (by decide) hG hS
    · refine x_cat (g := 3) X hN htab [(⟨0, 9, 12, 13⟩ : ExceptionTableEntry)] ⟨0, 9, 15, 49⟩ [] rfl (fun z hz => (List.mem_cons.mp hz).elim (fun h => by subst h; exact ⟨by decide, xE 2, by decide +kernel, by decide +kernel⟩) (fun hz => by cases hz)) (by decide) (by decide) (by decide +kernel) (X.2.2.1.2.2.2.2.2.2.2.2.2 (xE 3) (by decide)) h7 h8 h9 ?_
      refine lv_astore_n (lv' := [(3, .ref q9), (0, .ref (t.2.2.1 0)), (1, .int (iI x1)), (2, .ref (t.2.2.1 39))]) X.1.1 X.1.2.1 dL_pass_15 rfl hl (by decide) rfl (fun ls hl => ?_)
      refine x_iconst X dL_pass_16 ?_
      exact hret _ _ _ _ _ _ (by decide) (by decide) dL_pass_17 (by decide) hG hS
  · rw [if_pos hg0, if_pos hg0] at hret
    rw [← iI_x (iI r)]
    refine x_i2l X (inR_x (iI r)) dL_pass_7 ?_
    refine x_last X hG hS q39.1 q39.2 (n := 1) (by decide +kernel) (by decide) (by decide) dL_pass_8 (fun H locs hG hS => ?_)
    refine lv_goto (tgt := 18) X.1.1 X.1.2.1 dL_pass_9 (by decide) ?_
    refine x_iconst X dL_pass_18 ?_
    exact hret _ _ _ _ _ _ (by decide) (by decide) dL_pass_19 (by decide) hG hS
abbrev rL_mute : Room := { frames := rX9_mute.frames + 1, cells := 2, slots := 12, locals := rX9_mute.locals + 30 }
set_option maxRecDepth 100000 in
set_option maxHeartbeats 8000000 in
theorem c_L_mute (l : Launch) (hfl : l.stackTraces = false) (t : gP) (x1 : Int) (u : uS) (g : Nat) (r : Int) (u1 : uS) (h : f_X9_mute x1 u = some (g, r, u1)) (hg : g = 0 ∨ g = 1 ∨ g = 3) : xWi l yL_mute wsL_mute rL_mute t [.ref (t.2.2.1 0), .int (iI x1), .ref (t.2.2.1 39)] u (if g = 0 then 0 else if g = 1 then 1 else 2) (if g = 0 then up u1 39 0 (iI r).toInt else u1) 2 12 := by
  refine x_ofWHi (cc := cL_mute) (maxL := 4) (ret := .int) (own := RL) (by decide) rfl rfl (Nat.le_of_ble_eq_true rfl) ?_
  intro p e s m args below meth c Q X hN htab hret H locs ls hG hS hl
  replace hl : lv_has ls 4 [(0, .ref (t.2.2.1 0)), (1, .int (iI x1)), (2, .ref (t.2.2.1 39))] := hl
  have q0 : 0 < NN ∧ sT 0 = 13 := by decide
  have q39 : 39 < NN ∧ sT 39 = 103 := by decide
  refine lv_aload_n X.1.1 X.1.2.1 dL_mute_0 rfl (lv_at hl 2 rfl) ?_
  refine x_iconst X dL_mute_1 ?_
  refine lv_aload_n X.1.1 X.1.2.1 dL_mute_2 rfl (lv_at hl 0 rfl) ?_
  refine lv_iload_n X.1.1 X.1.2.1 dL_mute_3 rfl (lv_at hl 1 rfl) ?_
  refine x_callVTi X hG hS (c_X9_mute l hfl t x1 u g r u1 h) (cwV 1 X.1.2.2.2.2 gL_mute_X9_mute rfl rfl rfl hd_X9_mute ⟨Nat.le_of_ble_eq_true rfl, Nat.le_of_ble_eq_true rfl⟩) q0.1 q0.2 rfl (by decide) (by rfl) hl.1 (Nat.le_of_ble_eq_true rfl) dL_mute_4 ⟨by decide, by decide⟩ rfl (fun hg0 H locs ce q9 hG hS h7 h8 h9 => ?_) (fun hg0 H locs hG hS => ?_)
  · rw [if_neg hg0, if_neg hg0] at hret
    rcases hg with rfl | rfl | rfl
    · exact absurd rfl hg0
    · refine x_cat (g := 1) X hN htab [] ⟨0, 9, 12, 22⟩ [(⟨0, 9, 15, 49⟩ : ExceptionTableEntry)] rfl (fun z hz => by cases hz) (by decide) (by decide) (by decide +kernel) (X.2.2.1.2.2.2.2.2.2.2.2.2 (xE 1) (by decide)) h7 h8 h9 ?_
      refine lv_astore_n (lv' := [(3, .ref q9), (0, .ref (t.2.2.1 0)), (1, .int (iI x1)), (2, .ref (t.2.2.1 39))]) X.1.1 X.1.2.1 dL_mute_12 rfl hl (by decide) rfl (fun ls hl => ?_)
      refine x_iconst X dL_mute_13 ?_
      exact hret _ _ _ _ _ _ (by decide) (by decide) dL_mute_14 (by decide) hG hS
    · refine x_cat (g := 3) X hN htab [(⟨0, 9, 12, 22⟩ : ExceptionTableEntry)] ⟨0, 9, 15, 49⟩ [] rfl (fun z hz => (List.mem_cons.mp hz).elim (fun h => by subst h; exact ⟨by decide, xE 1, by decide +kernel, by decide +kernel⟩) (fun hz => by cases hz)) (by decide) (by decide) (by decide +kernel) (X.2.2.1.2.2.2.2.2.2.2.2.2 (xE 3) (by decide)) h7 h8 h9 ?_
      refine lv_astore_n (lv' := [(3, .ref q9), (0, .ref (t.2.2.1 0)), (1, .int (iI x1)), (2, .ref (t.2.2.1 39))]) X.1.1 X.1.2.1 dL_mute_15 rfl hl (by decide) rfl (fun ls hl => ?_)
      refine x_iconst X dL_mute_16 ?_
      exact hret _ _ _ _ _ _ (by decide) (by decide) dL_mute_17 (by decide) hG hS
  · rw [if_pos hg0, if_pos hg0] at hret
    rw [← iI_x (iI r)]
    refine x_i2l X (inR_x (iI r)) dL_mute_7 ?_
    refine x_last X hG hS q39.1 q39.2 (n := 1) (by decide +kernel) (by decide) (by decide) dL_mute_8 (fun H locs hG hS => ?_)
    refine lv_goto (tgt := 18) X.1.1 X.1.2.1 dL_mute_9 (by decide) ?_
    refine x_iconst X dL_mute_18 ?_
    exact hret _ _ _ _ _ _ (by decide) (by decide) dL_mute_19 (by decide) hG hS
abbrev rL_unmute : Room := { frames := rX9_unmute.frames + 1, cells := 2, slots := 12, locals := rX9_unmute.locals + 30 }
set_option maxRecDepth 100000 in
set_option maxHeartbeats 8000000 in
theorem c_L_unmute (l : Launch) (hfl : l.stackTraces = false) (t : gP) (x1 : Int) (u : uS) (g : Nat) (r : Int) (u1 : uS) (h : f_X9_unmute x1 u = some (g, r, u1)) (hg : g = 0 ∨ g = 1 ∨ g = 3) : xWi l yL_unmute wsL_unmute rL_unmute t [.ref (t.2.2.1 0), .int (iI x1), .ref (t.2.2.1 39)] u (if g = 0 then 0 else if g = 1 then 1 else 2) (if g = 0 then up u1 39 0 (iI r).toInt else u1) 2 12 := by
  refine x_ofWHi (cc := cL_unmute) (maxL := 4) (ret := .int) (own := RL) (by decide) rfl rfl (Nat.le_of_ble_eq_true rfl) ?_
  intro p e s m args below meth c Q X hN htab hret H locs ls hG hS hl
  replace hl : lv_has ls 4 [(0, .ref (t.2.2.1 0)), (1, .int (iI x1)), (2, .ref (t.2.2.1 39))] := hl
  have q0 : 0 < NN ∧ sT 0 = 13 := by decide
  have q39 : 39 < NN ∧ sT 39 = 103 := by decide
  refine lv_aload_n X.1.1 X.1.2.1 dL_unmute_0 rfl (lv_at hl 2 rfl) ?_
  refine x_iconst X dL_unmute_1 ?_
  refine lv_aload_n X.1.1 X.1.2.1 dL_unmute_2 rfl (lv_at hl 0 rfl) ?_
  refine lv_iload_n X.1.1 X.1.2.1 dL_unmute_3 rfl (lv_at hl 1 rfl) ?_
  refine x_callVTi X hG hS (c_X9_unmute l hfl t x1 u g r u1 h) (cwV 1 X.1.2.2.2.2 gL_unmute_X9_unmute rfl rfl rfl hd_X9_unmute ⟨Nat.le_of_ble_eq_true rfl, Nat.le_of_ble_eq_true rfl⟩) q0.1 q0.2 rfl (by decide) (by rfl) hl.1 (Nat.le_of_ble_eq_true rfl) dL_unmute_4 ⟨by decide, by decide⟩ rfl (fun hg0 H locs ce q9 hG hS h7 h8 h9 => ?_) (fun hg0 H locs hG hS => ?_)
  · rw [if_neg hg0, if_neg hg0] at hret
    rcases hg with rfl | rfl | rfl
    · exact absurd rfl hg0
    · refine x_cat (g := 1) X hN htab [] ⟨0, 9, 12, 22⟩ [(⟨0, 9, 15, 49⟩ : ExceptionTableEntry)] rfl (fun z hz => by cases hz) (by decide) (by decide) (by decide +kernel) (X.2.2.1.2.2.2.2.2.2.2.2.2 (xE 1) (by decide)) h7 h8 h9 ?_
      refine lv_astore_n (lv' := [(3, .ref q9), (0, .ref (t.2.2.1 0)), (1, .int (iI x1)), (2, .ref (t.2.2.1 39))]) X.1.1 X.1.2.1 dL_unmute_12 rfl hl (by decide) rfl (fun ls hl => ?_)
      refine x_iconst X dL_unmute_13 ?_
      exact hret _ _ _ _ _ _ (by decide) (by decide) dL_unmute_14 (by decide) hG hS
    · refine x_cat (g := 3) X hN htab [(⟨0, 9, 12, 22⟩ : ExceptionTableEntry)] ⟨0, 9, 15, 49⟩ [] rfl (fun z hz => (List.mem_cons.mp hz).elim (fun h => by subst h; exact ⟨by decide, xE 1, by decide +kernel, by decide +kernel⟩) (fun hz => by cases hz)) (by decide) (by decide) (by decide +kernel) (X.2.2.1.2.2.2.2.2.2.2.2.2 (xE 3) (by decide)) h7 h8 h9 ?_
      refine lv_astore_n (lv' := [(3, .ref q9), (0, .ref (t.2.2.1 0)), (1, .int (iI x1)), (2, .ref (t.2.2.1 39))]) X.1.1 X.1.2.1 dL_unmute_15 rfl hl (by decide) rfl (fun ls hl => ?_)
      refine x_iconst X dL_unmute_16 ?_
      exact hret _ _ _ _ _ _ (by decide) (by decide) dL_unmute_17 (by decide) hG hS
  · rw [if_pos hg0, if_pos hg0] at hret
    rw [← iI_x (iI r)]
    refine x_i2l X (inR_x (iI r)) dL_unmute_7 ?_
    refine x_last X hG hS q39.1 q39.2 (n := 1) (by decide +kernel) (by decide) (by decide) dL_unmute_8 (fun H locs hG hS => ?_)
    refine lv_goto (tgt := 18) X.1.1 X.1.2.1 dL_unmute_9 (by decide) ?_
    refine x_iconst X dL_unmute_18 ?_
    exact hret _ _ _ _ _ _ (by decide) (by decide) dL_unmute_19 (by decide) hG hS
abbrev rL_retract : Room := { frames := rX9_retract.frames + 1, cells := 2, slots := 12, locals := rX9_retract.locals + 30 }
set_option maxRecDepth 100000 in
set_option maxHeartbeats 8000000 in
theorem c_L_retract (l : Launch) (hfl : l.stackTraces = false) (t : gP) (x1 : Int) (u : uS) (g : Nat) (r : Int) (u1 : uS) (h : f_X9_retract x1 u = some (g, r, u1)) (hg : g = 0 ∨ g = 1 ∨ g = 3) : xWi l yL_retract wsL_retract rL_retract t [.ref (t.2.2.1 0), .int (iI x1), .ref (t.2.2.1 39)] u (if g = 0 then 0 else if g = 1 then 1 else 2) (if g = 0 then up u1 39 0 (iI r).toInt else u1) 2 12 := by
  refine x_ofWHi (cc := cL_retract) (maxL := 4) (ret := .int) (own := RL) (by decide) rfl rfl (Nat.le_of_ble_eq_true rfl) ?_
  intro p e s m args below meth c Q X hN htab hret H locs ls hG hS hl
  replace hl : lv_has ls 4 [(0, .ref (t.2.2.1 0)), (1, .int (iI x1)), (2, .ref (t.2.2.1 39))] := hl
  have q0 : 0 < NN ∧ sT 0 = 13 := by decide
  have q39 : 39 < NN ∧ sT 39 = 103 := by decide
  refine lv_aload_n X.1.1 X.1.2.1 dL_retract_0 rfl (lv_at hl 2 rfl) ?_
  refine x_iconst X dL_retract_1 ?_
  refine lv_aload_n X.1.1 X.1.2.1 dL_retract_2 rfl (lv_at hl 0 rfl) ?_
  refine lv_iload_n X.1.1 X.1.2.1 dL_retract_3 rfl (lv_at hl 1 rfl) ?_
  refine x_callVTi X hG hS (c_X9_retract l hfl t x1 u g r u1 h) (cwV 1 X.1.2.2.2.2 gL_retract_X9_retract rfl rfl rfl hd_X9_retract ⟨Nat.le_of_ble_eq_true rfl, Nat.le_of_ble_eq_true rfl⟩) q0.1 q0.2 rfl (by decide) (by rfl) hl.1 (Nat.le_of_ble_eq_true rfl) dL_retract_4 ⟨by decide, by decide⟩ rfl (fun hg0 H locs ce q9 hG hS h7 h8 h9 => ?_) (fun hg0 H locs hG hS => ?_)
  · rw [if_neg hg0, if_neg hg0] at hret
    rcases hg with rfl | rfl | rfl
    · exact absurd rfl hg0
    · refine x_cat (g := 1) X hN htab [] ⟨0, 9, 12, 22⟩ [(⟨0, 9, 15, 49⟩ : ExceptionTableEntry)] rfl (fun z hz => by cases hz) (by decide) (by decide) (by decide +kernel) (X.2.2.1.2.2.2.2.2.2.2.2.2 (xE 1) (by decide)) h7 h8 h9 ?_
      refine lv_astore_n (lv' := [(3, .ref q9), (0, .ref (t.2.2.1 0)), (1, .int (iI x1)), (2, .ref (t.2.2.1 39))]) X.1.1 X.1.2.1 dL_retract_12 rfl hl (by decide) rfl (fun ls hl => ?_)
      refine x_iconst X dL_retract_13 ?_
      exact hret _ _ _ _ _ _ (by decide) (by decide) dL_retract_14 (by decide) hG hS
    · refine x_cat (g := 3) X hN htab [(⟨0, 9, 12, 22⟩ : ExceptionTableEntry)] ⟨0, 9, 15, 49⟩ [] rfl (fun z hz => (List.mem_cons.mp hz).elim (fun h => by subst h; exact ⟨by decide, xE 1, by decide +kernel, by decide +kernel⟩) (fun hz => by cases hz)) (by decide) (by decide) (by decide +kernel) (X.2.2.1.2.2.2.2.2.2.2.2.2 (xE 3) (by decide)) h7 h8 h9 ?_
      refine lv_astore_n (lv' := [(3, .ref q9), (0, .ref (t.2.2.1 0)), (1, .int (iI x1)), (2, .ref (t.2.2.1 39))]) X.1.1 X.1.2.1 dL_retract_15 rfl hl (by decide) rfl (fun ls hl => ?_)
      refine x_iconst X dL_retract_16 ?_
      exact hret _ _ _ _ _ _ (by decide) (by decide) dL_retract_17 (by decide) hG hS
  · rw [if_pos hg0, if_pos hg0] at hret
    rw [← iI_x (iI r)]
    refine x_i2l X (inR_x (iI r)) dL_retract_7 ?_
    refine x_last X hG hS q39.1 q39.2 (n := 1) (by decide +kernel) (by decide) (by decide) dL_retract_8 (fun H locs hG hS => ?_)
    refine lv_goto (tgt := 18) X.1.1 X.1.2.1 dL_retract_9 (by decide) ?_
    refine x_iconst X dL_retract_18 ?_
    exact hret _ _ _ _ _ _ (by decide) (by decide) dL_retract_19 (by decide) hG hS
abbrev rL_saveSnapshot : Room := { frames := rX9_saveSnapshot.frames + 1, cells := 1, slots := 6, locals := rX9_saveSnapshot.locals + 30 }
set_option maxRecDepth 100000 in
set_option maxHeartbeats 8000000 in
theorem c_L_saveSnapshot (l : Launch) (hfl : l.stackTraces = false) (t : gP) (x1 : Int) (u : uS) (g : Nat) (r : Int) (u1 : uS) (h : f_X9_saveSnapshot x1 u = some (g, r, u1)) (hg : g = 0 ∨ g = 1) (hb : r = 0 ∨ r = 1) : xWi l yL_saveSnapshot wsL_saveSnapshot rL_saveSnapshot t [.ref (t.2.2.1 0), .int (iI x1), .ref (t.2.2.1 39)] u (if g = 0 then 0 else 1) (if g = 0 then up u1 39 0 r else u1) 1 6 := by
  refine x_ofWHi (cc := cL_saveSnapshot) (maxL := 4) (ret := .int) (own := RL) (by decide) rfl rfl (Nat.le_of_ble_eq_true rfl) ?_
  intro p e s m args below meth c Q X hN htab hret H locs ls hG hS hl
  replace hl : lv_has ls 4 [(0, .ref (t.2.2.1 0)), (1, .int (iI x1)), (2, .ref (t.2.2.1 39))] := hl
  have q0 : 0 < NN ∧ sT 0 = 13 := by decide
  have q39 : 39 < NN ∧ sT 39 = 103 := by decide
  refine lv_aload_n X.1.1 X.1.2.1 dL_saveSnapshot_0 rfl (lv_at hl 2 rfl) ?_
  refine x_iconst X dL_saveSnapshot_1 ?_
  refine lv_aload_n X.1.1 X.1.2.1 dL_saveSnapshot_2 rfl (lv_at hl 0 rfl) ?_
  refine lv_iload_n X.1.1 X.1.2.1 dL_saveSnapshot_3 rfl (lv_at hl 1 rfl) ?_
  refine x_callVTi X hG hS (c_X9_saveSnapshot l hfl t x1 u g r u1 h) (cwV 1 X.1.2.2.2.2 gL_saveSnapshot_X9_saveSnapshot rfl rfl rfl hd_X9_saveSnapshot ⟨Nat.le_of_ble_eq_true rfl, Nat.le_of_ble_eq_true rfl⟩) q0.1 q0.2 rfl (by decide) (by rfl) hl.1 (Nat.le_of_ble_eq_true rfl) dL_saveSnapshot_4 ⟨by decide, by decide⟩ rfl (fun hg0 H locs ce q9 hG hS h7 h8 h9 => ?_) (fun hg0 H locs hG hS => ?_)
  · rw [if_neg hg0, if_neg hg0] at hret
    rcases hg with rfl | rfl
    · exact absurd rfl hg0
    · refine x_cat (g := 1) X hN htab [] ⟨0, 16, 19, 22⟩ [] rfl (fun z hz => by cases hz) (by decide) (by decide) (by decide +kernel) (X.2.2.1.2.2.2.2.2.2.2.2.2 (xE 1) (by decide)) h7 h8 h9 ?_
      refine lv_astore_n (lv' := [(3, .ref q9), (0, .ref (t.2.2.1 0)), (1, .int (iI x1)), (2, .ref (t.2.2.1 39))]) X.1.1 X.1.2.1 dL_saveSnapshot_19 rfl hl (by decide) rfl (fun ls hl => ?_)
      refine x_iconst X dL_saveSnapshot_20 ?_
      exact hret _ _ _ _ _ _ (by decide) (by decide) dL_saveSnapshot_21 (by decide) hG hS
  · rw [if_pos hg0, if_pos hg0] at hret
    refine x_if_eq (tgt := 14) X (by omega) dL_saveSnapshot_7 (by decide) (fun hz => ?_) (fun hz => ?_)
    · refine x_lconst X dL_saveSnapshot_14 0 rfl ?_
      rw [hz] at hret
      refine x_last X hG hS q39.1 q39.2 (n := 1) (by decide +kernel) (by decide) (by decide) dL_saveSnapshot_15 (fun H locs hG hS => ?_)
      refine lv_goto (tgt := 22) X.1.1 X.1.2.1 dL_saveSnapshot_16 (by decide) ?_
      refine x_iconst X dL_saveSnapshot_22 ?_
      exact hret _ _ _ _ _ _ (by decide) (by decide) dL_saveSnapshot_23 (by decide) hG hS
    · have hz : r = 1 := by omega
      refine x_lconst X dL_saveSnapshot_10 1 rfl ?_
      refine lv_goto (tgt := 15) X.1.1 X.1.2.1 dL_saveSnapshot_11 (by decide) ?_
      rw [hz] at hret
      refine x_last X hG hS q39.1 q39.2 (n := 1) (by decide +kernel) (by decide) (by decide) dL_saveSnapshot_15 (fun H locs hG hS => ?_)
      refine lv_goto (tgt := 22) X.1.1 X.1.2.1 dL_saveSnapshot_16 (by decide) ?_
      refine x_iconst X dL_saveSnapshot_22 ?_
      exact hret _ _ _ _ _ _ (by decide) (by decide) dL_saveSnapshot_23 (by decide) hG hS
abbrev rL_restoreSnapshot : Room := { frames := rX9_restoreSnapshot.frames + 1, cells := 2, slots := 12, locals := rX9_restoreSnapshot.locals + 30 }
set_option maxRecDepth 100000 in
set_option maxHeartbeats 8000000 in
theorem c_L_restoreSnapshot (l : Launch) (hfl : l.stackTraces = false) (t : gP) (x1 : Int) (u : uS) (g : Nat) (r : Int) (u1 : uS) (h : f_X9_restoreSnapshot x1 u = some (g, r, u1)) (hg : g = 0 ∨ g = 1 ∨ g = 3) : xWi l yL_restoreSnapshot wsL_restoreSnapshot rL_restoreSnapshot t [.ref (t.2.2.1 0), .int (iI x1), .ref (t.2.2.1 39)] u (if g = 0 then 0 else if g = 1 then 1 else 2) (if g = 0 then up u1 39 0 (iI r).toInt else u1) 2 12 := by
  refine x_ofWHi (cc := cL_restoreSnapshot) (maxL := 4) (ret := .int) (own := RL) (by decide) rfl rfl (Nat.le_of_ble_eq_true rfl) ?_
  intro p e s m args below meth c Q X hN htab hret H locs ls hG hS hl
  replace hl : lv_has ls 4 [(0, .ref (t.2.2.1 0)), (1, .int (iI x1)), (2, .ref (t.2.2.1 39))] := hl
  have q0 : 0 < NN ∧ sT 0 = 13 := by decide
  have q39 : 39 < NN ∧ sT 39 = 103 := by decide
  refine lv_aload_n X.1.1 X.1.2.1 dL_restoreSnapshot_0 rfl (lv_at hl 2 rfl) ?_
  refine x_iconst X dL_restoreSnapshot_1 ?_
  refine lv_aload_n X.1.1 X.1.2.1 dL_restoreSnapshot_2 rfl (lv_at hl 0 rfl) ?_
  refine lv_iload_n X.1.1 X.1.2.1 dL_restoreSnapshot_3 rfl (lv_at hl 1 rfl) ?_
  refine x_callVTi X hG hS (c_X9_restoreSnapshot l hfl t x1 u g r u1 h) (cwV 1 X.1.2.2.2.2 gL_restoreSnapshot_X9_restoreSnapshot rfl rfl rfl hd_X9_restoreSnapshot ⟨Nat.le_of_ble_eq_true rfl, Nat.le_of_ble_eq_true rfl⟩) q0.1 q0.2 rfl (by decide) (by rfl) hl.1 (Nat.le_of_ble_eq_true rfl) dL_restoreSnapshot_4 ⟨by decide, by decide⟩ rfl (fun hg0 H locs ce q9 hG hS h7 h8 h9 => ?_) (fun hg0 H locs hG hS => ?_)
  · rw [if_neg hg0, if_neg hg0] at hret
    rcases hg with rfl | rfl | rfl
    · exact absurd rfl hg0
    · refine x_cat (g := 1) X hN htab [] ⟨0, 9, 12, 22⟩ [(⟨0, 9, 15, 49⟩ : ExceptionTableEntry)] rfl (fun z hz => by cases hz) (by decide) (by decide) (by decide +kernel) (X.2.2.1.2.2.2.2.2.2.2.2.2 (xE 1) (by decide)) h7 h8 h9 ?_
      refine lv_astore_n (lv' := [(3, .ref q9), (0, .ref (t.2.2.1 0)), (1, .int (iI x1)), (2, .ref (t.2.2.1 39))]) X.1.1 X.1.2.1 dL_restoreSnapshot_12 rfl hl (by decide) rfl (fun ls hl => ?_)
      refine x_iconst X dL_restoreSnapshot_13 ?_
      exact hret _ _ _ _ _ _ (by decide) (by decide) dL_restoreSnapshot_14 (by decide) hG hS
    · refine x_cat (g := 3) X hN htab [(⟨0, 9, 12, 22⟩ : ExceptionTableEntry)] ⟨0, 9, 15, 49⟩ [] rfl (fun z hz => (List.mem_cons.mp hz).elim (fun h => by subst h; exact ⟨by decide, xE 1, by decide +kernel, by decide +kernel⟩) (fun hz => by cases hz)) (by decide) (by decide) (by decide +kernel) (X.2.2.1.2.2.2.2.2.2.2.2.2 (xE 3) (by decide)) h7 h8 h9 ?_
      refine lv_astore_n (lv' := [(3, .ref q9), (0, .ref (t.2.2.1 0)), (1, .int (iI x1)), (2, .ref (t.2.2.1 39))]) X.1.1 X.1.2.1 dL_restoreSnapshot_15 rfl hl (by decide) rfl (fun ls hl => ?_)
      refine x_iconst X dL_restoreSnapshot_16 ?_
      exact hret _ _ _ _ _ _ (by decide) (by decide) dL_restoreSnapshot_17 (by decide) hG hS
  · rw [if_pos hg0, if_pos hg0] at hret
    rw [← iI_x (iI r)]
    refine x_i2l X (inR_x (iI r)) dL_restoreSnapshot_7 ?_
    refine x_last X hG hS q39.1 q39.2 (n := 1) (by decide +kernel) (by decide) (by decide) dL_restoreSnapshot_8 (fun H locs hG hS => ?_)
    refine lv_goto (tgt := 18) X.1.1 X.1.2.1 dL_restoreSnapshot_9 (by decide) ?_
    refine x_iconst X dL_restoreSnapshot_18 ?_
    exact hret _ _ _ _ _ _ (by decide) (by decide) dL_restoreSnapshot_19 (by decide) hG hS
