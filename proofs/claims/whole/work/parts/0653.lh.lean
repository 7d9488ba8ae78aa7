/-! L, part g, 1: the law's calls, one by one -/
section LL1
variable {p : Program} {l : Launch} {e : Env} {s : State} {m : MethodId} {below : List Frame} {meth : Method} {c : Code} {b L : Nat} {xs : Nat → Int32} {Q : State → Prop}
set_option maxRecDepth 100000 in
set_option maxHeartbeats 8000000 in
theorem lc_7 : lC p l e s m below meth c b L xs Q 515 := by
  intro t u i H locs ls cells slots X hN hX hbl ht hL hfl hJ hG hS hl hi hc hs kk
  have q0 : 0 < NN ∧ sT 0 = 13 := by decide
  have q40 : 40 < NN ∧ sT 40 = 14 := by decide
  have q39 : 39 < NN ∧ sT 39 = 103 ∧ sN 39 = 1 := by decide
  replace hl : lv_has ls 7 [(4, .int (iI i)), (3, .ref (t.2.2.1 39)), (2, .ref (t.2.2.1 40)), (1, .ref (t.2.2.1 0)), (0, .ref b)] := hl
  obtain ⟨⟨g, r, u1⟩, hf, k, hok, hm⟩ := jLadder hJ sv_r
  dsimp only at hok hm
  obtain ⟨hg, hk, hkr, hk0⟩ := okA_x hok
  refine lv_aload_n X.1.1 X.1.2.1 dL_law_515 rfl (lv_at hl 3 rfl) ?_
  refine lv_aload_n X.1.1 X.1.2.1 dL_law_516 rfl (lv_at hl 4 rfl) ?_
  refine lv_iload X.1.1 X.1.2.1 dL_law_517 (lv_at hl 0 rfl) ?_
  refine x_iconst X dL_law_519 ?_
  refine x_iadd X dL_law_520 ?_
  refine x_sld X hX hbl ht hS ⟨by omega, by omega⟩ hL dL_law_521 ?_
  refine lv_aload_n X.1.1 X.1.2.1 dL_law_522 rfl (lv_at hl 1 rfl) ?_
  refine x_callWi X hN hG hS (c_L_ladder l hfl t (sv xs (i + 1)) u g r u1 hf hg) (vx_cwSW 3 X.1.2.2.2.2 gL_law_L_ladder rfl rfl rfl hdL_ladder ⟨Nat.le_of_ble_eq_true rfl, Nat.le_of_ble_eq_true rfl⟩) (by rfl) hl.1 (Nat.le_of_ble_eq_true rfl) dL_law_523 ⟨by show cells + 1 ≤ 601024; omega, by show slots + 6 ≤ 7293034; omega⟩ rfl (fun H locs hG hS => ?_)
  rw [hk]
  generalize hw : (if g = 0 then up u1 39 0 (iI r).toInt else u1) = w at hG
  obtain ⟨⟨r2, u2⟩, hm2, e1, e2, e3, hJ2⟩ := hm w (fun d hd => by rw [← hw]; exact w39_o d hd)
  dsimp only at hm2 e1 e2 e3 hJ2
  refine lv_istore (lv' := [(5, .int (iI k)), (4, .int (iI i)), (3, .ref (t.2.2.1 39)), (2, .ref (t.2.2.1 40)), (1, .ref (t.2.2.1 0)), (0, .ref b)]) X.1.1 X.1.2.1 dL_law_526 hl (by decide) rfl (fun ls hl => ?_)
  refine lv_aload_n X.1.1 X.1.2.1 dL_law_528 rfl (lv_at hl 3 rfl) ?_
  refine lv_aload_n X.1.1 X.1.2.1 dL_law_529 rfl (lv_at hl 5 rfl) ?_
  refine lv_iload X.1.1 X.1.2.1 dL_law_530 (lv_at hl 1 rfl) ?_
  refine x_iconst X dL_law_532 ?_
  refine x_iadd X dL_law_533 ?_
  refine x_sld X hX hbl ht hS ⟨by omega, by omega⟩ hL dL_law_534 ?_
  refine x_callVi0 X hG hS (c_X10_ladder l t (sv xs (i + 1)) _ _ _ hm2) (cwV 1 X.1.2.2.2.2 gL_law_X10_ladder rfl rfl rfl hd_X10_ladder ⟨Nat.le_of_ble_eq_true rfl, Nat.le_of_ble_eq_true rfl⟩) q40.1 q40.2 rfl (by decide) (by rfl) hl.1 (Nat.le_of_ble_eq_true rfl) dL_law_535 ⟨by show cells + 1 ≤ 601024; omega, by show slots + 6 ≤ 7293034; omega⟩ rfl (fun H locs hG hS => ?_)
  refine lv_istore (lv' := [(6, .int (iI r2)), (5, .int (iI k)), (4, .int (iI i)), (3, .ref (t.2.2.1 39)), (2, .ref (t.2.2.1 40)), (1, .ref (t.2.2.1 0)), (0, .ref b)]) X.1.1 X.1.2.1 dL_law_538 hl (by decide) rfl (fun ls hl => ?_)
  refine lv_aload_n X.1.1 X.1.2.1 dL_law_540 rfl (lv_at hl 4 rfl) ?_
  refine x_callVi0 X hG hS (c_X10_thrown l t _ _ _ (x_thrown_f u2)) (cwV 0 X.1.2.2.2.2 gL_law_X10_thrown rfl rfl rfl hd_X10_thrown ⟨Nat.le_of_ble_eq_true rfl, Nat.le_of_ble_eq_true rfl⟩) q40.1 q40.2 rfl (by decide) (by rfl) hl.1 (Nat.le_of_ble_eq_true rfl) dL_law_541 ⟨by show cells + 1 ≤ 601024; omega, by show slots + 6 ≤ 7293034; omega⟩ rfl (fun H locs hG hS => ?_)
  rw [e1]
  refine lv_iload X.1.1 X.1.2.1 dL_law_544 (lv_at hl 1 rfl) ?_
  refine lv_icmp_eq (tgt := 551) X.1.1 X.1.2.1 dL_law_546 (by decide) (fun _ => ?_) (fun h => absurd rfl h)
  refine lv_iload X.1.1 X.1.2.1 dL_law_551 (lv_at hl 1 rfl) ?_
  refine x_if_ne (tgt := 568) X hkr dL_law_553 (by decide) (fun _ => ?_) (fun h0 => ?_)
  · refine lv_goto (tgt := 1665) X.1.1 X.1.2.1 dL_law_568 (by decide) ?_
    exact W.widen (k := cells + 13) (n := slots + 1206) (by omega) (by omega) (kk t u2 H locs ls X ht hJ2 hG hS (lv_sub hl [2, 3, 4, 5, 6] rfl))
  · have g0 := hk0 h0
    have er : r2 = r := e2 h0
    have e39 : u2 39 0 = (iI r).toInt := by rw [e3, ← hw]; exact w39_s g0
    refine lv_aload_n X.1.1 X.1.2.1 dL_law_556 rfl (lv_at hl 3 rfl) ?_
    refine x_iconst X dL_law_557 ?_
    refine x_lald X hG q39.1 q39.2.1 q39.2.2 (by decide) (by decide) dL_law_558 ?_
    rw [e39]
    refine lv_iload X.1.1 X.1.2.1 dL_law_559 (lv_at hl 0 rfl) ?_
    rw [er]
    rw [← iI_x (iI r)]
    have ev : ((iI ((iI r).toInt)).toInt) = (iI r).toInt := by rw [iI_x]
    rw [ev]
    have eL : InL (iI r).toInt := ⟨by have := (inR_x (iI r)).1; omega, by have := (inR_x (iI r)).2; omega⟩
    refine x_i2l X (inR_x _) dL_law_561 ?_
    refine x_lcmp X eL eL dL_law_562 ?_
    rw [cmpL_self]
    refine x_if_eq (tgt := 568) X (by decide) dL_law_563 (by decide) (fun _ => ?_) (fun h => absurd rfl h)
    refine lv_goto (tgt := 1665) X.1.1 X.1.2.1 dL_law_568 (by decide) ?_
    exact W.widen (k := cells + 13) (n := slots + 1206) (by omega) (by omega) (kk t u2 H locs ls X ht hJ2 hG hS (lv_sub hl [2, 3, 4, 5, 6] rfl))
set_option maxRecDepth 100000 in
set_option maxHeartbeats 8000000 in
theorem lc_8 : lC p l e s m below meth c b L xs Q 571 := by
  intro t u i H locs ls cells slots X hN hX hbl ht hL hfl hJ hG hS hl hi hc hs kk
  have q0 : 0 < NN ∧ sT 0 = 13 := by decide
  have q40 : 40 < NN ∧ sT 40 = 14 := by decide
  have q39 : 39 < NN ∧ sT 39 = 103 ∧ sN 39 = 1 := by decide
  replace hl : lv_has ls 7 [(4, .int (iI i)), (3, .ref (t.2.2.1 39)), (2, .ref (t.2.2.1 40)), (1, .ref (t.2.2.1 0)), (0, .ref b)] := hl
  obtain ⟨⟨g, r, u1⟩, hf, k, hok, hm⟩ := jStation hJ sv_r sv_r
  dsimp only at hok hm
  obtain ⟨hg, hk, hkr, hk0⟩ := okIA_x hok
  refine lv_aload_n X.1.1 X.1.2.1 dL_law_571 rfl (lv_at hl 3 rfl) ?_
  refine lv_aload_n X.1.1 X.1.2.1 dL_law_572 rfl (lv_at hl 4 rfl) ?_
  refine lv_iload X.1.1 X.1.2.1 dL_law_573 (lv_at hl 0 rfl) ?_
  refine x_iconst X dL_law_575 ?_
  refine x_iadd X dL_law_576 ?_
  refine x_sld X hX hbl ht hS ⟨by omega, by omega⟩ hL dL_law_577 ?_
  refine lv_aload_n X.1.1 X.1.2.1 dL_law_578 rfl (lv_at hl 4 rfl) ?_
  refine lv_iload X.1.1 X.1.2.1 dL_law_579 (lv_at hl 0 rfl) ?_
  refine x_iconst X dL_law_581 ?_
  refine x_iadd X dL_law_582 ?_
  refine x_sld X hX hbl ht hS ⟨by omega, by omega⟩ hL dL_law_583 ?_
  refine lv_aload_n X.1.1 X.1.2.1 dL_law_584 rfl (lv_at hl 1 rfl) ?_
  refine x_callWi X hN hG hS (c_L_station l hfl t (sv xs (i + 1)) (sv xs (i + 2)) u g r u1 hf hg) (vx_cwSW 4 X.1.2.2.2.2 gL_law_L_station rfl rfl rfl hdL_station ⟨Nat.le_of_ble_eq_true rfl, Nat.le_of_ble_eq_true rfl⟩) (by rfl) hl.1 (Nat.le_of_ble_eq_true rfl) dL_law_585 ⟨by show cells + 2 ≤ 601024; omega, by show slots + 12 ≤ 7293034; omega⟩ rfl (fun H locs hG hS => ?_)
  rw [hk]
  generalize hw : (if g = 0 then up u1 39 0 (iI r).toInt else u1) = w at hG
  obtain ⟨⟨r2, u2⟩, hm2, e1, e2, e3, hJ2⟩ := hm w (fun d hd => by rw [← hw]; exact w39_o d hd)
  dsimp only at hm2 e1 e2 e3 hJ2
  refine lv_istore (lv' := [(5, .int (iI k)), (4, .int (iI i)), (3, .ref (t.2.2.1 39)), (2, .ref (t.2.2.1 40)), (1, .ref (t.2.2.1 0)), (0, .ref b)]) X.1.1 X.1.2.1 dL_law_588 hl (by decide) rfl (fun ls hl => ?_)
  refine lv_aload_n X.1.1 X.1.2.1 dL_law_590 rfl (lv_at hl 3 rfl) ?_
  refine lv_aload_n X.1.1 X.1.2.1 dL_law_591 rfl (lv_at hl 5 rfl) ?_
  refine lv_iload X.1.1 X.1.2.1 dL_law_592 (lv_at hl 1 rfl) ?_
  refine x_iconst X dL_law_594 ?_
  refine x_iadd X dL_law_595 ?_
  refine x_sld X hX hbl ht hS ⟨by omega, by omega⟩ hL dL_law_596 ?_
  refine lv_aload_n X.1.1 X.1.2.1 dL_law_597 rfl (lv_at hl 5 rfl) ?_
  refine lv_iload X.1.1 X.1.2.1 dL_law_598 (lv_at hl 1 rfl) ?_
  refine x_iconst X dL_law_600 ?_
  refine x_iadd X dL_law_601 ?_
  refine x_sld X hX hbl ht hS ⟨by omega, by omega⟩ hL dL_law_602 ?_
  refine x_callVi0 X hG hS (c_X10_station l t (sv xs (i + 1)) (sv xs (i + 2)) _ _ _ hm2) (cwV 2 X.1.2.2.2.2 gL_law_X10_station rfl rfl rfl hd_X10_station ⟨Nat.le_of_ble_eq_true rfl, Nat.le_of_ble_eq_true rfl⟩) q40.1 q40.2 rfl (by decide) (by rfl) hl.1 (Nat.le_of_ble_eq_true rfl) dL_law_603 ⟨by show cells + 2 ≤ 601024; omega, by show slots + 12 ≤ 7293034; omega⟩ rfl (fun H locs hG hS => ?_)
  refine lv_istore (lv' := [(6, .int (iI r2)), (5, .int (iI k)), (4, .int (iI i)), (3, .ref (t.2.2.1 39)), (2, .ref (t.2.2.1 40)), (1, .ref (t.2.2.1 0)), (0, .ref b)]) X.1.1 X.1.2.1 dL_law_606 hl (by decide) rfl (fun ls hl => ?_)
  refine lv_aload_n X.1.1 X.1.2.1 dL_law_608 rfl (lv_at hl 4 rfl) ?_
  refine x_callVi0 X hG hS (c_X10_thrown l t _ _ _ (x_thrown_f u2)) (cwV 0 X.1.2.2.2.2 gL_law_X10_thrown rfl rfl rfl hd_X10_thrown ⟨Nat.le_of_ble_eq_true rfl, Nat.le_of_ble_eq_true rfl⟩) q40.1 q40.2 rfl (by decide) (by rfl) hl.1 (Nat.le_of_ble_eq_true rfl) dL_law_609 ⟨by show cells + 2 ≤ 601024; omega, by show slots + 12 ≤ 7293034; omega⟩ rfl (fun H locs hG hS => ?_)
  rw [e1]
  refine lv_iload X.1.1 X.1.2.1 dL_law_612 (lv_at hl 1 rfl) ?_
  refine lv_icmp_eq (tgt := 619) X.1.1 X.1.2.1 dL_law_614 (by decide) (fun _ => ?_) (fun h => absurd rfl h)
  refine lv_iload X.1.1 X.1.2.1 dL_law_619 (lv_at hl 1 rfl) ?_
  refine x_if_ne (tgt := 636) X hkr dL_law_621 (by decide) (fun _ => ?_) (fun h0 => ?_)
  · refine lv_goto (tgt := 1665) X.1.1 X.1.2.1 dL_law_636 (by decide) ?_
    exact W.widen (k := cells + 13) (n := slots + 1206) (by omega) (by omega) (kk t u2 H locs ls X ht hJ2 hG hS (lv_sub hl [2, 3, 4, 5, 6] rfl))
  · have g0 := hk0 h0
    have er : r2 = r := e2 h0
    have e39 : u2 39 0 = (iI r).toInt := by rw [e3, ← hw]; exact w39_s g0
    refine lv_aload_n X.1.1 X.1.2.1 dL_law_624 rfl (lv_at hl 3 rfl) ?_
    refine x_iconst X dL_law_625 ?_
    refine x_lald X hG q39.1 q39.2.1 q39.2.2 (by decide) (by decide) dL_law_626 ?_
    rw [e39]
    refine lv_iload X.1.1 X.1.2.1 dL_law_627 (lv_at hl 0 rfl) ?_
    rw [er]
    rw [← iI_x (iI r)]
    have ev : ((iI ((iI r).toInt)).toInt) = (iI r).toInt := by rw [iI_x]
    rw [ev]
    have eL : InL (iI r).toInt := ⟨by have := (inR_x (iI r)).1; omega, by have := (inR_x (iI r)).2; omega⟩
    refine x_i2l X (inR_x _) dL_law_629 ?_
    refine x_lcmp X eL eL dL_law_630 ?_
    rw [cmpL_self]
    refine x_if_eq (tgt := 636) X (by decide) dL_law_631 (by decide) (fun _ => ?_) (fun h => absurd rfl h)
    refine lv_goto (tgt := 1665) X.1.1 X.1.2.1 dL_law_636 (by decide) ?_
    exact W.widen (k := cells + 13) (n := slots + 1206) (by omega) (by omega) (kk t u2 H locs ls X ht hJ2 hG hS (lv_sub hl [2, 3, 4, 5, 6] rfl))
set_option maxRecDepth 100000 in
set_option maxHeartbeats 8000000 in
theorem lc_9 : lC p l e s m below meth c b L xs Q 639 := by
  intro t u i H locs ls cells slots X hN hX hbl ht hL hfl hJ hG hS hl hi hc hs kk
  have q0 : 0 < NN ∧ sT 0 = 13 := by decide
  have q40 : 40 < NN ∧ sT 40 = 14 := by decide
  have q39 : 39 < NN ∧ sT 39 = 103 ∧ sN 39 = 1 := by decide
  replace hl : lv_has ls 7 [(4, .int (iI i)), (3, .ref (t.2.2.1 39)), (2, .ref (t.2.2.1 40)), (1, .ref (t.2.2.1 0)), (0, .ref b)] := hl
  obtain ⟨⟨r, u1⟩, hf, ⟨r2, u2⟩, hm, e1, e2, hJ2⟩ := jTrig hJ 
  dsimp only at hm e1 e2 hJ2
  subst e1
  refine lv_aload_n X.1.1 X.1.2.1 dL_law_639 rfl (lv_at hl 3 rfl) ?_
  refine x_callVi0 X hG hS (c_X9_triggered l t  _ _ _ hf) (cwV 0 X.1.2.2.2.2 gL_law_X9_triggered rfl rfl rfl hd_X9_triggered ⟨Nat.le_of_ble_eq_true rfl, Nat.le_of_ble_eq_true rfl⟩) q0.1 q0.2 rfl (by decide) (by rfl) hl.1 (Nat.le_of_ble_eq_true rfl) dL_law_640 ⟨by show cells ≤ 601024; omega, by show slots ≤ 7293034; omega⟩ rfl (fun H locs hG hS => ?_)
  refine lv_aload_n X.1.1 X.1.2.1 dL_law_643 rfl (lv_at hl 2 rfl) ?_
  refine x_callVi0 X hG hS (c_X10_triggered l t  _ _ _ hm) (cwV 0 X.1.2.2.2.2 gL_law_X10_triggered rfl rfl rfl hd_X10_triggered ⟨Nat.le_of_ble_eq_true rfl, Nat.le_of_ble_eq_true rfl⟩) q40.1 q40.2 rfl (by decide) (by rfl) hl.1 (Nat.le_of_ble_eq_true rfl) dL_law_644 ⟨by show cells ≤ 601024; omega, by show slots ≤ 7293034; omega⟩ rfl (fun H locs hG hS => ?_)
  refine lv_icmp_eq (tgt := 1665) X.1.1 X.1.2.1 dL_law_647 (by decide) (fun _ => ?_) (fun h => absurd rfl h)
  exact W.widen (k := cells + 13) (n := slots + 1206) (by omega) (by omega) (kk t u2 H locs ls X ht hJ2 hG hS hl)
set_option maxRecDepth 100000 in
set_option maxHeartbeats 8000000 in
theorem lc_10 : lC p l e s m below meth c b L xs Q 652 := by
  intro t u i H locs ls cells slots X hN hX hbl ht hL hfl hJ hG hS hl hi hc hs kk
  have q0 : 0 < NN ∧ sT 0 = 13 := by decide
  have q40 : 40 < NN ∧ sT 40 = 14 := by decide
  have q39 : 39 < NN ∧ sT 39 = 103 ∧ sN 39 = 1 := by decide
  replace hl : lv_has ls 7 [(4, .int (iI i)), (3, .ref (t.2.2.1 39)), (2, .ref (t.2.2.1 40)), (1, .ref (t.2.2.1 0)), (0, .ref b)] := hl
  obtain ⟨⟨g, r, u1⟩, hf, k, hok, hm⟩ := jPick hJ sv_r sv_r
  dsimp only at hok hm
  obtain ⟨hg, hk, hkr, hk0⟩ := okIA_x hok
  refine lv_aload_n X.1.1 X.1.2.1 dL_law_652 rfl (lv_at hl 3 rfl) ?_
  refine lv_aload_n X.1.1 X.1.2.1 dL_law_653 rfl (lv_at hl 4 rfl) ?_
  refine lv_iload X.1.1 X.1.2.1 dL_law_654 (lv_at hl 0 rfl) ?_
  refine x_iconst X dL_law_656 ?_
  refine x_iadd X dL_law_657 ?_
  refine x_sld X hX hbl ht hS ⟨by omega, by omega⟩ hL dL_law_658 ?_
  refine lv_aload_n X.1.1 X.1.2.1 dL_law_659 rfl (lv_at hl 4 rfl) ?_
  refine lv_iload X.1.1 X.1.2.1 dL_law_660 (lv_at hl 0 rfl) ?_
  refine x_iconst X dL_law_662 ?_
  refine x_iadd X dL_law_663 ?_
  refine x_sld X hX hbl ht hS ⟨by omega, by omega⟩ hL dL_law_664 ?_
  refine lv_aload_n X.1.1 X.1.2.1 dL_law_665 rfl (lv_at hl 1 rfl) ?_
  refine x_callWi X hN hG hS (c_L_pick l hfl t (sv xs (i + 1)) (sv xs (i + 2)) u g r u1 hf hg) (vx_cwSW 4 X.1.2.2.2.2 gL_law_L_pick rfl rfl rfl hdL_pick ⟨Nat.le_of_ble_eq_true rfl, Nat.le_of_ble_eq_true rfl⟩) (by rfl) hl.1 (Nat.le_of_ble_eq_true rfl) dL_law_666 ⟨by show cells + 2 ≤ 601024; omega, by show slots + 12 ≤ 7293034; omega⟩ rfl (fun H locs hG hS => ?_)
  rw [hk]
  generalize hw : (if g = 0 then up u1 39 0 (iI r).toInt else u1) = w at hG
  obtain ⟨⟨r2, u2⟩, hm2, e1, e2, e3, hJ2⟩ := hm w (fun d hd => by rw [← hw]; exact w39_o d hd)
  dsimp only at hm2 e1 e2 e3 hJ2
  refine lv_istore (lv' := [(5, .int (iI k)), (4, .int (iI i)), (3, .ref (t.2.2.1 39)), (2, .ref (t.2.2.1 40)), (1, .ref (t.2.2.1 0)), (0, .ref b)]) X.1.1 X.1.2.1 dL_law_669 hl (by decide) rfl (fun ls hl => ?_)
  refine lv_aload_n X.1.1 X.1.2.1 dL_law_671 rfl (lv_at hl 3 rfl) ?_
  refine lv_aload_n X.1.1 X.1.2.1 dL_law_672 rfl (lv_at hl 5 rfl) ?_
  refine lv_iload X.1.1 X.1.2.1 dL_law_673 (lv_at hl 1 rfl) ?_
  refine x_iconst X dL_law_675 ?_
  refine x_iadd X dL_law_676 ?_
  refine x_sld X hX hbl ht hS ⟨by omega, by omega⟩ hL dL_law_677 ?_
  refine lv_aload_n X.1.1 X.1.2.1 dL_law_678 rfl (lv_at hl 5 rfl) ?_
  refine lv_iload X.1.1 X.1.2.1 dL_law_679 (lv_at hl 1 rfl) ?_
  refine x_iconst X dL_law_681 ?_
  refine x_iadd X dL_law_682 ?_
  refine x_sld X hX hbl ht hS ⟨by omega, by omega⟩ hL dL_law_683 ?_
  refine x_callVi0 X hG hS (c_X10_pick l t (sv xs (i + 1)) (sv xs (i + 2)) _ _ _ hm2) (cwV 2 X.1.2.2.2.2 gL_law_X10_pick rfl rfl rfl hd_X10_pick ⟨Nat.le_of_ble_eq_true rfl, Nat.le_of_ble_eq_true rfl⟩) q40.1 q40.2 rfl (by decide) (by rfl) hl.1 (Nat.le_of_ble_eq_true rfl) dL_law_684 ⟨by show cells + 2 ≤ 601024; omega, by show slots + 12 ≤ 7293034; omega⟩ rfl (fun H locs hG hS => ?_)
  refine lv_istore (lv' := [(6, .int (iI r2)), (5, .int (iI k)), (4, .int (iI i)), (3, .ref (t.2.2.1 39)), (2, .ref (t.2.2.1 40)), (1, .ref (t.2.2.1 0)), (0, .ref b)]) X.1.1 X.1.2.1 dL_law_687 hl (by decide) rfl (fun ls hl => ?_)
  refine lv_aload_n X.1.1 X.1.2.1 dL_law_689 rfl (lv_at hl 4 rfl) ?_
  refine x_callVi0 X hG hS (c_X10_thrown l t _ _ _ (x_thrown_f u2)) (cwV 0 X.1.2.2.2.2 gL_law_X10_thrown rfl rfl rfl hd_X10_thrown ⟨Nat.le_of_ble_eq_true rfl, Nat.le_of_ble_eq_true rfl⟩) q40.1 q40.2 rfl (by decide) (by rfl) hl.1 (Nat.le_of_ble_eq_true rfl) dL_law_690 ⟨by show cells + 2 ≤ 601024; omega, by show slots + 12 ≤ 7293034; omega⟩ rfl (fun H locs hG hS => ?_)
  rw [e1]
  refine lv_iload X.1.1 X.1.2.1 dL_law_693 (lv_at hl 1 rfl) ?_
  refine lv_icmp_eq (tgt := 700) X.1.1 X.1.2.1 dL_law_695 (by decide) (fun _ => ?_) (fun h => absurd rfl h)
  refine lv_iload X.1.1 X.1.2.1 dL_law_700 (lv_at hl 1 rfl) ?_
  refine x_if_ne (tgt := 717) X hkr dL_law_702 (by decide) (fun _ => ?_) (fun h0 => ?_)
  · refine lv_goto (tgt := 1665) X.1.1 X.1.2.1 dL_law_717 (by decide) ?_
    exact W.widen (k := cells + 13) (n := slots + 1206) (by omega) (by omega) (kk t u2 H locs ls X ht hJ2 hG hS (lv_sub hl [2, 3, 4, 5, 6] rfl))
  · have g0 := hk0 h0
    have er : r2 = r := e2 h0
    have e39 : u2 39 0 = (iI r).toInt := by rw [e3, ← hw]; exact w39_s g0
    refine lv_aload_n X.1.1 X.1.2.1 dL_law_705 rfl (lv_at hl 3 rfl) ?_
    refine x_iconst X dL_law_706 ?_
    refine x_lald X hG q39.1 q39.2.1 q39.2.2 (by decide) (by decide) dL_law_707 ?_
    rw [e39]
    refine lv_iload X.1.1 X.1.2.1 dL_law_708 (lv_at hl 0 rfl) ?_
    rw [er]
    rw [← iI_x (iI r)]
    have ev : ((iI ((iI r).toInt)).toInt) = (iI r).toInt := by rw [iI_x]
    rw [ev]
    have eL : InL (iI r).toInt := ⟨by have := (inR_x (iI r)).1; omega, by have := (inR_x (iI r)).2; omega⟩
    refine x_i2l X (inR_x _) dL_law_710 ?_
    refine x_lcmp X eL eL dL_law_711 ?_
    rw [cmpL_self]
    refine x_if_eq (tgt := 717) X (by decide) dL_law_712 (by decide) (fun _ => ?_) (fun h => absurd rfl h)
    refine lv_goto (tgt := 1665) X.1.1 X.1.2.1 dL_law_717 (by decide) ?_
    exact W.widen (k := cells + 13) (n := slots + 1206) (by omega) (by omega) (kk t u2 H locs ls X ht hJ2 hG hS (lv_sub hl [2, 3, 4, 5, 6] rfl))
set_option maxRecDepth 100000 in
set_option maxHeartbeats 8000000 in
theorem lc_11 : lC p l e s m below meth c b L xs Q 720 := by
  intro t u i H locs ls cells slots X hN hX hbl ht hL hfl hJ hG hS hl hi hc hs kk
  have q0 : 0 < NN ∧ sT 0 = 13 := by decide
  have q40 : 40 < NN ∧ sT 40 = 14 := by decide
  have q39 : 39 < NN ∧ sT 39 = 103 ∧ sN 39 = 1 := by decide
  replace hl : lv_has ls 7 [(4, .int (iI i)), (3, .ref (t.2.2.1 39)), (2, .ref (t.2.2.1 40)), (1, .ref (t.2.2.1 0)), (0, .ref b)] := hl
  obtain ⟨⟨g, r, u1⟩, hf, k, hok, hm⟩ := jFits hJ sv_r sv_r
  dsimp only at hok hm
  obtain ⟨hg, hk, hkr, hk0⟩ := okI_x hok
  have hb : r = 0 ∨ r = 1 := by
    obtain ⟨z, hz, hz2⟩ := bFits hJ sv_r sv_r
    rw [hf] at hz
    cases hz
    exact hz2
  refine lv_aload_n X.1.1 X.1.2.1 dL_law_720 rfl (lv_at hl 3 rfl) ?_
  refine lv_aload_n X.1.1 X.1.2.1 dL_law_721 rfl (lv_at hl 4 rfl) ?_
  refine lv_iload X.1.1 X.1.2.1 dL_law_722 (lv_at hl 0 rfl) ?_
  refine x_iconst X dL_law_724 ?_
  refine x_iadd X dL_law_725 ?_
  refine x_sld X hX hbl ht hS ⟨by omega, by omega⟩ hL dL_law_726 ?_
  refine lv_aload_n X.1.1 X.1.2.1 dL_law_727 rfl (lv_at hl 4 rfl) ?_
  refine lv_iload X.1.1 X.1.2.1 dL_law_728 (lv_at hl 0 rfl) ?_
  refine x_iconst X dL_law_730 ?_
  refine x_iadd X dL_law_731 ?_
  refine x_sld X hX hbl ht hS ⟨by omega, by omega⟩ hL dL_law_732 ?_
  refine lv_aload_n X.1.1 X.1.2.1 dL_law_733 rfl (lv_at hl 1 rfl) ?_
  refine x_callWi X hN hG hS (c_L_fits l hfl t (sv xs (i + 1)) (sv xs (i + 2)) u g r u1 hf hg hb) (vx_cwSW 4 X.1.2.2.2.2 gL_law_L_fits rfl rfl rfl hdL_fits ⟨Nat.le_of_ble_eq_true rfl, Nat.le_of_ble_eq_true rfl⟩) (by rfl) hl.1 (Nat.le_of_ble_eq_true rfl) dL_law_734 ⟨by show cells + 2 ≤ 601024; omega, by show slots + 12 ≤ 7293034; omega⟩ rfl (fun H locs hG hS => ?_)
  rw [hk]
  generalize hw : (if g = 0 then up u1 39 0 r else u1) = w at hG
  obtain ⟨⟨r2, u2⟩, hm2, e1, e2, e3, hJ2⟩ := hm w (fun d hd => by rw [← hw]; exact w39_o d hd)
  dsimp only at hm2 e1 e2 e3 hJ2
  refine lv_istore (lv' := [(5, .int (iI k)), (4, .int (iI i)), (3, .ref (t.2.2.1 39)), (2, .ref (t.2.2.1 40)), (1, .ref (t.2.2.1 0)), (0, .ref b)]) X.1.1 X.1.2.1 dL_law_737 hl (by decide) rfl (fun ls hl => ?_)
  refine lv_aload_n X.1.1 X.1.2.1 dL_law_739 rfl (lv_at hl 3 rfl) ?_
  refine lv_aload_n X.1.1 X.1.2.1 dL_law_740 rfl (lv_at hl 5 rfl) ?_
  refine lv_iload X.1.1 X.1.2.1 dL_law_741 (lv_at hl 1 rfl) ?_
  refine x_iconst X dL_law_743 ?_
  refine x_iadd X dL_law_744 ?_
  refine x_sld X hX hbl ht hS ⟨by omega, by omega⟩ hL dL_law_745 ?_
  refine lv_aload_n X.1.1 X.1.2.1 dL_law_746 rfl (lv_at hl 5 rfl) ?_
  refine lv_iload X.1.1 X.1.2.1 dL_law_747 (lv_at hl 1 rfl) ?_
  refine x_iconst X dL_law_749 ?_
  refine x_iadd X dL_law_750 ?_
  refine x_sld X hX hbl ht hS ⟨by omega, by omega⟩ hL dL_law_751 ?_
  refine x_callVi0 X hG hS (c_X10_fits l t (sv xs (i + 1)) (sv xs (i + 2)) _ _ _ hm2) (cwV 2 X.1.2.2.2.2 gL_law_X10_fits rfl rfl rfl hd_X10_fits ⟨Nat.le_of_ble_eq_true rfl, Nat.le_of_ble_eq_true rfl⟩) q40.1 q40.2 rfl (by decide) (by rfl) hl.1 (Nat.le_of_ble_eq_true rfl) dL_law_752 ⟨by show cells + 2 ≤ 601024; omega, by show slots + 12 ≤ 7293034; omega⟩ rfl (fun H locs hG hS => ?_)
  refine lv_istore (lv' := [(6, .int (iI r2)), (5, .int (iI k)), (4, .int (iI i)), (3, .ref (t.2.2.1 39)), (2, .ref (t.2.2.1 40)), (1, .ref (t.2.2.1 0)), (0, .ref b)]) X.1.1 X.1.2.1 dL_law_755 hl (by decide) rfl (fun ls hl => ?_)
  refine lv_aload_n X.1.1 X.1.2.1 dL_law_757 rfl (lv_at hl 4 rfl) ?_
  refine x_callVi0 X hG hS (c_X10_thrown l t _ _ _ (x_thrown_f u2)) (cwV 0 X.1.2.2.2.2 gL_law_X10_thrown rfl rfl rfl hd_X10_thrown ⟨Nat.le_of_ble_eq_true rfl, Nat.le_of_ble_eq_true rfl⟩) q40.1 q40.2 rfl (by decide) (by rfl) hl.1 (Nat.le_of_ble_eq_true rfl) dL_law_758 ⟨by show cells + 2 ≤ 601024; omega, by show slots + 12 ≤ 7293034; omega⟩ rfl (fun H locs hG hS => ?_)
  rw [e1]
  refine lv_iload X.1.1 X.1.2.1 dL_law_761 (lv_at hl 1 rfl) ?_
  refine lv_icmp_eq (tgt := 768) X.1.1 X.1.2.1 dL_law_763 (by decide) (fun _ => ?_) (fun h => absurd rfl h)
  refine lv_iload X.1.1 X.1.2.1 dL_law_768 (lv_at hl 1 rfl) ?_
  refine x_if_ne (tgt := 792) X hkr dL_law_770 (by decide) (fun _ => ?_) (fun h0 => ?_)
  · refine lv_goto (tgt := 1665) X.1.1 X.1.2.1 dL_law_792 (by decide) ?_
    exact W.widen (k := cells + 13) (n := slots + 1206) (by omega) (by omega) (kk t u2 H locs ls X ht hJ2 hG hS (lv_sub hl [2, 3, 4, 5, 6] rfl))
  · have g0 := hk0 h0
    have er : r2 = r := e2 h0
    have e39 : u2 39 0 = r := by rw [e3, ← hw]; exact w39_s g0
    refine lv_aload_n X.1.1 X.1.2.1 dL_law_773 rfl (lv_at hl 3 rfl) ?_
    refine x_iconst X dL_law_774 ?_
    refine x_lald X hG q39.1 q39.2.1 q39.2.2 (by decide) (by decide) dL_law_775 ?_
    rw [e39]
    refine lv_iload X.1.1 X.1.2.1 dL_law_776 (lv_at hl 0 rfl) ?_
    rw [er]
    have KK : ∀ q : Int, r = q → W p l e room_1 s m #[.ref b] below meth c H _ (cells + 2) (slots + 12) Q (F0 m 786 ls [.long (lI q), .long (lI r)]) := fun q hq => by
      subst hq
      refine x_lcmp X (by rcases hb with h | h <;> rw [h] <;> decide) (by rcases hb with h | h <;> rw [h] <;> decide) dL_law_786 ?_
      rw [cmpL_self]
      refine x_if_eq (tgt := 792) X (by decide) dL_law_787 (by decide) (fun _ => ?_) (fun h => absurd rfl h)
      refine lv_goto (tgt := 1665) X.1.1 X.1.2.1 dL_law_792 (by decide) ?_
      exact W.widen (k := cells + 13) (n := slots + 1206) (by omega) (by omega) (kk t u2 H locs ls X ht hJ2 hG hS (lv_sub hl [2, 3, 4, 5, 6] rfl))
    refine x_if_eq (tgt := 785) X (by rcases hb with h | h <;> rw [h] <;> decide) dL_law_778 (by decide) (fun h1 => ?_) (fun h1 => ?_)
    · refine x_lconst X dL_law_785 0 rfl ?_
      exact KK 0 h1
    · refine x_lconst X dL_law_781 1 rfl ?_
      refine lv_goto (tgt := 786) X.1.1 X.1.2.1 dL_law_782 (by decide) ?_
      exact KK 1 (by omega)
set_option maxRecDepth 100000 in
set_option maxHeartbeats 8000000 in
theorem lc_12 : lC p l e s m below meth c b L xs Q 795 := by
  intro t u i H locs ls cells slots X hN hX hbl ht hL hfl hJ hG hS hl hi hc hs kk
  have q0 : 0 < NN ∧ sT 0 = 13 := by decide
  have q40 : 40 < NN ∧ sT 40 = 14 := by decide
  have q39 : 39 < NN ∧ sT 39 = 103 ∧ sN 39 = 1 := by decide
  replace hl : lv_has ls 7 [(4, .int (iI i)), (3, .ref (t.2.2.1 39)), (2, .ref (t.2.2.1 40)), (1, .ref (t.2.2.1 0)), (0, .ref b)] := hl
  obtain ⟨⟨g, r, u1⟩, hf, k, hok, hm⟩ := jEvent hJ sv_r sv_r
  dsimp only at hok hm
  obtain ⟨hg, hk, hkr, hk0⟩ := okIA_x hok
  refine lv_aload_n X.1.1 X.1.2.1 dL_law_795 rfl (lv_at hl 3 rfl) ?_
  refine lv_aload_n X.1.1 X.1.2.1 dL_law_796 rfl (lv_at hl 4 rfl) ?_
  refine lv_iload X.1.1 X.1.2.1 dL_law_797 (lv_at hl 0 rfl) ?_
  refine x_iconst X dL_law_799 ?_
  refine x_iadd X dL_law_800 ?_
  refine x_sld X hX hbl ht hS ⟨by omega, by omega⟩ hL dL_law_801 ?_
  refine lv_aload_n X.1.1 X.1.2.1 dL_law_802 rfl (lv_at hl 4 rfl) ?_
  refine lv_iload X.1.1 X.1.2.1 dL_law_803 (lv_at hl 0 rfl) ?_
  refine x_iconst X dL_law_805 ?_
  refine x_iadd X dL_law_806 ?_
  refine x_sld X hX hbl ht hS ⟨by omega, by omega⟩ hL dL_law_807 ?_
  refine lv_aload_n X.1.1 X.1.2.1 dL_law_808 rfl (lv_at hl 1 rfl) ?_
  refine x_callWi X hN hG hS (c_L_event l hfl t (sv xs (i + 1)) (sv xs (i + 2)) u g r u1 hf hg) (vx_cwSW 4 X.1.2.2.2.2 gL_law_L_event rfl rfl rfl hdL_event ⟨Nat.le_of_ble_eq_true rfl, Nat.le_of_ble_eq_true rfl⟩) (by rfl) hl.1 (Nat.le_of_ble_eq_true rfl) dL_law_809 ⟨by show cells + 2 ≤ 601024; omega, by show slots + 12 ≤ 7293034; omega⟩ rfl (fun H locs hG hS => ?_)
  rw [hk]
  generalize hw : (if g = 0 then up u1 39 0 (iI r).toInt else u1) = w at hG
  obtain ⟨⟨r2, u2⟩, hm2, e1, e2, e3, hJ2⟩ := hm w (fun d hd => by rw [← hw]; exact w39_o d hd)
  dsimp only at hm2 e1 e2 e3 hJ2
  refine lv_istore (lv' := [(5, .int (iI k)), (4, .int (iI i)), (3, .ref (t.2.2.1 39)), (2, .ref (t.2.2.1 40)), (1, .ref (t.2.2.1 0)), (0, .ref b)]) X.1.1 X.1.2.1 dL_law_812 hl (by decide) rfl (fun ls hl => ?_)
  refine lv_aload_n X.1.1 X.1.2.1 dL_law_814 rfl (lv_at hl 3 rfl) ?_
  refine lv_aload_n X.1.1 X.1.2.1 dL_law_815 rfl (lv_at hl 5 rfl) ?_
  refine lv_iload X.1.1 X.1.2.1 dL_law_816 (lv_at hl 1 rfl) ?_
  refine x_iconst X dL_law_818 ?_
  refine x_iadd X dL_law_819 ?_
  refine x_sld X hX hbl ht hS ⟨by omega, by omega⟩ hL dL_law_820 ?_
  refine lv_aload_n X.1.1 X.1.2.1 dL_law_821 rfl (lv_at hl 5 rfl) ?_
  refine lv_iload X.1.1 X.1.2.1 dL_law_822 (lv_at hl 1 rfl) ?_
  refine x_iconst X dL_law_824 ?_
  refine x_iadd X dL_law_825 ?_
  refine x_sld X hX hbl ht hS ⟨by omega, by omega⟩ hL dL_law_826 ?_
  refine x_callVi0 X hG hS (c_X10_event l t (sv xs (i + 1)) (sv xs (i + 2)) _ _ _ hm2) (cwV 2 X.1.2.2.2.2 gL_law_X10_event rfl rfl rfl hd_X10_event ⟨Nat.le_of_ble_eq_true rfl, Nat.le_of_ble_eq_true rfl⟩) q40.1 q40.2 rfl (by decide) (by rfl) hl.1 (Nat.le_of_ble_eq_true rfl) dL_law_827 ⟨by show cells + 2 ≤ 601024; omega, by show slots + 12 ≤ 7293034; omega⟩ rfl (fun H locs hG hS => ?_)
  refine lv_istore (lv' := [(6, .int (iI r2)), (5, .int (iI k)), (4, .int (iI i)), (3, .ref (t.2.2.1 39)), (2, .ref (t.2.2.1 40)), (1, .ref (t.2.2.1 0)), (0, .ref b)]) X.1.1 X.1.2.1 dL_law_830 hl (by decide) rfl (fun ls hl => ?_)
  refine lv_aload_n X.1.1 X.1.2.1 dL_law_832 rfl (lv_at hl 4 rfl) ?_
  refine x_callVi0 X hG hS (c_X10_thrown l t _ _ _ (x_thrown_f u2)) (cwV 0 X.1.2.2.2.2 gL_law_X10_thrown rfl rfl rfl hd_X10_thrown ⟨Nat.le_of_ble_eq_true rfl, Nat.le_of_ble_eq_true rfl⟩) q40.1 q40.2 rfl (by decide) (by rfl) hl.1 (Nat.le_of_ble_eq_true rfl) dL_law_833 ⟨by show cells + 2 ≤ 601024; omega, by show slots + 12 ≤ 7293034; omega⟩ rfl (fun H locs hG hS => ?_)
  rw [e1]
  refine lv_iload X.1.1 X.1.2.1 dL_law_836 (lv_at hl 1 rfl) ?_
  refine lv_icmp_eq (tgt := 843) X.1.1 X.1.2.1 dL_law_838 (by decide) (fun _ => ?_) (fun h => absurd rfl h)
  refine lv_iload X.1.1 X.1.2.1 dL_law_843 (lv_at hl 1 rfl) ?_
  refine x_if_ne (tgt := 860) X hkr dL_law_845 (by decide) (fun _ => ?_) (fun h0 => ?_)
  · refine lv_goto (tgt := 1665) X.1.1 X.1.2.1 dL_law_860 (by decide) ?_
    exact W.widen (k := cells + 13) (n := slots + 1206) (by omega) (by omega) (kk t u2 H locs ls X ht hJ2 hG hS (lv_sub hl [2, 3, 4, 5, 6] rfl))
  · have g0 := hk0 h0
    have er : r2 = r := e2 h0
    have e39 : u2 39 0 = (iI r).toInt := by rw [e3, ← hw]; exact w39_s g0
    refine lv_aload_n X.1.1 X.1.2.1 dL_law_848 rfl (lv_at hl 3 rfl) ?_
    refine x_iconst X dL_law_849 ?_
    refine x_lald X hG q39.1 q39.2.1 q39.2.2 (by decide) (by decide) dL_law_850 ?_
    rw [e39]
    refine lv_iload X.1.1 X.1.2.1 dL_law_851 (lv_at hl 0 rfl) ?_
    rw [er]
    rw [← iI_x (iI r)]
    have ev : ((iI ((iI r).toInt)).toInt) = (iI r).toInt := by rw [iI_x]
    rw [ev]
    have eL : InL (iI r).toInt := ⟨by have := (inR_x (iI r)).1; omega, by have := (inR_x (iI r)).2; omega⟩
    refine x_i2l X (inR_x _) dL_law_853 ?_
    refine x_lcmp X eL eL dL_law_854 ?_
    rw [cmpL_self]
    refine x_if_eq (tgt := 860) X (by decide) dL_law_855 (by decide) (fun _ => ?_) (fun h => absurd rfl h)
    refine lv_goto (tgt := 1665) X.1.1 X.1.2.1 dL_law_860 (by decide) ?_
    exact W.widen (k := cells + 13) (n := slots + 1206) (by omega) (by omega) (kk t u2 H locs ls X ht hJ2 hG hS (lv_sub hl [2, 3, 4, 5, 6] rfl))
set_option maxRecDepth 100000 in
set_option maxHeartbeats 8000000 in
theorem lc_13 : lC p l e s m below meth c b L xs Q 863 := by
  intro t u i H locs ls cells slots X hN hX hbl ht hL hfl hJ hG hS hl hi hc hs kk
  have q0 : 0 < NN ∧ sT 0 = 13 := by decide
  have q40 : 40 < NN ∧ sT 40 = 14 := by decide
  have q39 : 39 < NN ∧ sT 39 = 103 ∧ sN 39 = 1 := by decide
  replace hl : lv_has ls 7 [(4, .int (iI i)), (3, .ref (t.2.2.1 39)), (2, .ref (t.2.2.1 40)), (1, .ref (t.2.2.1 0)), (0, .ref b)] := hl
  obtain ⟨⟨g, r, u1⟩, hf, k, hok, hm⟩ := jEventPick hJ sv_r sv_r
  dsimp only at hok hm
  obtain ⟨hg, hk, hkr, hk0⟩ := okI_x hok
  refine lv_aload_n X.1.1 X.1.2.1 dL_law_863 rfl (lv_at hl 3 rfl) ?_
  refine lv_aload_n X.1.1 X.1.2.1 dL_law_864 rfl (lv_at hl 4 rfl) ?_
  refine lv_iload X.1.1 X.1.2.1 dL_law_865 (lv_at hl 0 rfl) ?_
  refine x_iconst X dL_law_867 ?_
  refine x_iadd X dL_law_868 ?_
  refine x_sld X hX hbl ht hS ⟨by omega, by omega⟩ hL dL_law_869 ?_
  refine lv_aload_n X.1.1 X.1.2.1 dL_law_870 rfl (lv_at hl 4 rfl) ?_
  refine lv_iload X.1.1 X.1.2.1 dL_law_871 (lv_at hl 0 rfl) ?_
  refine x_iconst X dL_law_873 ?_
  refine x_iadd X dL_law_874 ?_
  refine x_sld X hX hbl ht hS ⟨by omega, by omega⟩ hL dL_law_875 ?_
  refine lv_aload_n X.1.1 X.1.2.1 dL_law_876 rfl (lv_at hl 1 rfl) ?_
  refine x_callWi X hN hG hS (c_L_eventPick l hfl t (sv xs (i + 1)) (sv xs (i + 2)) u g r u1 hf hg) (vx_cwSW 4 X.1.2.2.2.2 gL_law_L_eventPick rfl rfl rfl hdL_eventPick ⟨Nat.le_of_ble_eq_true rfl, Nat.le_of_ble_eq_true rfl⟩) (by rfl) hl.1 (Nat.le_of_ble_eq_true rfl) dL_law_877 ⟨by show cells + 1 ≤ 601024; omega, by show slots + 6 ≤ 7293034; omega⟩ rfl (fun H locs hG hS => ?_)
  rw [hk]
  generalize hw : (if g = 0 then up u1 39 0 (iI r).toInt else u1) = w at hG
  obtain ⟨⟨r2, u2⟩, hm2, e1, e2, e3, hJ2⟩ := hm w (fun d hd => by rw [← hw]; exact w39_o d hd)
  dsimp only at hm2 e1 e2 e3 hJ2
  refine lv_istore (lv' := [(5, .int (iI k)), (4, .int (iI i)), (3, .ref (t.2.2.1 39)), (2, .ref (t.2.2.1 40)), (1, .ref (t.2.2.1 0)), (0, .ref b)]) X.1.1 X.1.2.1 dL_law_880 hl (by decide) rfl (fun ls hl => ?_)
  refine lv_aload_n X.1.1 X.1.2.1 dL_law_882 rfl (lv_at hl 3 rfl) ?_
  refine lv_aload_n X.1.1 X.1.2.1 dL_law_883 rfl (lv_at hl 5 rfl) ?_
  refine lv_iload X.1.1 X.1.2.1 dL_law_884 (lv_at hl 1 rfl) ?_
  refine x_iconst X dL_law_886 ?_
  refine x_iadd X dL_law_887 ?_
  refine x_sld X hX hbl ht hS ⟨by omega, by omega⟩ hL dL_law_888 ?_
  refine lv_aload_n X.1.1 X.1.2.1 dL_law_889 rfl (lv_at hl 5 rfl) ?_
  refine lv_iload X.1.1 X.1.2.1 dL_law_890 (lv_at hl 1 rfl) ?_
  refine x_iconst X dL_law_892 ?_
  refine x_iadd X dL_law_893 ?_
  refine x_sld X hX hbl ht hS ⟨by omega, by omega⟩ hL dL_law_894 ?_
  refine x_callVi0 X hG hS (c_X10_eventPick l t (sv xs (i + 1)) (sv xs (i + 2)) _ _ _ hm2) (cwV 2 X.1.2.2.2.2 gL_law_X10_eventPick rfl rfl rfl hd_X10_eventPick ⟨Nat.le_of_ble_eq_true rfl, Nat.le_of_ble_eq_true rfl⟩) q40.1 q40.2 rfl (by decide) (by rfl) hl.1 (Nat.le_of_ble_eq_true rfl) dL_law_895 ⟨by show cells + 1 ≤ 601024; omega, by show slots + 6 ≤ 7293034; omega⟩ rfl (fun H locs hG hS => ?_)
  refine lv_istore (lv' := [(6, .int (iI r2)), (5, .int (iI k)), (4, .int (iI i)), (3, .ref (t.2.2.1 39)), (2, .ref (t.2.2.1 40)), (1, .ref (t.2.2.1 0)), (0, .ref b)]) X.1.1 X.1.2.1 dL_law_898 hl (by decide) rfl (fun ls hl => ?_)
  refine lv_aload_n X.1.1 X.1.2.1 dL_law_900 rfl (lv_at hl 4 rfl) ?_
  refine x_callVi0 X hG hS (c_X10_thrown l t _ _ _ (x_thrown_f u2)) (cwV 0 X.1.2.2.2.2 gL_law_X10_thrown rfl rfl rfl hd_X10_thrown ⟨Nat.le_of_ble_eq_true rfl, Nat.le_of_ble_eq_true rfl⟩) q40.1 q40.2 rfl (by decide) (by rfl) hl.1 (Nat.le_of_ble_eq_true rfl) dL_law_901 ⟨by show cells + 1 ≤ 601024; omega, by show slots + 6 ≤ 7293034; omega⟩ rfl (fun H locs hG hS => ?_)
  rw [e1]
  refine lv_iload X.1.1 X.1.2.1 dL_law_904 (lv_at hl 1 rfl) ?_
  refine lv_icmp_eq (tgt := 911) X.1.1 X.1.2.1 dL_law_906 (by decide) (fun _ => ?_) (fun h => absurd rfl h)
  refine lv_iload X.1.1 X.1.2.1 dL_law_911 (lv_at hl 1 rfl) ?_
  refine x_if_ne (tgt := 928) X hkr dL_law_913 (by decide) (fun _ => ?_) (fun h0 => ?_)
  · refine lv_goto (tgt := 1665) X.1.1 X.1.2.1 dL_law_928 (by decide) ?_
    exact W.widen (k := cells + 13) (n := slots + 1206) (by omega) (by omega) (kk t u2 H locs ls X ht hJ2 hG hS (lv_sub hl [2, 3, 4, 5, 6] rfl))
  · have g0 := hk0 h0
    have er : r2 = r := e2 h0
    have e39 : u2 39 0 = (iI r).toInt := by rw [e3, ← hw]; exact w39_s g0
    refine lv_aload_n X.1.1 X.1.2.1 dL_law_916 rfl (lv_at hl 3 rfl) ?_
    refine x_iconst X dL_law_917 ?_
    refine x_lald X hG q39.1 q39.2.1 q39.2.2 (by decide) (by decide) dL_law_918 ?_
    rw [e39]
    refine lv_iload X.1.1 X.1.2.1 dL_law_919 (lv_at hl 0 rfl) ?_
    rw [er]
    rw [← iI_x (iI r)]
    have ev : ((iI ((iI r).toInt)).toInt) = (iI r).toInt := by rw [iI_x]
    rw [ev]
    have eL : InL (iI r).toInt := ⟨by have := (inR_x (iI r)).1; omega, by have := (inR_x (iI r)).2; omega⟩
    refine x_i2l X (inR_x _) dL_law_921 ?_
    refine x_lcmp X eL eL dL_law_922 ?_
    rw [cmpL_self]
    refine x_if_eq (tgt := 928) X (by decide) dL_law_923 (by decide) (fun _ => ?_) (fun h => absurd rfl h)
    refine lv_goto (tgt := 1665) X.1.1 X.1.2.1 dL_law_928 (by decide) ?_
    exact W.widen (k := cells + 13) (n := slots + 1206) (by omega) (by omega) (kk t u2 H locs ls X ht hJ2 hG hS (lv_sub hl [2, 3, 4, 5, 6] rfl))
end LL1
