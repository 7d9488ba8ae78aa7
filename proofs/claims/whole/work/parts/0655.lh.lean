/-! L, part g, 3: the law's calls, one by one -/
section LL3
variable {p : Program} {l : Launch} {e : Env} {s : State} {m : MethodId} {below : List Frame} {meth : Method} {c : Code} {b L : Nat} {xs : Nat → Int32} {Q : State → Prop}
set_option maxRecDepth 100000 in
set_option maxHeartbeats 8000000 in
theorem lc_21 : lC p l e s m below meth c b L xs Q 1309 := by
  intro t u i H locs ls cells slots X hN hX hbl ht hL hfl hJ hG hS hl hi hc hs kk
  have q0 : 0 < NN ∧ sT 0 = 13 := by decide
  have q40 : 40 < NN ∧ sT 40 = 14 := by decide
  have q39 : 39 < NN ∧ sT 39 = 103 ∧ sN 39 = 1 := by decide
  replace hl : lv_has ls 7 [(4, .int (iI i)), (3, .ref (t.2.2.1 39)), (2, .ref (t.2.2.1 40)), (1, .ref (t.2.2.1 0)), (0, .ref b)] := hl
  obtain ⟨⟨g, r, u1⟩, hf, k, hok, hm⟩ := jPass hJ sv_r
  dsimp only at hok hm
  obtain ⟨hg, hk, hkr, hk0⟩ := okAS_x hok
  refine lv_aload_n X.1.1 X.1.2.1 dL_law_1309 rfl (lv_at hl 3 rfl) ?_
  refine lv_aload_n X.1.1 X.1.2.1 dL_law_1310 rfl (lv_at hl 4 rfl) ?_
  refine lv_iload X.1.1 X.1.2.1 dL_law_1311 (lv_at hl 0 rfl) ?_
  refine x_iconst X dL_law_1313 ?_
  refine x_iadd X dL_law_1314 ?_
  refine x_sld X hX hbl ht hS ⟨by omega, by omega⟩ hL dL_law_1315 ?_
  refine lv_aload_n X.1.1 X.1.2.1 dL_law_1316 rfl (lv_at hl 1 rfl) ?_
  refine x_callWi X hN hG hS (c_L_pass l hfl t (sv xs (i + 1)) u g r u1 hf hg) (vx_cwSW 3 X.1.2.2.2.2 gL_law_L_pass rfl rfl rfl hdL_pass ⟨Nat.le_of_ble_eq_true rfl, Nat.le_of_ble_eq_true rfl⟩) (by rfl) hl.1 (Nat.le_of_ble_eq_true rfl) dL_law_1317 ⟨by show cells + 2 ≤ 601024; omega, by show slots + 12 ≤ 7293034; omega⟩ rfl (fun H locs hG hS => ?_)
  rw [hk]
  generalize hw : (if g = 0 then up u1 39 0 (iI r).toInt else u1) = w at hG
  obtain ⟨⟨r2, u2⟩, hm2, e1, e2, e3, hJ2⟩ := hm w (fun d hd => by rw [← hw]; exact w39_o d hd)
  dsimp only at hm2 e1 e2 e3 hJ2
  refine lv_istore (lv' := [(5, .int (iI k)), (4, .int (iI i)), (3, .ref (t.2.2.1 39)), (2, .ref (t.2.2.1 40)), (1, .ref (t.2.2.1 0)), (0, .ref b)]) X.1.1 X.1.2.1 dL_law_1320 hl (by decide) rfl (fun ls hl => ?_)
  refine lv_aload_n X.1.1 X.1.2.1 dL_law_1322 rfl (lv_at hl 3 rfl) ?_
  refine lv_aload_n X.1.1 X.1.2.1 dL_law_1323 rfl (lv_at hl 5 rfl) ?_
  refine lv_iload X.1.1 X.1.2.1 dL_law_1324 (lv_at hl 1 rfl) ?_
  refine x_iconst X dL_law_1326 ?_
  refine x_iadd X dL_law_1327 ?_
  refine x_sld X hX hbl ht hS ⟨by omega, by omega⟩ hL dL_law_1328 ?_
  refine x_callVi0 X hG hS (c_X10_pass l t (sv xs (i + 1)) _ _ _ hm2) (cwV 1 X.1.2.2.2.2 gL_law_X10_pass rfl rfl rfl hd_X10_pass ⟨Nat.le_of_ble_eq_true rfl, Nat.le_of_ble_eq_true rfl⟩) q40.1 q40.2 rfl (by decide) (by rfl) hl.1 (Nat.le_of_ble_eq_true rfl) dL_law_1329 ⟨by show cells + 2 ≤ 601024; omega, by show slots + 12 ≤ 7293034; omega⟩ rfl (fun H locs hG hS => ?_)
  refine lv_istore (lv' := [(6, .int (iI r2)), (5, .int (iI k)), (4, .int (iI i)), (3, .ref (t.2.2.1 39)), (2, .ref (t.2.2.1 40)), (1, .ref (t.2.2.1 0)), (0, .ref b)]) X.1.1 X.1.2.1 dL_law_1332 hl (by decide) rfl (fun ls hl => ?_)
  refine lv_aload_n X.1.1 X.1.2.1 dL_law_1334 rfl (lv_at hl 4 rfl) ?_
  refine x_callVi0 X hG hS (c_X10_thrown l t _ _ _ (x_thrown_f u2)) (cwV 0 X.1.2.2.2.2 gL_law_X10_thrown rfl rfl rfl hd_X10_thrown ⟨Nat.le_of_ble_eq_true rfl, Nat.le_of_ble_eq_true rfl⟩) q40.1 q40.2 rfl (by decide) (by rfl) hl.1 (Nat.le_of_ble_eq_true rfl) dL_law_1335 ⟨by show cells + 2 ≤ 601024; omega, by show slots + 12 ≤ 7293034; omega⟩ rfl (fun H locs hG hS => ?_)
  rw [e1]
  refine lv_iload X.1.1 X.1.2.1 dL_law_1338 (lv_at hl 1 rfl) ?_
  refine lv_icmp_eq (tgt := 1345) X.1.1 X.1.2.1 dL_law_1340 (by decide) (fun _ => ?_) (fun h => absurd rfl h)
  refine lv_iload X.1.1 X.1.2.1 dL_law_1345 (lv_at hl 1 rfl) ?_
  refine x_if_ne (tgt := 1362) X hkr dL_law_1347 (by decide) (fun _ => ?_) (fun h0 => ?_)
  · refine lv_goto (tgt := 1665) X.1.1 X.1.2.1 dL_law_1362 (by decide) ?_
    exact W.widen (k := cells + 13) (n := slots + 1206) (by omega) (by omega) (kk t u2 H locs ls X ht hJ2 hG hS (lv_sub hl [2, 3, 4, 5, 6] rfl))
  · have g0 := hk0 h0
    have er : r2 = r := e2 h0
    have e39 : u2 39 0 = (iI r).toInt := by rw [e3, ← hw]; exact w39_s g0
    refine lv_aload_n X.1.1 X.1.2.1 dL_law_1350 rfl (lv_at hl 3 rfl) ?_
    refine x_iconst X dL_law_1351 ?_
    refine x_lald X hG q39.1 q39.2.1 q39.2.2 (by decide) (by decide) dL_law_1352 ?_
    rw [e39]
    refine lv_iload X.1.1 X.1.2.1 dL_law_1353 (lv_at hl 0 rfl) ?_
    rw [er]
    rw [← iI_x (iI r)]
    have ev : ((iI ((iI r).toInt)).toInt) = (iI r).toInt := by rw [iI_x]
    rw [ev]
    have eL : InL (iI r).toInt := ⟨by have := (inR_x (iI r)).1; omega, by have := (inR_x (iI r)).2; omega⟩
    refine x_i2l X (inR_x _) dL_law_1355 ?_
    refine x_lcmp X eL eL dL_law_1356 ?_
    rw [cmpL_self]
    refine x_if_eq (tgt := 1362) X (by decide) dL_law_1357 (by decide) (fun _ => ?_) (fun h => absurd rfl h)
    refine lv_goto (tgt := 1665) X.1.1 X.1.2.1 dL_law_1362 (by decide) ?_
    exact W.widen (k := cells + 13) (n := slots + 1206) (by omega) (by omega) (kk t u2 H locs ls X ht hJ2 hG hS (lv_sub hl [2, 3, 4, 5, 6] rfl))
set_option maxRecDepth 100000 in
set_option maxHeartbeats 8000000 in
theorem lc_22 : lC p l e s m below meth c b L xs Q 1365 := by
  intro t u i H locs ls cells slots X hN hX hbl ht hL hfl hJ hG hS hl hi hc hs kk
  have q0 : 0 < NN ∧ sT 0 = 13 := by decide
  have q40 : 40 < NN ∧ sT 40 = 14 := by decide
  have q39 : 39 < NN ∧ sT 39 = 103 ∧ sN 39 = 1 := by decide
  replace hl : lv_has ls 7 [(4, .int (iI i)), (3, .ref (t.2.2.1 39)), (2, .ref (t.2.2.1 40)), (1, .ref (t.2.2.1 0)), (0, .ref b)] := hl
  obtain ⟨⟨g, r, u1⟩, hf, k, hok, hm⟩ := jMute hJ sv_r
  dsimp only at hok hm
  obtain ⟨hg, hk, hkr, hk0⟩ := okIS_x hok
  refine lv_aload_n X.1.1 X.1.2.1 dL_law_1365 rfl (lv_at hl 3 rfl) ?_
  refine lv_aload_n X.1.1 X.1.2.1 dL_law_1366 rfl (lv_at hl 4 rfl) ?_
  refine lv_iload X.1.1 X.1.2.1 dL_law_1367 (lv_at hl 0 rfl) ?_
  refine x_iconst X dL_law_1369 ?_
  refine x_iadd X dL_law_1370 ?_
  refine x_sld X hX hbl ht hS ⟨by omega, by omega⟩ hL dL_law_1371 ?_
  refine lv_aload_n X.1.1 X.1.2.1 dL_law_1372 rfl (lv_at hl 1 rfl) ?_
  refine x_callWi X hN hG hS (c_L_mute l hfl t (sv xs (i + 1)) u g r u1 hf hg) (vx_cwSW 3 X.1.2.2.2.2 gL_law_L_mute rfl rfl rfl hdL_mute ⟨Nat.le_of_ble_eq_true rfl, Nat.le_of_ble_eq_true rfl⟩) (by rfl) hl.1 (Nat.le_of_ble_eq_true rfl) dL_law_1373 ⟨by show cells + 2 ≤ 601024; omega, by show slots + 12 ≤ 7293034; omega⟩ rfl (fun H locs hG hS => ?_)
  rw [hk]
  generalize hw : (if g = 0 then up u1 39 0 (iI r).toInt else u1) = w at hG
  obtain ⟨⟨r2, u2⟩, hm2, e1, e2, e3, hJ2⟩ := hm w (fun d hd => by rw [← hw]; exact w39_o d hd)
  dsimp only at hm2 e1 e2 e3 hJ2
  refine lv_istore (lv' := [(5, .int (iI k)), (4, .int (iI i)), (3, .ref (t.2.2.1 39)), (2, .ref (t.2.2.1 40)), (1, .ref (t.2.2.1 0)), (0, .ref b)]) X.1.1 X.1.2.1 dL_law_1376 hl (by decide) rfl (fun ls hl => ?_)
  refine lv_aload_n X.1.1 X.1.2.1 dL_law_1378 rfl (lv_at hl 3 rfl) ?_
  refine lv_aload_n X.1.1 X.1.2.1 dL_law_1379 rfl (lv_at hl 5 rfl) ?_
  refine lv_iload X.1.1 X.1.2.1 dL_law_1380 (lv_at hl 1 rfl) ?_
  refine x_iconst X dL_law_1382 ?_
  refine x_iadd X dL_law_1383 ?_
  refine x_sld X hX hbl ht hS ⟨by omega, by omega⟩ hL dL_law_1384 ?_
  refine x_callVi0 X hG hS (c_X10_mute l t (sv xs (i + 1)) _ _ _ hm2) (cwV 1 X.1.2.2.2.2 gL_law_X10_mute rfl rfl rfl hd_X10_mute ⟨Nat.le_of_ble_eq_true rfl, Nat.le_of_ble_eq_true rfl⟩) q40.1 q40.2 rfl (by decide) (by rfl) hl.1 (Nat.le_of_ble_eq_true rfl) dL_law_1385 ⟨by show cells + 2 ≤ 601024; omega, by show slots + 12 ≤ 7293034; omega⟩ rfl (fun H locs hG hS => ?_)
  refine lv_istore (lv' := [(6, .int (iI r2)), (5, .int (iI k)), (4, .int (iI i)), (3, .ref (t.2.2.1 39)), (2, .ref (t.2.2.1 40)), (1, .ref (t.2.2.1 0)), (0, .ref b)]) X.1.1 X.1.2.1 dL_law_1388 hl (by decide) rfl (fun ls hl => ?_)
  refine lv_aload_n X.1.1 X.1.2.1 dL_law_1390 rfl (lv_at hl 4 rfl) ?_
  refine x_callVi0 X hG hS (c_X10_thrown l t _ _ _ (x_thrown_f u2)) (cwV 0 X.1.2.2.2.2 gL_law_X10_thrown rfl rfl rfl hd_X10_thrown ⟨Nat.le_of_ble_eq_true rfl, Nat.le_of_ble_eq_true rfl⟩) q40.1 q40.2 rfl (by decide) (by rfl) hl.1 (Nat.le_of_ble_eq_true rfl) dL_law_1391 ⟨by show cells + 2 ≤ 601024; omega, by show slots + 12 ≤ 7293034; omega⟩ rfl (fun H locs hG hS => ?_)
  rw [e1]
  refine lv_iload X.1.1 X.1.2.1 dL_law_1394 (lv_at hl 1 rfl) ?_
  refine lv_icmp_eq (tgt := 1401) X.1.1 X.1.2.1 dL_law_1396 (by decide) (fun _ => ?_) (fun h => absurd rfl h)
  refine lv_iload X.1.1 X.1.2.1 dL_law_1401 (lv_at hl 1 rfl) ?_
  refine x_if_ne (tgt := 1418) X hkr dL_law_1403 (by decide) (fun _ => ?_) (fun h0 => ?_)
  · refine lv_goto (tgt := 1665) X.1.1 X.1.2.1 dL_law_1418 (by decide) ?_
    exact W.widen (k := cells + 13) (n := slots + 1206) (by omega) (by omega) (kk t u2 H locs ls X ht hJ2 hG hS (lv_sub hl [2, 3, 4, 5, 6] rfl))
  · have g0 := hk0 h0
    have er : r2 = r := e2 h0
    have e39 : u2 39 0 = (iI r).toInt := by rw [e3, ← hw]; exact w39_s g0
    refine lv_aload_n X.1.1 X.1.2.1 dL_law_1406 rfl (lv_at hl 3 rfl) ?_
    refine x_iconst X dL_law_1407 ?_
    refine x_lald X hG q39.1 q39.2.1 q39.2.2 (by decide) (by decide) dL_law_1408 ?_
    rw [e39]
    refine lv_iload X.1.1 X.1.2.1 dL_law_1409 (lv_at hl 0 rfl) ?_
    rw [er]
    rw [← iI_x (iI r)]
    have ev : ((iI ((iI r).toInt)).toInt) = (iI r).toInt := by rw [iI_x]
    rw [ev]
    have eL : InL (iI r).toInt := ⟨by have := (inR_x (iI r)).1; omega, by have := (inR_x (iI r)).2; omega⟩
    refine x_i2l X (inR_x _) dL_law_1411 ?_
    refine x_lcmp X eL eL dL_law_1412 ?_
    rw [cmpL_self]
    refine x_if_eq (tgt := 1418) X (by decide) dL_law_1413 (by decide) (fun _ => ?_) (fun h => absurd rfl h)
    refine lv_goto (tgt := 1665) X.1.1 X.1.2.1 dL_law_1418 (by decide) ?_
    exact W.widen (k := cells + 13) (n := slots + 1206) (by omega) (by omega) (kk t u2 H locs ls X ht hJ2 hG hS (lv_sub hl [2, 3, 4, 5, 6] rfl))
set_option maxRecDepth 100000 in
set_option maxHeartbeats 8000000 in
theorem lc_23 : lC p l e s m below meth c b L xs Q 1421 := by
  intro t u i H locs ls cells slots X hN hX hbl ht hL hfl hJ hG hS hl hi hc hs kk
  have q0 : 0 < NN ∧ sT 0 = 13 := by decide
  have q40 : 40 < NN ∧ sT 40 = 14 := by decide
  have q39 : 39 < NN ∧ sT 39 = 103 ∧ sN 39 = 1 := by decide
  replace hl : lv_has ls 7 [(4, .int (iI i)), (3, .ref (t.2.2.1 39)), (2, .ref (t.2.2.1 40)), (1, .ref (t.2.2.1 0)), (0, .ref b)] := hl
  obtain ⟨⟨g, r, u1⟩, hf, k, hok, hm⟩ := jUnmute hJ sv_r
  dsimp only at hok hm
  obtain ⟨hg, hk, hkr, hk0⟩ := okIS_x hok
  refine lv_aload_n X.1.1 X.1.2.1 dL_law_1421 rfl (lv_at hl 3 rfl) ?_
  refine lv_aload_n X.1.1 X.1.2.1 dL_law_1422 rfl (lv_at hl 4 rfl) ?_
  refine lv_iload X.1.1 X.1.2.1 dL_law_1423 (lv_at hl 0 rfl) ?_
  refine x_iconst X dL_law_1425 ?_
  refine x_iadd X dL_law_1426 ?_
  refine x_sld X hX hbl ht hS ⟨by omega, by omega⟩ hL dL_law_1427 ?_
  refine lv_aload_n X.1.1 X.1.2.1 dL_law_1428 rfl (lv_at hl 1 rfl) ?_
  refine x_callWi X hN hG hS (c_L_unmute l hfl t (sv xs (i + 1)) u g r u1 hf hg) (vx_cwSW 3 X.1.2.2.2.2 gL_law_L_unmute rfl rfl rfl hdL_unmute ⟨Nat.le_of_ble_eq_true rfl, Nat.le_of_ble_eq_true rfl⟩) (by rfl) hl.1 (Nat.le_of_ble_eq_true rfl) dL_law_1429 ⟨by show cells + 2 ≤ 601024; omega, by show slots + 12 ≤ 7293034; omega⟩ rfl (fun H locs hG hS => ?_)
  rw [hk]
  generalize hw : (if g = 0 then up u1 39 0 (iI r).toInt else u1) = w at hG
  obtain ⟨⟨r2, u2⟩, hm2, e1, e2, e3, hJ2⟩ := hm w (fun d hd => by rw [← hw]; exact w39_o d hd)
  dsimp only at hm2 e1 e2 e3 hJ2
  refine lv_istore (lv' := [(5, .int (iI k)), (4, .int (iI i)), (3, .ref (t.2.2.1 39)), (2, .ref (t.2.2.1 40)), (1, .ref (t.2.2.1 0)), (0, .ref b)]) X.1.1 X.1.2.1 dL_law_1432 hl (by decide) rfl (fun ls hl => ?_)
  refine lv_aload_n X.1.1 X.1.2.1 dL_law_1434 rfl (lv_at hl 3 rfl) ?_
  refine lv_aload_n X.1.1 X.1.2.1 dL_law_1435 rfl (lv_at hl 5 rfl) ?_
  refine lv_iload X.1.1 X.1.2.1 dL_law_1436 (lv_at hl 1 rfl) ?_
  refine x_iconst X dL_law_1438 ?_
  refine x_iadd X dL_law_1439 ?_
  refine x_sld X hX hbl ht hS ⟨by omega, by omega⟩ hL dL_law_1440 ?_
  refine x_callVi0 X hG hS (c_X10_unmute l t (sv xs (i + 1)) _ _ _ hm2) (cwV 1 X.1.2.2.2.2 gL_law_X10_unmute rfl rfl rfl hd_X10_unmute ⟨Nat.le_of_ble_eq_true rfl, Nat.le_of_ble_eq_true rfl⟩) q40.1 q40.2 rfl (by decide) (by rfl) hl.1 (Nat.le_of_ble_eq_true rfl) dL_law_1441 ⟨by show cells + 2 ≤ 601024; omega, by show slots + 12 ≤ 7293034; omega⟩ rfl (fun H locs hG hS => ?_)
  refine lv_istore (lv' := [(6, .int (iI r2)), (5, .int (iI k)), (4, .int (iI i)), (3, .ref (t.2.2.1 39)), (2, .ref (t.2.2.1 40)), (1, .ref (t.2.2.1 0)), (0, .ref b)]) X.1.1 X.1.2.1 dL_law_1444 hl (by decide) rfl (fun ls hl => ?_)
  refine lv_aload_n X.1.1 X.1.2.1 dL_law_1446 rfl (lv_at hl 4 rfl) ?_
  refine x_callVi0 X hG hS (c_X10_thrown l t _ _ _ (x_thrown_f u2)) (cwV 0 X.1.2.2.2.2 gL_law_X10_thrown rfl rfl rfl hd_X10_thrown ⟨Nat.le_of_ble_eq_true rfl, Nat.le_of_ble_eq_true rfl⟩) q40.1 q40.2 rfl (by decide) (by rfl) hl.1 (Nat.le_of_ble_eq_true rfl) dL_law_1447 ⟨by show cells + 2 ≤ 601024; omega, by show slots + 12 ≤ 7293034; omega⟩ rfl (fun H locs hG hS => ?_)
  rw [e1]
  refine lv_iload X.1.1 X.1.2.1 dL_law_1450 (lv_at hl 1 rfl) ?_
  refine lv_icmp_eq (tgt := 1457) X.1.1 X.1.2.1 dL_law_1452 (by decide) (fun _ => ?_) (fun h => absurd rfl h)
  refine lv_iload X.1.1 X.1.2.1 dL_law_1457 (lv_at hl 1 rfl) ?_
  refine x_if_ne (tgt := 1474) X hkr dL_law_1459 (by decide) (fun _ => ?_) (fun h0 => ?_)
  · refine lv_goto (tgt := 1665) X.1.1 X.1.2.1 dL_law_1474 (by decide) ?_
    exact W.widen (k := cells + 13) (n := slots + 1206) (by omega) (by omega) (kk t u2 H locs ls X ht hJ2 hG hS (lv_sub hl [2, 3, 4, 5, 6] rfl))
  · have g0 := hk0 h0
    have er : r2 = r := e2 h0
    have e39 : u2 39 0 = (iI r).toInt := by rw [e3, ← hw]; exact w39_s g0
    refine lv_aload_n X.1.1 X.1.2.1 dL_law_1462 rfl (lv_at hl 3 rfl) ?_
    refine x_iconst X dL_law_1463 ?_
    refine x_lald X hG q39.1 q39.2.1 q39.2.2 (by decide) (by decide) dL_law_1464 ?_
    rw [e39]
    refine lv_iload X.1.1 X.1.2.1 dL_law_1465 (lv_at hl 0 rfl) ?_
    rw [er]
    rw [← iI_x (iI r)]
    have ev : ((iI ((iI r).toInt)).toInt) = (iI r).toInt := by rw [iI_x]
    rw [ev]
    have eL : InL (iI r).toInt := ⟨by have := (inR_x (iI r)).1; omega, by have := (inR_x (iI r)).2; omega⟩
    refine x_i2l X (inR_x _) dL_law_1467 ?_
    refine x_lcmp X eL eL dL_law_1468 ?_
    rw [cmpL_self]
    refine x_if_eq (tgt := 1474) X (by decide) dL_law_1469 (by decide) (fun _ => ?_) (fun h => absurd rfl h)
    refine lv_goto (tgt := 1665) X.1.1 X.1.2.1 dL_law_1474 (by decide) ?_
    exact W.widen (k := cells + 13) (n := slots + 1206) (by omega) (by omega) (kk t u2 H locs ls X ht hJ2 hG hS (lv_sub hl [2, 3, 4, 5, 6] rfl))
set_option maxRecDepth 100000 in
set_option maxHeartbeats 8000000 in
theorem lc_24 : lC p l e s m below meth c b L xs Q 1477 := by
  intro t u i H locs ls cells slots X hN hX hbl ht hL hfl hJ hG hS hl hi hc hs kk
  have q0 : 0 < NN ∧ sT 0 = 13 := by decide
  have q40 : 40 < NN ∧ sT 40 = 14 := by decide
  have q39 : 39 < NN ∧ sT 39 = 103 ∧ sN 39 = 1 := by decide
  replace hl : lv_has ls 7 [(4, .int (iI i)), (3, .ref (t.2.2.1 39)), (2, .ref (t.2.2.1 40)), (1, .ref (t.2.2.1 0)), (0, .ref b)] := hl
  obtain ⟨⟨g, r, u1⟩, hf, k, hok, hm⟩ := jRetract hJ sv_r
  dsimp only at hok hm
  obtain ⟨hg, hk, hkr, hk0⟩ := okIS_x hok
  refine lv_aload_n X.1.1 X.1.2.1 dL_law_1477 rfl (lv_at hl 3 rfl) ?_
  refine lv_aload_n X.1.1 X.1.2.1 dL_law_1478 rfl (lv_at hl 4 rfl) ?_
  refine lv_iload X.1.1 X.1.2.1 dL_law_1479 (lv_at hl 0 rfl) ?_
  refine x_iconst X dL_law_1481 ?_
  refine x_iadd X dL_law_1482 ?_
  refine x_sld X hX hbl ht hS ⟨by omega, by omega⟩ hL dL_law_1483 ?_
  refine lv_aload_n X.1.1 X.1.2.1 dL_law_1484 rfl (lv_at hl 1 rfl) ?_
  refine x_callWi X hN hG hS (c_L_retract l hfl t (sv xs (i + 1)) u g r u1 hf hg) (vx_cwSW 3 X.1.2.2.2.2 gL_law_L_retract rfl rfl rfl hdL_retract ⟨Nat.le_of_ble_eq_true rfl, Nat.le_of_ble_eq_true rfl⟩) (by rfl) hl.1 (Nat.le_of_ble_eq_true rfl) dL_law_1485 ⟨by show cells + 2 ≤ 601024; omega, by show slots + 12 ≤ 7293034; omega⟩ rfl (fun H locs hG hS => ?_)
  rw [hk]
  generalize hw : (if g = 0 then up u1 39 0 (iI r).toInt else u1) = w at hG
  obtain ⟨⟨r2, u2⟩, hm2, e1, e2, e3, hJ2⟩ := hm w (fun d hd => by rw [← hw]; exact w39_o d hd)
  dsimp only at hm2 e1 e2 e3 hJ2
  refine lv_istore (lv' := [(5, .int (iI k)), (4, .int (iI i)), (3, .ref (t.2.2.1 39)), (2, .ref (t.2.2.1 40)), (1, .ref (t.2.2.1 0)), (0, .ref b)]) X.1.1 X.1.2.1 dL_law_1488 hl (by decide) rfl (fun ls hl => ?_)
  refine lv_aload_n X.1.1 X.1.2.1 dL_law_1490 rfl (lv_at hl 3 rfl) ?_
  refine lv_aload_n X.1.1 X.1.2.1 dL_law_1491 rfl (lv_at hl 5 rfl) ?_
  refine lv_iload X.1.1 X.1.2.1 dL_law_1492 (lv_at hl 1 rfl) ?_
  refine x_iconst X dL_law_1494 ?_
  refine x_iadd X dL_law_1495 ?_
  refine x_sld X hX hbl ht hS ⟨by omega, by omega⟩ hL dL_law_1496 ?_
  refine x_callVi0 X hG hS (c_X10_retract l t (sv xs (i + 1)) _ _ _ hm2) (cwV 1 X.1.2.2.2.2 gL_law_X10_retract rfl rfl rfl hd_X10_retract ⟨Nat.le_of_ble_eq_true rfl, Nat.le_of_ble_eq_true rfl⟩) q40.1 q40.2 rfl (by decide) (by rfl) hl.1 (Nat.le_of_ble_eq_true rfl) dL_law_1497 ⟨by show cells + 2 ≤ 601024; omega, by show slots + 12 ≤ 7293034; omega⟩ rfl (fun H locs hG hS => ?_)
  refine lv_istore (lv' := [(6, .int (iI r2)), (5, .int (iI k)), (4, .int (iI i)), (3, .ref (t.2.2.1 39)), (2, .ref (t.2.2.1 40)), (1, .ref (t.2.2.1 0)), (0, .ref b)]) X.1.1 X.1.2.1 dL_law_1500 hl (by decide) rfl (fun ls hl => ?_)
  refine lv_aload_n X.1.1 X.1.2.1 dL_law_1502 rfl (lv_at hl 4 rfl) ?_
  refine x_callVi0 X hG hS (c_X10_thrown l t _ _ _ (x_thrown_f u2)) (cwV 0 X.1.2.2.2.2 gL_law_X10_thrown rfl rfl rfl hd_X10_thrown ⟨Nat.le_of_ble_eq_true rfl, Nat.le_of_ble_eq_true rfl⟩) q40.1 q40.2 rfl (by decide) (by rfl) hl.1 (Nat.le_of_ble_eq_true rfl) dL_law_1503 ⟨by show cells + 2 ≤ 601024; omega, by show slots + 12 ≤ 7293034; omega⟩ rfl (fun H locs hG hS => ?_)
  rw [e1]
  refine lv_iload X.1.1 X.1.2.1 dL_law_1506 (lv_at hl 1 rfl) ?_
  refine lv_icmp_eq (tgt := 1513) X.1.1 X.1.2.1 dL_law_1508 (by decide) (fun _ => ?_) (fun h => absurd rfl h)
  refine lv_iload X.1.1 X.1.2.1 dL_law_1513 (lv_at hl 1 rfl) ?_
  refine x_if_ne (tgt := 1530) X hkr dL_law_1515 (by decide) (fun _ => ?_) (fun h0 => ?_)
  · refine lv_goto (tgt := 1665) X.1.1 X.1.2.1 dL_law_1530 (by decide) ?_
    exact W.widen (k := cells + 13) (n := slots + 1206) (by omega) (by omega) (kk t u2 H locs ls X ht hJ2 hG hS (lv_sub hl [2, 3, 4, 5, 6] rfl))
  · have g0 := hk0 h0
    have er : r2 = r := e2 h0
    have e39 : u2 39 0 = (iI r).toInt := by rw [e3, ← hw]; exact w39_s g0
    refine lv_aload_n X.1.1 X.1.2.1 dL_law_1518 rfl (lv_at hl 3 rfl) ?_
    refine x_iconst X dL_law_1519 ?_
    refine x_lald X hG q39.1 q39.2.1 q39.2.2 (by decide) (by decide) dL_law_1520 ?_
    rw [e39]
    refine lv_iload X.1.1 X.1.2.1 dL_law_1521 (lv_at hl 0 rfl) ?_
    rw [er]
    rw [← iI_x (iI r)]
    have ev : ((iI ((iI r).toInt)).toInt) = (iI r).toInt := by rw [iI_x]
    rw [ev]
    have eL : InL (iI r).toInt := ⟨by have := (inR_x (iI r)).1; omega, by have := (inR_x (iI r)).2; omega⟩
    refine x_i2l X (inR_x _) dL_law_1523 ?_
    refine x_lcmp X eL eL dL_law_1524 ?_
    rw [cmpL_self]
    refine x_if_eq (tgt := 1530) X (by decide) dL_law_1525 (by decide) (fun _ => ?_) (fun h => absurd rfl h)
    refine lv_goto (tgt := 1665) X.1.1 X.1.2.1 dL_law_1530 (by decide) ?_
    exact W.widen (k := cells + 13) (n := slots + 1206) (by omega) (by omega) (kk t u2 H locs ls X ht hJ2 hG hS (lv_sub hl [2, 3, 4, 5, 6] rfl))
set_option maxRecDepth 100000 in
set_option maxHeartbeats 8000000 in
theorem lc_25 : lC p l e s m below meth c b L xs Q 1533 := by
  intro t u i H locs ls cells slots X hN hX hbl ht hL hfl hJ hG hS hl hi hc hs kk
  have q0 : 0 < NN ∧ sT 0 = 13 := by decide
  have q40 : 40 < NN ∧ sT 40 = 14 := by decide
  have q39 : 39 < NN ∧ sT 39 = 103 ∧ sN 39 = 1 := by decide
  replace hl : lv_has ls 7 [(4, .int (iI i)), (3, .ref (t.2.2.1 39)), (2, .ref (t.2.2.1 40)), (1, .ref (t.2.2.1 0)), (0, .ref b)] := hl
  obtain ⟨⟨r, u1⟩, hf, ⟨r2, u2⟩, hm, e1, e2, hJ2⟩ := jUndo hJ 
  dsimp only at hm e1 e2 hJ2
  subst e1
  refine lv_aload_n X.1.1 X.1.2.1 dL_law_1533 rfl (lv_at hl 3 rfl) ?_
  refine x_callVi0 X hG hS (c_X9_undo l t  _ _ _ hf) (cwV 0 X.1.2.2.2.2 gL_law_X9_undo rfl rfl rfl hd_X9_undo ⟨Nat.le_of_ble_eq_true rfl, Nat.le_of_ble_eq_true rfl⟩) q0.1 q0.2 rfl (by decide) (by rfl) hl.1 (Nat.le_of_ble_eq_true rfl) dL_law_1534 ⟨by show cells ≤ 601024; omega, by show slots ≤ 7293034; omega⟩ rfl (fun H locs hG hS => ?_)
  refine lv_aload_n X.1.1 X.1.2.1 dL_law_1537 rfl (lv_at hl 2 rfl) ?_
  refine x_callVi0 X hG hS (c_X10_undo l t  _ _ _ hm) (cwV 0 X.1.2.2.2.2 gL_law_X10_undo rfl rfl rfl hd_X10_undo ⟨Nat.le_of_ble_eq_true rfl, Nat.le_of_ble_eq_true rfl⟩) q40.1 q40.2 rfl (by decide) (by rfl) hl.1 (Nat.le_of_ble_eq_true rfl) dL_law_1538 ⟨by show cells ≤ 601024; omega, by show slots ≤ 7293034; omega⟩ rfl (fun H locs hG hS => ?_)
  refine lv_icmp_eq (tgt := 1665) X.1.1 X.1.2.1 dL_law_1541 (by decide) (fun _ => ?_) (fun h => absurd rfl h)
  exact W.widen (k := cells + 13) (n := slots + 1206) (by omega) (by omega) (kk t u2 H locs ls X ht hJ2 hG hS hl)
set_option maxRecDepth 100000 in
set_option maxHeartbeats 8000000 in
theorem lc_26 : lC p l e s m below meth c b L xs Q 1546 := by
  intro t u i H locs ls cells slots X hN hX hbl ht hL hfl hJ hG hS hl hi hc hs kk
  have q0 : 0 < NN ∧ sT 0 = 13 := by decide
  have q40 : 40 < NN ∧ sT 40 = 14 := by decide
  have q39 : 39 < NN ∧ sT 39 = 103 ∧ sN 39 = 1 := by decide
  replace hl : lv_has ls 7 [(4, .int (iI i)), (3, .ref (t.2.2.1 39)), (2, .ref (t.2.2.1 40)), (1, .ref (t.2.2.1 0)), (0, .ref b)] := hl
  obtain ⟨⟨g, r, u1⟩, hf, k, hok, hm⟩ := jSave hJ sv_r
  dsimp only at hok hm
  obtain ⟨hg, hk, hkr, hk0⟩ := okI_x hok
  have hb : r = 0 ∨ r = 1 := by
    obtain ⟨z, hz, hz2⟩ := bSave hJ sv_r
    rw [hf] at hz
    cases hz
    exact hz2
  refine lv_aload_n X.1.1 X.1.2.1 dL_law_1546 rfl (lv_at hl 3 rfl) ?_
  refine lv_aload_n X.1.1 X.1.2.1 dL_law_1547 rfl (lv_at hl 4 rfl) ?_
  refine lv_iload X.1.1 X.1.2.1 dL_law_1548 (lv_at hl 0 rfl) ?_
  refine x_iconst X dL_law_1550 ?_
  refine x_iadd X dL_law_1551 ?_
  refine x_sld X hX hbl ht hS ⟨by omega, by omega⟩ hL dL_law_1552 ?_
  refine lv_aload_n X.1.1 X.1.2.1 dL_law_1553 rfl (lv_at hl 1 rfl) ?_
  refine x_callWi X hN hG hS (c_L_saveSnapshot l hfl t (sv xs (i + 1)) u g r u1 hf hg hb) (vx_cwSW 3 X.1.2.2.2.2 gL_law_L_saveSnapshot rfl rfl rfl hdL_saveSnapshot ⟨Nat.le_of_ble_eq_true rfl, Nat.le_of_ble_eq_true rfl⟩) (by rfl) hl.1 (Nat.le_of_ble_eq_true rfl) dL_law_1554 ⟨by show cells + 1 ≤ 601024; omega, by show slots + 6 ≤ 7293034; omega⟩ rfl (fun H locs hG hS => ?_)
  rw [hk]
  generalize hw : (if g = 0 then up u1 39 0 r else u1) = w at hG
  obtain ⟨⟨r2, u2⟩, hm2, e1, e2, e3, hJ2⟩ := hm w (fun d hd => by rw [← hw]; exact w39_o d hd)
  dsimp only at hm2 e1 e2 e3 hJ2
  refine lv_istore (lv' := [(5, .int (iI k)), (4, .int (iI i)), (3, .ref (t.2.2.1 39)), (2, .ref (t.2.2.1 40)), (1, .ref (t.2.2.1 0)), (0, .ref b)]) X.1.1 X.1.2.1 dL_law_1557 hl (by decide) rfl (fun ls hl => ?_)
  refine lv_aload_n X.1.1 X.1.2.1 dL_law_1559 rfl (lv_at hl 3 rfl) ?_
  refine lv_aload_n X.1.1 X.1.2.1 dL_law_1560 rfl (lv_at hl 5 rfl) ?_
  refine lv_iload X.1.1 X.1.2.1 dL_law_1561 (lv_at hl 1 rfl) ?_
  refine x_iconst X dL_law_1563 ?_
  refine x_iadd X dL_law_1564 ?_
  refine x_sld X hX hbl ht hS ⟨by omega, by omega⟩ hL dL_law_1565 ?_
  refine x_callVi0 X hG hS (c_X10_saveSnapshot l t (sv xs (i + 1)) _ _ _ hm2) (cwV 1 X.1.2.2.2.2 gL_law_X10_saveSnapshot rfl rfl rfl hd_X10_saveSnapshot ⟨Nat.le_of_ble_eq_true rfl, Nat.le_of_ble_eq_true rfl⟩) q40.1 q40.2 rfl (by decide) (by rfl) hl.1 (Nat.le_of_ble_eq_true rfl) dL_law_1566 ⟨by show cells + 1 ≤ 601024; omega, by show slots + 6 ≤ 7293034; omega⟩ rfl (fun H locs hG hS => ?_)
  refine lv_istore (lv' := [(6, .int (iI r2)), (5, .int (iI k)), (4, .int (iI i)), (3, .ref (t.2.2.1 39)), (2, .ref (t.2.2.1 40)), (1, .ref (t.2.2.1 0)), (0, .ref b)]) X.1.1 X.1.2.1 dL_law_1569 hl (by decide) rfl (fun ls hl => ?_)
  refine lv_aload_n X.1.1 X.1.2.1 dL_law_1571 rfl (lv_at hl 4 rfl) ?_
  refine x_callVi0 X hG hS (c_X10_thrown l t _ _ _ (x_thrown_f u2)) (cwV 0 X.1.2.2.2.2 gL_law_X10_thrown rfl rfl rfl hd_X10_thrown ⟨Nat.le_of_ble_eq_true rfl, Nat.le_of_ble_eq_true rfl⟩) q40.1 q40.2 rfl (by decide) (by rfl) hl.1 (Nat.le_of_ble_eq_true rfl) dL_law_1572 ⟨by show cells + 1 ≤ 601024; omega, by show slots + 6 ≤ 7293034; omega⟩ rfl (fun H locs hG hS => ?_)
  rw [e1]
  refine lv_iload X.1.1 X.1.2.1 dL_law_1575 (lv_at hl 1 rfl) ?_
  refine lv_icmp_eq (tgt := 1582) X.1.1 X.1.2.1 dL_law_1577 (by decide) (fun _ => ?_) (fun h => absurd rfl h)
  refine lv_iload X.1.1 X.1.2.1 dL_law_1582 (lv_at hl 1 rfl) ?_
  refine x_if_ne (tgt := 1606) X hkr dL_law_1584 (by decide) (fun _ => ?_) (fun h0 => ?_)
  · refine lv_goto (tgt := 1665) X.1.1 X.1.2.1 dL_law_1606 (by decide) ?_
    exact W.widen (k := cells + 13) (n := slots + 1206) (by omega) (by omega) (kk t u2 H locs ls X ht hJ2 hG hS (lv_sub hl [2, 3, 4, 5, 6] rfl))
  · have g0 := hk0 h0
    have er : r2 = r := e2 h0
    have e39 : u2 39 0 = r := by rw [e3, ← hw]; exact w39_s g0
    refine lv_aload_n X.1.1 X.1.2.1 dL_law_1587 rfl (lv_at hl 3 rfl) ?_
    refine x_iconst X dL_law_1588 ?_
    refine x_lald X hG q39.1 q39.2.1 q39.2.2 (by decide) (by decide) dL_law_1589 ?_
    rw [e39]
    refine lv_iload X.1.1 X.1.2.1 dL_law_1590 (lv_at hl 0 rfl) ?_
    rw [er]
    have KK : ∀ q : Int, r = q → W p l e room_1 s m #[.ref b] below meth c H _ (cells + 1) (slots + 6) Q (F0 m 1600 ls [.long (lI q), .long (lI r)]) := fun q hq => by
      subst hq
      refine x_lcmp X (by rcases hb with h | h <;> rw [h] <;> decide) (by rcases hb with h | h <;> rw [h] <;> decide) dL_law_1600 ?_
      rw [cmpL_self]
      refine x_if_eq (tgt := 1606) X (by decide) dL_law_1601 (by decide) (fun _ => ?_) (fun h => absurd rfl h)
      refine lv_goto (tgt := 1665) X.1.1 X.1.2.1 dL_law_1606 (by decide) ?_
      exact W.widen (k := cells + 13) (n := slots + 1206) (by omega) (by omega) (kk t u2 H locs ls X ht hJ2 hG hS (lv_sub hl [2, 3, 4, 5, 6] rfl))
    refine x_if_eq (tgt := 1599) X (by rcases hb with h | h <;> rw [h] <;> decide) dL_law_1592 (by decide) (fun h1 => ?_) (fun h1 => ?_)
    · refine x_lconst X dL_law_1599 0 rfl ?_
      exact KK 0 h1
    · refine x_lconst X dL_law_1595 1 rfl ?_
      refine lv_goto (tgt := 1600) X.1.1 X.1.2.1 dL_law_1596 (by decide) ?_
      exact KK 1 (by omega)
set_option maxRecDepth 100000 in
set_option maxHeartbeats 8000000 in
theorem lc_27 : lC p l e s m below meth c b L xs Q 1609 := by
  intro t u i H locs ls cells slots X hN hX hbl ht hL hfl hJ hG hS hl hi hc hs kk
  have q0 : 0 < NN ∧ sT 0 = 13 := by decide
  have q40 : 40 < NN ∧ sT 40 = 14 := by decide
  have q39 : 39 < NN ∧ sT 39 = 103 ∧ sN 39 = 1 := by decide
  replace hl : lv_has ls 7 [(4, .int (iI i)), (3, .ref (t.2.2.1 39)), (2, .ref (t.2.2.1 40)), (1, .ref (t.2.2.1 0)), (0, .ref b)] := hl
  obtain ⟨⟨g, r, u1⟩, hf, k, hok, hm⟩ := jRestore hJ sv_r
  dsimp only at hok hm
  obtain ⟨hg, hk, hkr, hk0⟩ := okIS_x hok
  refine lv_aload_n X.1.1 X.1.2.1 dL_law_1609 rfl (lv_at hl 3 rfl) ?_
  refine lv_aload_n X.1.1 X.1.2.1 dL_law_1610 rfl (lv_at hl 4 rfl) ?_
  refine lv_iload X.1.1 X.1.2.1 dL_law_1611 (lv_at hl 0 rfl) ?_
  refine x_iconst X dL_law_1613 ?_
  refine x_iadd X dL_law_1614 ?_
  refine x_sld X hX hbl ht hS ⟨by omega, by omega⟩ hL dL_law_1615 ?_
  refine lv_aload_n X.1.1 X.1.2.1 dL_law_1616 rfl (lv_at hl 1 rfl) ?_
  refine x_callWi X hN hG hS (c_L_restoreSnapshot l hfl t (sv xs (i + 1)) u g r u1 hf hg) (vx_cwSW 3 X.1.2.2.2.2 gL_law_L_restoreSnapshot rfl rfl rfl hdL_restoreSnapshot ⟨Nat.le_of_ble_eq_true rfl, Nat.le_of_ble_eq_true rfl⟩) (by rfl) hl.1 (Nat.le_of_ble_eq_true rfl) dL_law_1617 ⟨by show cells + 2 ≤ 601024; omega, by show slots + 12 ≤ 7293034; omega⟩ rfl (fun H locs hG hS => ?_)
  rw [hk]
  generalize hw : (if g = 0 then up u1 39 0 (iI r).toInt else u1) = w at hG
  obtain ⟨⟨r2, u2⟩, hm2, e1, e2, e3, hJ2⟩ := hm w (fun d hd => by rw [← hw]; exact w39_o d hd)
  dsimp only at hm2 e1 e2 e3 hJ2
  refine lv_istore (lv' := [(5, .int (iI k)), (4, .int (iI i)), (3, .ref (t.2.2.1 39)), (2, .ref (t.2.2.1 40)), (1, .ref (t.2.2.1 0)), (0, .ref b)]) X.1.1 X.1.2.1 dL_law_1620 hl (by decide) rfl (fun ls hl => ?_)
  refine lv_aload_n X.1.1 X.1.2.1 dL_law_1622 rfl (lv_at hl 3 rfl) ?_
  refine lv_aload_n X.1.1 X.1.2.1 dL_law_1623 rfl (lv_at hl 5 rfl) ?_
  refine lv_iload X.1.1 X.1.2.1 dL_law_1624 (lv_at hl 1 rfl) ?_
  refine x_iconst X dL_law_1626 ?_
  refine x_iadd X dL_law_1627 ?_
  refine x_sld X hX hbl ht hS ⟨by omega, by omega⟩ hL dL_law_1628 ?_
  refine x_callVi0 X hG hS (c_X10_restoreSnapshot l t (sv xs (i + 1)) _ _ _ hm2) (cwV 1 X.1.2.2.2.2 gL_law_X10_restoreSnapshot rfl rfl rfl hd_X10_restoreSnapshot ⟨Nat.le_of_ble_eq_true rfl, Nat.le_of_ble_eq_true rfl⟩) q40.1 q40.2 rfl (by decide) (by rfl) hl.1 (Nat.le_of_ble_eq_true rfl) dL_law_1629 ⟨by show cells + 2 ≤ 601024; omega, by show slots + 12 ≤ 7293034; omega⟩ rfl (fun H locs hG hS => ?_)
  refine lv_istore (lv' := [(6, .int (iI r2)), (5, .int (iI k)), (4, .int (iI i)), (3, .ref (t.2.2.1 39)), (2, .ref (t.2.2.1 40)), (1, .ref (t.2.2.1 0)), (0, .ref b)]) X.1.1 X.1.2.1 dL_law_1632 hl (by decide) rfl (fun ls hl => ?_)
  refine lv_aload_n X.1.1 X.1.2.1 dL_law_1634 rfl (lv_at hl 4 rfl) ?_
  refine x_callVi0 X hG hS (c_X10_thrown l t _ _ _ (x_thrown_f u2)) (cwV 0 X.1.2.2.2.2 gL_law_X10_thrown rfl rfl rfl hd_X10_thrown ⟨Nat.le_of_ble_eq_true rfl, Nat.le_of_ble_eq_true rfl⟩) q40.1 q40.2 rfl (by decide) (by rfl) hl.1 (Nat.le_of_ble_eq_true rfl) dL_law_1635 ⟨by show cells + 2 ≤ 601024; omega, by show slots + 12 ≤ 7293034; omega⟩ rfl (fun H locs hG hS => ?_)
  rw [e1]
  refine lv_iload X.1.1 X.1.2.1 dL_law_1638 (lv_at hl 1 rfl) ?_
  refine lv_icmp_eq (tgt := 1645) X.1.1 X.1.2.1 dL_law_1640 (by decide) (fun _ => ?_) (fun h => absurd rfl h)
  refine lv_iload X.1.1 X.1.2.1 dL_law_1645 (lv_at hl 1 rfl) ?_
  refine x_if_ne (tgt := 1662) X hkr dL_law_1647 (by decide) (fun _ => ?_) (fun h0 => ?_)
  · refine lv_goto (tgt := 1665) X.1.1 X.1.2.1 dL_law_1662 (by decide) ?_
    exact W.widen (k := cells + 13) (n := slots + 1206) (by omega) (by omega) (kk t u2 H locs ls X ht hJ2 hG hS (lv_sub hl [2, 3, 4, 5, 6] rfl))
  · have g0 := hk0 h0
    have er : r2 = r := e2 h0
    have e39 : u2 39 0 = (iI r).toInt := by rw [e3, ← hw]; exact w39_s g0
    refine lv_aload_n X.1.1 X.1.2.1 dL_law_1650 rfl (lv_at hl 3 rfl) ?_
    refine x_iconst X dL_law_1651 ?_
    refine x_lald X hG q39.1 q39.2.1 q39.2.2 (by decide) (by decide) dL_law_1652 ?_
    rw [e39]
    refine lv_iload X.1.1 X.1.2.1 dL_law_1653 (lv_at hl 0 rfl) ?_
    rw [er]
    rw [← iI_x (iI r)]
    have ev : ((iI ((iI r).toInt)).toInt) = (iI r).toInt := by rw [iI_x]
    rw [ev]
    have eL : InL (iI r).toInt := ⟨by have := (inR_x (iI r)).1; omega, by have := (inR_x (iI r)).2; omega⟩
    refine x_i2l X (inR_x _) dL_law_1655 ?_
    refine x_lcmp X eL eL dL_law_1656 ?_
    rw [cmpL_self]
    refine x_if_eq (tgt := 1662) X (by decide) dL_law_1657 (by decide) (fun _ => ?_) (fun h => absurd rfl h)
    refine lv_goto (tgt := 1665) X.1.1 X.1.2.1 dL_law_1662 (by decide) ?_
    exact W.widen (k := cells + 13) (n := slots + 1206) (by omega) (by omega) (kk t u2 H locs ls X ht hJ2 hG hS (lv_sub hl [2, 3, 4, 5, 6] rfl))
end LL3
