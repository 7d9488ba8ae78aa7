/-! L, part g, 2: the law's calls, one by one -/
section LL2
variable {p : Program} {l : Launch} {e : Env} {s : State} {m : MethodId} {below : List Frame} {meth : Method} {c : Code} {b L : Nat} {xs : Nat → Int32} {Q : State → Prop}
set_option maxRecDepth 100000 in
set_option maxHeartbeats 8000000 in
theorem lc_14 : lC p l e s m below meth c b L xs Q 931 := by
  intro t u i H locs ls cells slots X hN hX hbl ht hL hfl hJ hG hS hl hi hc hs kk
  have q0 : 0 < NN ∧ sT 0 = 13 := by decide
  have q40 : 40 < NN ∧ sT 40 = 14 := by decide
  have q39 : 39 < NN ∧ sT 39 = 103 ∧ sN 39 = 1 := by decide
  replace hl : lv_has ls 7 [(4, .int (iI i)), (3, .ref (t.2.2.1 39)), (2, .ref (t.2.2.1 40)), (1, .ref (t.2.2.1 0)), (0, .ref b)] := hl
  obtain ⟨⟨g, r, u1⟩, hf, k, hok, hm⟩ := jMisfit hJ sv_r sv_r
  dsimp only at hok hm
  obtain ⟨hg, hk, hkr, hk0⟩ := okIS_x hok
  refine lv_aload_n X.1.1 X.1.2.1 dL_law_931 rfl (lv_at hl 3 rfl) ?_
  refine lv_aload_n X.1.1 X.1.2.1 dL_law_932 rfl (lv_at hl 4 rfl) ?_
  refine lv_iload X.1.1 X.1.2.1 dL_law_933 (lv_at hl 0 rfl) ?_
  refine x_iconst X dL_law_935 ?_
  refine x_iadd X dL_law_936 ?_
  refine x_sld X hX hbl ht hS ⟨by omega, by omega⟩ hL dL_law_937 ?_
  refine lv_aload_n X.1.1 X.1.2.1 dL_law_938 rfl (lv_at hl 4 rfl) ?_
  refine lv_iload X.1.1 X.1.2.1 dL_law_939 (lv_at hl 0 rfl) ?_
  refine x_iconst X dL_law_941 ?_
  refine x_iadd X dL_law_942 ?_
  refine x_sld X hX hbl ht hS ⟨by omega, by omega⟩ hL dL_law_943 ?_
  refine lv_aload_n X.1.1 X.1.2.1 dL_law_944 rfl (lv_at hl 1 rfl) ?_
  refine x_callWi X hN hG hS (c_L_misfit l hfl t (sv xs (i + 1)) (sv xs (i + 2)) u g r u1 hf hg) (vx_cwSW 4 X.1.2.2.2.2 gL_law_L_misfit rfl rfl rfl hdL_misfit ⟨Nat.le_of_ble_eq_true rfl, Nat.le_of_ble_eq_true rfl⟩) (by rfl) hl.1 (Nat.le_of_ble_eq_true rfl) dL_law_945 ⟨by show cells + 3 ≤ 601024; omega, by show slots + 18 ≤ 7293034; omega⟩ rfl (fun H locs hG hS => ?_)
  rw [hk]
  generalize hw : (if g = 0 then up u1 39 0 (iI r).toInt else u1) = w at hG
  obtain ⟨⟨r2, u2⟩, hm2, e1, e2, e3, hJ2⟩ := hm w (fun d hd => by rw [← hw]; exact w39_o d hd)
  dsimp only at hm2 e1 e2 e3 hJ2
  refine lv_istore (lv' := [(5, .int (iI k)), (4, .int (iI i)), (3, .ref (t.2.2.1 39)), (2, .ref (t.2.2.1 40)), (1, .ref (t.2.2.1 0)), (0, .ref b)]) X.1.1 X.1.2.1 dL_law_948 hl (by decide) rfl (fun ls hl => ?_)
  refine lv_aload_n X.1.1 X.1.2.1 dL_law_950 rfl (lv_at hl 3 rfl) ?_
  refine lv_aload_n X.1.1 X.1.2.1 dL_law_951 rfl (lv_at hl 5 rfl) ?_
  refine lv_iload X.1.1 X.1.2.1 dL_law_952 (lv_at hl 1 rfl) ?_
  refine x_iconst X dL_law_954 ?_
  refine x_iadd X dL_law_955 ?_
  refine x_sld X hX hbl ht hS ⟨by omega, by omega⟩ hL dL_law_956 ?_
  refine lv_aload_n X.1.1 X.1.2.1 dL_law_957 rfl (lv_at hl 5 rfl) ?_
  refine lv_iload X.1.1 X.1.2.1 dL_law_958 (lv_at hl 1 rfl) ?_
  refine x_iconst X dL_law_960 ?_
  refine x_iadd X dL_law_961 ?_
  refine x_sld X hX hbl ht hS ⟨by omega, by omega⟩ hL dL_law_962 ?_
  refine x_callVi0 X hG hS (c_X10_misfit l t (sv xs (i + 1)) (sv xs (i + 2)) _ _ _ hm2) (cwV 2 X.1.2.2.2.2 gL_law_X10_misfit rfl rfl rfl hd_X10_misfit ⟨Nat.le_of_ble_eq_true rfl, Nat.le_of_ble_eq_true rfl⟩) q40.1 q40.2 rfl (by decide) (by rfl) hl.1 (Nat.le_of_ble_eq_true rfl) dL_law_963 ⟨by show cells + 3 ≤ 601024; omega, by show slots + 18 ≤ 7293034; omega⟩ rfl (fun H locs hG hS => ?_)
  refine lv_istore (lv' := [(6, .int (iI r2)), (5, .int (iI k)), (4, .int (iI i)), (3, .ref (t.2.2.1 39)), (2, .ref (t.2.2.1 40)), (1, .ref (t.2.2.1 0)), (0, .ref b)]) X.1.1 X.1.2.1 dL_law_966 hl (by decide) rfl (fun ls hl => ?_)
  refine lv_aload_n X.1.1 X.1.2.1 dL_law_968 rfl (lv_at hl 4 rfl) ?_
  refine x_callVi0 X hG hS (c_X10_thrown l t _ _ _ (x_thrown_f u2)) (cwV 0 X.1.2.2.2.2 gL_law_X10_thrown rfl rfl rfl hd_X10_thrown ⟨Nat.le_of_ble_eq_true rfl, Nat.le_of_ble_eq_true rfl⟩) q40.1 q40.2 rfl (by decide) (by rfl) hl.1 (Nat.le_of_ble_eq_true rfl) dL_law_969 ⟨by show cells + 3 ≤ 601024; omega, by show slots + 18 ≤ 7293034; omega⟩ rfl (fun H locs hG hS => ?_)
  rw [e1]
  refine lv_iload X.1.1 X.1.2.1 dL_law_972 (lv_at hl 1 rfl) ?_
  refine lv_icmp_eq (tgt := 979) X.1.1 X.1.2.1 dL_law_974 (by decide) (fun _ => ?_) (fun h => absurd rfl h)
  refine lv_iload X.1.1 X.1.2.1 dL_law_979 (lv_at hl 1 rfl) ?_
  refine x_if_ne (tgt := 996) X hkr dL_law_981 (by decide) (fun _ => ?_) (fun h0 => ?_)
  · refine lv_goto (tgt := 1665) X.1.1 X.1.2.1 dL_law_996 (by decide) ?_
    exact W.widen (k := cells + 13) (n := slots + 1206) (by omega) (by omega) (kk t u2 H locs ls X ht hJ2 hG hS (lv_sub hl [2, 3, 4, 5, 6] rfl))
  · have g0 := hk0 h0
    have er : r2 = r := e2 h0
    have e39 : u2 39 0 = (iI r).toInt := by rw [e3, ← hw]; exact w39_s g0
    refine lv_aload_n X.1.1 X.1.2.1 dL_law_984 rfl (lv_at hl 3 rfl) ?_
    refine x_iconst X dL_law_985 ?_
    refine x_lald X hG q39.1 q39.2.1 q39.2.2 (by decide) (by decide) dL_law_986 ?_
    rw [e39]
    refine lv_iload X.1.1 X.1.2.1 dL_law_987 (lv_at hl 0 rfl) ?_
    rw [er]
    rw [← iI_x (iI r)]
    have ev : ((iI ((iI r).toInt)).toInt) = (iI r).toInt := by rw [iI_x]
    rw [ev]
    have eL : InL (iI r).toInt := ⟨by have := (inR_x (iI r)).1; omega, by have := (inR_x (iI r)).2; omega⟩
    refine x_i2l X (inR_x _) dL_law_989 ?_
    refine x_lcmp X eL eL dL_law_990 ?_
    rw [cmpL_self]
    refine x_if_eq (tgt := 996) X (by decide) dL_law_991 (by decide) (fun _ => ?_) (fun h => absurd rfl h)
    refine lv_goto (tgt := 1665) X.1.1 X.1.2.1 dL_law_996 (by decide) ?_
    exact W.widen (k := cells + 13) (n := slots + 1206) (by omega) (by omega) (kk t u2 H locs ls X ht hJ2 hG hS (lv_sub hl [2, 3, 4, 5, 6] rfl))
set_option maxRecDepth 100000 in
set_option maxHeartbeats 8000000 in
theorem lc_15 : lC p l e s m below meth c b L xs Q 999 := by
  intro t u i H locs ls cells slots X hN hX hbl ht hL hfl hJ hG hS hl hi hc hs kk
  have q0 : 0 < NN ∧ sT 0 = 13 := by decide
  have q40 : 40 < NN ∧ sT 40 = 14 := by decide
  have q39 : 39 < NN ∧ sT 39 = 103 ∧ sN 39 = 1 := by decide
  replace hl : lv_has ls 7 [(4, .int (iI i)), (3, .ref (t.2.2.1 39)), (2, .ref (t.2.2.1 40)), (1, .ref (t.2.2.1 0)), (0, .ref b)] := hl
  obtain ⟨⟨g, r, u1⟩, hf, k, hok, hm⟩ := jDescribe hJ sv_r
  dsimp only at hok hm
  obtain ⟨hg, hk, hkr, hk0⟩ := okI_x hok
  refine lv_aload_n X.1.1 X.1.2.1 dL_law_999 rfl (lv_at hl 3 rfl) ?_
  refine lv_aload_n X.1.1 X.1.2.1 dL_law_1000 rfl (lv_at hl 4 rfl) ?_
  refine lv_iload X.1.1 X.1.2.1 dL_law_1001 (lv_at hl 0 rfl) ?_
  refine x_iconst X dL_law_1003 ?_
  refine x_iadd X dL_law_1004 ?_
  refine x_sld X hX hbl ht hS ⟨by omega, by omega⟩ hL dL_law_1005 ?_
  refine lv_aload_n X.1.1 X.1.2.1 dL_law_1006 rfl (lv_at hl 1 rfl) ?_
  refine x_callWim X hN hG hS (c_L_describe l hfl t (sv xs (i + 1)) u g r u1 hf hg) (vx_cwSW 3 X.1.2.2.2.2 gL_law_L_describe rfl rfl rfl hdL_describe ⟨Nat.le_of_ble_eq_true rfl, Nat.le_of_ble_eq_true rfl⟩) (by rfl) hl.1 (Nat.le_of_ble_eq_true rfl) dL_law_1007 ⟨by show cells + 13 ≤ 601024; omega, by show slots + 1206 ≤ 7293034; omega⟩ rfl (fun bb H locs hG hS => ?_)
  replace X := X.mv (b := bb)
  replace hS : va_S (gA (mv t bb)) s.heap H locs := hS
  replace ht : (mv t bb).2.2.2 = s.heap.size := ht
  generalize ht2 : mv t bb = t2 at X hG hS ht
  have a0 : t.2.2.1 0 = t2.2.2.1 0 := by subst ht2; rfl
  have a39 : t.2.2.1 39 = t2.2.2.1 39 := by subst ht2; rfl
  have a40 : t.2.2.1 40 = t2.2.2.1 40 := by subst ht2; rfl
  rw [a0, a39, a40] at hl
  rw [hk]
  generalize hw : (if g = 0 then up u1 39 0 (iI r).toInt else u1) = w at hG
  obtain ⟨⟨r2, u2⟩, hm2, e1, e2, e3, hJ2⟩ := hm w (fun d hd => by rw [← hw]; exact w39_o d hd)
  dsimp only at hm2 e1 e2 e3 hJ2
  refine lv_istore (lv' := [(5, .int (iI k)), (4, .int (iI i)), (3, .ref (t2.2.2.1 39)), (2, .ref (t2.2.2.1 40)), (1, .ref (t2.2.2.1 0)), (0, .ref b)]) X.1.1 X.1.2.1 dL_law_1010 hl (by decide) rfl (fun ls hl => ?_)
  refine lv_aload_n X.1.1 X.1.2.1 dL_law_1012 rfl (lv_at hl 3 rfl) ?_
  refine lv_aload_n X.1.1 X.1.2.1 dL_law_1013 rfl (lv_at hl 5 rfl) ?_
  refine lv_iload X.1.1 X.1.2.1 dL_law_1014 (lv_at hl 1 rfl) ?_
  refine x_iconst X dL_law_1016 ?_
  refine x_iadd X dL_law_1017 ?_
  refine x_sld X hX hbl ht hS ⟨by omega, by omega⟩ hL dL_law_1018 ?_
  refine x_callVi0 X hG hS (c_X10_describe l t2 (sv xs (i + 1)) _ _ _ hm2) (cwV 1 X.1.2.2.2.2 gL_law_X10_describe rfl rfl rfl hd_X10_describe ⟨Nat.le_of_ble_eq_true rfl, Nat.le_of_ble_eq_true rfl⟩) q40.1 q40.2 rfl (by decide) (by rfl) hl.1 (Nat.le_of_ble_eq_true rfl) dL_law_1019 ⟨by show cells + 13 ≤ 601024; omega, by show slots + 1206 ≤ 7293034; omega⟩ rfl (fun H locs hG hS => ?_)
  refine lv_istore (lv' := [(6, .int (iI r2)), (5, .int (iI k)), (4, .int (iI i)), (3, .ref (t2.2.2.1 39)), (2, .ref (t2.2.2.1 40)), (1, .ref (t2.2.2.1 0)), (0, .ref b)]) X.1.1 X.1.2.1 dL_law_1022 hl (by decide) rfl (fun ls hl => ?_)
  refine lv_aload_n X.1.1 X.1.2.1 dL_law_1024 rfl (lv_at hl 4 rfl) ?_
  refine x_callVi0 X hG hS (c_X10_thrown l t2 _ _ _ (x_thrown_f u2)) (cwV 0 X.1.2.2.2.2 gL_law_X10_thrown rfl rfl rfl hd_X10_thrown ⟨Nat.le_of_ble_eq_true rfl, Nat.le_of_ble_eq_true rfl⟩) q40.1 q40.2 rfl (by decide) (by rfl) hl.1 (Nat.le_of_ble_eq_true rfl) dL_law_1025 ⟨by show cells + 13 ≤ 601024; omega, by show slots + 1206 ≤ 7293034; omega⟩ rfl (fun H locs hG hS => ?_)
  rw [e1]
  refine lv_iload X.1.1 X.1.2.1 dL_law_1028 (lv_at hl 1 rfl) ?_
  refine lv_icmp_eq (tgt := 1035) X.1.1 X.1.2.1 dL_law_1030 (by decide) (fun _ => ?_) (fun h => absurd rfl h)
  refine lv_iload X.1.1 X.1.2.1 dL_law_1035 (lv_at hl 1 rfl) ?_
  refine x_if_ne (tgt := 1052) X hkr dL_law_1037 (by decide) (fun _ => ?_) (fun h0 => ?_)
  · refine lv_goto (tgt := 1665) X.1.1 X.1.2.1 dL_law_1052 (by decide) ?_
    exact W.widen (k := cells + 13) (n := slots + 1206) (by omega) (by omega) (kk t2 u2 H locs ls X ht hJ2 hG hS (lv_sub hl [2, 3, 4, 5, 6] rfl))
  · have g0 := hk0 h0
    have er : r2 = r := e2 h0
    have e39 : u2 39 0 = (iI r).toInt := by rw [e3, ← hw]; exact w39_s g0
    refine lv_aload_n X.1.1 X.1.2.1 dL_law_1040 rfl (lv_at hl 3 rfl) ?_
    refine x_iconst X dL_law_1041 ?_
    refine x_lald X hG q39.1 q39.2.1 q39.2.2 (by decide) (by decide) dL_law_1042 ?_
    rw [e39]
    refine lv_iload X.1.1 X.1.2.1 dL_law_1043 (lv_at hl 0 rfl) ?_
    rw [er]
    rw [← iI_x (iI r)]
    have ev : ((iI ((iI r).toInt)).toInt) = (iI r).toInt := by rw [iI_x]
    rw [ev]
    have eL : InL (iI r).toInt := ⟨by have := (inR_x (iI r)).1; omega, by have := (inR_x (iI r)).2; omega⟩
    refine x_i2l X (inR_x _) dL_law_1045 ?_
    refine x_lcmp X eL eL dL_law_1046 ?_
    rw [cmpL_self]
    refine x_if_eq (tgt := 1052) X (by decide) dL_law_1047 (by decide) (fun _ => ?_) (fun h => absurd rfl h)
    refine lv_goto (tgt := 1665) X.1.1 X.1.2.1 dL_law_1052 (by decide) ?_
    exact W.widen (k := cells + 13) (n := slots + 1206) (by omega) (by omega) (kk t2 u2 H locs ls X ht hJ2 hG hS (lv_sub hl [2, 3, 4, 5, 6] rfl))
set_option maxRecDepth 100000 in
set_option maxHeartbeats 8000000 in
theorem lc_16 : lC p l e s m below meth c b L xs Q 1055 := by
  intro t u i H locs ls cells slots X hN hX hbl ht hL hfl hJ hG hS hl hi hc hs kk
  have q0 : 0 < NN ∧ sT 0 = 13 := by decide
  have q40 : 40 < NN ∧ sT 40 = 14 := by decide
  have q39 : 39 < NN ∧ sT 39 = 103 ∧ sN 39 = 1 := by decide
  replace hl : lv_has ls 7 [(4, .int (iI i)), (3, .ref (t.2.2.1 39)), (2, .ref (t.2.2.1 40)), (1, .ref (t.2.2.1 0)), (0, .ref b)] := hl
  obtain ⟨⟨r, u1⟩, hf, ⟨r2, u2⟩, hm, e1, e2, hJ2⟩ := jByte hJ sv_r
  dsimp only at hm e1 e2 hJ2
  subst e1
  refine lv_aload_n X.1.1 X.1.2.1 dL_law_1055 rfl (lv_at hl 3 rfl) ?_
  refine lv_aload_n X.1.1 X.1.2.1 dL_law_1056 rfl (lv_at hl 4 rfl) ?_
  refine lv_iload X.1.1 X.1.2.1 dL_law_1057 (lv_at hl 0 rfl) ?_
  refine x_iconst X dL_law_1059 ?_
  refine x_iadd X dL_law_1060 ?_
  refine x_sld X hX hbl ht hS ⟨by omega, by omega⟩ hL dL_law_1061 ?_
  refine x_callVi0 X hG hS (c_X9_describedByte l t (sv xs (i + 1)) _ _ _ hf) (cwV 1 X.1.2.2.2.2 gL_law_X9_describedByte rfl rfl rfl hd_X9_describedByte ⟨Nat.le_of_ble_eq_true rfl, Nat.le_of_ble_eq_true rfl⟩) q0.1 q0.2 rfl (by decide) (by rfl) hl.1 (Nat.le_of_ble_eq_true rfl) dL_law_1062 ⟨by show cells ≤ 601024; omega, by show slots ≤ 7293034; omega⟩ rfl (fun H locs hG hS => ?_)
  refine lv_aload_n X.1.1 X.1.2.1 dL_law_1065 rfl (lv_at hl 2 rfl) ?_
  refine lv_aload_n X.1.1 X.1.2.1 dL_law_1066 rfl (lv_at hl 4 rfl) ?_
  refine lv_iload X.1.1 X.1.2.1 dL_law_1067 (lv_at hl 0 rfl) ?_
  refine x_iconst X dL_law_1069 ?_
  refine x_iadd X dL_law_1070 ?_
  refine x_sld X hX hbl ht hS ⟨by omega, by omega⟩ hL dL_law_1071 ?_
  refine x_callVi0 X hG hS (c_X10_describedByte l t (sv xs (i + 1)) _ _ _ hm) (cwV 1 X.1.2.2.2.2 gL_law_X10_describedByte rfl rfl rfl hd_X10_describedByte ⟨Nat.le_of_ble_eq_true rfl, Nat.le_of_ble_eq_true rfl⟩) q40.1 q40.2 rfl (by decide) (by rfl) hl.1 (Nat.le_of_ble_eq_true rfl) dL_law_1072 ⟨by show cells ≤ 601024; omega, by show slots ≤ 7293034; omega⟩ rfl (fun H locs hG hS => ?_)
  refine lv_icmp_eq (tgt := 1665) X.1.1 X.1.2.1 dL_law_1075 (by decide) (fun _ => ?_) (fun h => absurd rfl h)
  exact W.widen (k := cells + 13) (n := slots + 1206) (by omega) (by omega) (kk t u2 H locs ls X ht hJ2 hG hS hl)
set_option maxRecDepth 100000 in
set_option maxHeartbeats 8000000 in
theorem lc_17 : lC p l e s m below meth c b L xs Q 1080 := by
  intro t u i H locs ls cells slots X hN hX hbl ht hL hfl hJ hG hS hl hi hc hs kk
  have q0 : 0 < NN ∧ sT 0 = 13 := by decide
  have q40 : 40 < NN ∧ sT 40 = 14 := by decide
  have q39 : 39 < NN ∧ sT 39 = 103 ∧ sN 39 = 1 := by decide
  replace hl : lv_has ls 7 [(4, .int (iI i)), (3, .ref (t.2.2.1 39)), (2, .ref (t.2.2.1 40)), (1, .ref (t.2.2.1 0)), (0, .ref b)] := hl
  obtain ⟨⟨g, r, u1⟩, hf, k, hok, hm⟩ := jRatioAfter hJ sv_r sv_r sv_r
  dsimp only at hok hm
  obtain ⟨hg, hk, hkr, hk0⟩ := okIA_x hok
  refine lv_aload_n X.1.1 X.1.2.1 dL_law_1080 rfl (lv_at hl 3 rfl) ?_
  refine lv_aload_n X.1.1 X.1.2.1 dL_law_1081 rfl (lv_at hl 4 rfl) ?_
  refine lv_iload X.1.1 X.1.2.1 dL_law_1082 (lv_at hl 0 rfl) ?_
  refine x_iconst X dL_law_1084 ?_
  refine x_iadd X dL_law_1085 ?_
  refine x_sld X hX hbl ht hS ⟨by omega, by omega⟩ hL dL_law_1086 ?_
  refine lv_aload_n X.1.1 X.1.2.1 dL_law_1087 rfl (lv_at hl 4 rfl) ?_
  refine lv_iload X.1.1 X.1.2.1 dL_law_1088 (lv_at hl 0 rfl) ?_
  refine x_iconst X dL_law_1090 ?_
  refine x_iadd X dL_law_1091 ?_
  refine x_sld X hX hbl ht hS ⟨by omega, by omega⟩ hL dL_law_1092 ?_
  refine lv_aload_n X.1.1 X.1.2.1 dL_law_1093 rfl (lv_at hl 4 rfl) ?_
  refine lv_iload X.1.1 X.1.2.1 dL_law_1094 (lv_at hl 0 rfl) ?_
  refine x_iconst X dL_law_1096 ?_
  refine x_iadd X dL_law_1097 ?_
  refine x_sld X hX hbl ht hS ⟨by omega, by omega⟩ hL dL_law_1098 ?_
  refine lv_aload_n X.1.1 X.1.2.1 dL_law_1099 rfl (lv_at hl 1 rfl) ?_
  refine x_callWi X hN hG hS (c_L_ratioAfter l hfl t (sv xs (i + 1)) (sv xs (i + 2)) (sv xs (i + 3)) u g r u1 hf hg) (vx_cwSW 5 X.1.2.2.2.2 gL_law_L_ratioAfter rfl rfl rfl hdL_ratioAfter ⟨Nat.le_of_ble_eq_true rfl, Nat.le_of_ble_eq_true rfl⟩) (by rfl) hl.1 (Nat.le_of_ble_eq_true rfl) dL_law_1100 ⟨by show cells + 3 ≤ 601024; omega, by show slots + 18 ≤ 7293034; omega⟩ rfl (fun H locs hG hS => ?_)
  rw [hk]
  generalize hw : (if g = 0 then up u1 39 0 (iI r).toInt else u1) = w at hG
  obtain ⟨⟨r2, u2⟩, hm2, e1, e2, e3, hJ2⟩ := hm w (fun d hd => by rw [← hw]; exact w39_o d hd)
  dsimp only at hm2 e1 e2 e3 hJ2
  refine lv_istore (lv' := [(5, .int (iI k)), (4, .int (iI i)), (3, .ref (t.2.2.1 39)), (2, .ref (t.2.2.1 40)), (1, .ref (t.2.2.1 0)), (0, .ref b)]) X.1.1 X.1.2.1 dL_law_1103 hl (by decide) rfl (fun ls hl => ?_)
  refine lv_aload_n X.1.1 X.1.2.1 dL_law_1105 rfl (lv_at hl 3 rfl) ?_
  refine lv_aload_n X.1.1 X.1.2.1 dL_law_1106 rfl (lv_at hl 5 rfl) ?_
  refine lv_iload X.1.1 X.1.2.1 dL_law_1107 (lv_at hl 1 rfl) ?_
  refine x_iconst X dL_law_1109 ?_
  refine x_iadd X dL_law_1110 ?_
  refine x_sld X hX hbl ht hS ⟨by omega, by omega⟩ hL dL_law_1111 ?_
  refine lv_aload_n X.1.1 X.1.2.1 dL_law_1112 rfl (lv_at hl 5 rfl) ?_
  refine lv_iload X.1.1 X.1.2.1 dL_law_1113 (lv_at hl 1 rfl) ?_
  refine x_iconst X dL_law_1115 ?_
  refine x_iadd X dL_law_1116 ?_
  refine x_sld X hX hbl ht hS ⟨by omega, by omega⟩ hL dL_law_1117 ?_
  refine lv_aload_n X.1.1 X.1.2.1 dL_law_1118 rfl (lv_at hl 5 rfl) ?_
  refine lv_iload X.1.1 X.1.2.1 dL_law_1119 (lv_at hl 1 rfl) ?_
  refine x_iconst X dL_law_1121 ?_
  refine x_iadd X dL_law_1122 ?_
  refine x_sld X hX hbl ht hS ⟨by omega, by omega⟩ hL dL_law_1123 ?_
  refine x_callVi0 X hG hS (c_X10_ratioAfter l t (sv xs (i + 1)) (sv xs (i + 2)) (sv xs (i + 3)) _ _ _ hm2) (cwV 3 X.1.2.2.2.2 gL_law_X10_ratioAfter rfl rfl rfl hd_X10_ratioAfter ⟨Nat.le_of_ble_eq_true rfl, Nat.le_of_ble_eq_true rfl⟩) q40.1 q40.2 rfl (by decide) (by rfl) hl.1 (Nat.le_of_ble_eq_true rfl) dL_law_1124 ⟨by show cells + 3 ≤ 601024; omega, by show slots + 18 ≤ 7293034; omega⟩ rfl (fun H locs hG hS => ?_)
  refine lv_istore (lv' := [(6, .int (iI r2)), (5, .int (iI k)), (4, .int (iI i)), (3, .ref (t.2.2.1 39)), (2, .ref (t.2.2.1 40)), (1, .ref (t.2.2.1 0)), (0, .ref b)]) X.1.1 X.1.2.1 dL_law_1127 hl (by decide) rfl (fun ls hl => ?_)
  refine lv_aload_n X.1.1 X.1.2.1 dL_law_1129 rfl (lv_at hl 4 rfl) ?_
  refine x_callVi0 X hG hS (c_X10_thrown l t _ _ _ (x_thrown_f u2)) (cwV 0 X.1.2.2.2.2 gL_law_X10_thrown rfl rfl rfl hd_X10_thrown ⟨Nat.le_of_ble_eq_true rfl, Nat.le_of_ble_eq_true rfl⟩) q40.1 q40.2 rfl (by decide) (by rfl) hl.1 (Nat.le_of_ble_eq_true rfl) dL_law_1130 ⟨by show cells + 3 ≤ 601024; omega, by show slots + 18 ≤ 7293034; omega⟩ rfl (fun H locs hG hS => ?_)
  rw [e1]
  refine lv_iload X.1.1 X.1.2.1 dL_law_1133 (lv_at hl 1 rfl) ?_
  refine lv_icmp_eq (tgt := 1140) X.1.1 X.1.2.1 dL_law_1135 (by decide) (fun _ => ?_) (fun h => absurd rfl h)
  refine lv_iload X.1.1 X.1.2.1 dL_law_1140 (lv_at hl 1 rfl) ?_
  refine x_if_ne (tgt := 1157) X hkr dL_law_1142 (by decide) (fun _ => ?_) (fun h0 => ?_)
  · refine lv_goto (tgt := 1665) X.1.1 X.1.2.1 dL_law_1157 (by decide) ?_
    exact W.widen (k := cells + 13) (n := slots + 1206) (by omega) (by omega) (kk t u2 H locs ls X ht hJ2 hG hS (lv_sub hl [2, 3, 4, 5, 6] rfl))
  · have g0 := hk0 h0
    have er : r2 = r := e2 h0
    have e39 : u2 39 0 = (iI r).toInt := by rw [e3, ← hw]; exact w39_s g0
    refine lv_aload_n X.1.1 X.1.2.1 dL_law_1145 rfl (lv_at hl 3 rfl) ?_
    refine x_iconst X dL_law_1146 ?_
    refine x_lald X hG q39.1 q39.2.1 q39.2.2 (by decide) (by decide) dL_law_1147 ?_
    rw [e39]
    refine lv_iload X.1.1 X.1.2.1 dL_law_1148 (lv_at hl 0 rfl) ?_
    rw [er]
    rw [← iI_x (iI r)]
    have ev : ((iI ((iI r).toInt)).toInt) = (iI r).toInt := by rw [iI_x]
    rw [ev]
    have eL : InL (iI r).toInt := ⟨by have := (inR_x (iI r)).1; omega, by have := (inR_x (iI r)).2; omega⟩
    refine x_i2l X (inR_x _) dL_law_1150 ?_
    refine x_lcmp X eL eL dL_law_1151 ?_
    rw [cmpL_self]
    refine x_if_eq (tgt := 1157) X (by decide) dL_law_1152 (by decide) (fun _ => ?_) (fun h => absurd rfl h)
    refine lv_goto (tgt := 1665) X.1.1 X.1.2.1 dL_law_1157 (by decide) ?_
    exact W.widen (k := cells + 13) (n := slots + 1206) (by omega) (by omega) (kk t u2 H locs ls X ht hJ2 hG hS (lv_sub hl [2, 3, 4, 5, 6] rfl))
set_option maxRecDepth 100000 in
set_option maxHeartbeats 8000000 in
theorem lc_18 : lC p l e s m below meth c b L xs Q 1160 := by
  intro t u i H locs ls cells slots X hN hX hbl ht hL hfl hJ hG hS hl hi hc hs kk
  have q0 : 0 < NN ∧ sT 0 = 13 := by decide
  have q40 : 40 < NN ∧ sT 40 = 14 := by decide
  have q39 : 39 < NN ∧ sT 39 = 103 ∧ sN 39 = 1 := by decide
  replace hl : lv_has ls 7 [(4, .int (iI i)), (3, .ref (t.2.2.1 39)), (2, .ref (t.2.2.1 40)), (1, .ref (t.2.2.1 0)), (0, .ref b)] := hl
  obtain ⟨⟨g, r, u1⟩, hf, k, hok, hm⟩ := jWithout hJ sv_r sv_r
  dsimp only at hok hm
  obtain ⟨hg, hk, hkr, hk0⟩ := okIAS_x hok
  refine lv_aload_n X.1.1 X.1.2.1 dL_law_1160 rfl (lv_at hl 3 rfl) ?_
  refine lv_aload_n X.1.1 X.1.2.1 dL_law_1161 rfl (lv_at hl 4 rfl) ?_
  refine lv_iload X.1.1 X.1.2.1 dL_law_1162 (lv_at hl 0 rfl) ?_
  refine x_iconst X dL_law_1164 ?_
  refine x_iadd X dL_law_1165 ?_
  refine x_sld X hX hbl ht hS ⟨by omega, by omega⟩ hL dL_law_1166 ?_
  refine lv_aload_n X.1.1 X.1.2.1 dL_law_1167 rfl (lv_at hl 4 rfl) ?_
  refine lv_iload X.1.1 X.1.2.1 dL_law_1168 (lv_at hl 0 rfl) ?_
  refine x_iconst X dL_law_1170 ?_
  refine x_iadd X dL_law_1171 ?_
  refine x_sld X hX hbl ht hS ⟨by omega, by omega⟩ hL dL_law_1172 ?_
  refine lv_aload_n X.1.1 X.1.2.1 dL_law_1173 rfl (lv_at hl 1 rfl) ?_
  refine x_callWi X hN hG hS (c_L_eventsWithout l hfl t (sv xs (i + 1)) (sv xs (i + 2)) u g r u1 hf hg) (vx_cwSW 4 X.1.2.2.2.2 gL_law_L_eventsWithout rfl rfl rfl hdL_eventsWithout ⟨Nat.le_of_ble_eq_true rfl, Nat.le_of_ble_eq_true rfl⟩) (by rfl) hl.1 (Nat.le_of_ble_eq_true rfl) dL_law_1174 ⟨by show cells + 3 ≤ 601024; omega, by show slots + 18 ≤ 7293034; omega⟩ rfl (fun H locs hG hS => ?_)
  rw [hk]
  generalize hw : (if g = 0 then up u1 39 0 (iI r).toInt else u1) = w at hG
  obtain ⟨⟨r2, u2⟩, hm2, e1, e2, e3, hJ2⟩ := hm w (fun d hd => by rw [← hw]; exact w39_o d hd)
  dsimp only at hm2 e1 e2 e3 hJ2
  refine lv_istore (lv' := [(5, .int (iI k)), (4, .int (iI i)), (3, .ref (t.2.2.1 39)), (2, .ref (t.2.2.1 40)), (1, .ref (t.2.2.1 0)), (0, .ref b)]) X.1.1 X.1.2.1 dL_law_1177 hl (by decide) rfl (fun ls hl => ?_)
  refine lv_aload_n X.1.1 X.1.2.1 dL_law_1179 rfl (lv_at hl 3 rfl) ?_
  refine lv_aload_n X.1.1 X.1.2.1 dL_law_1180 rfl (lv_at hl 5 rfl) ?_
  refine lv_iload X.1.1 X.1.2.1 dL_law_1181 (lv_at hl 1 rfl) ?_
  refine x_iconst X dL_law_1183 ?_
  refine x_iadd X dL_law_1184 ?_
  refine x_sld X hX hbl ht hS ⟨by omega, by omega⟩ hL dL_law_1185 ?_
  refine lv_aload_n X.1.1 X.1.2.1 dL_law_1186 rfl (lv_at hl 5 rfl) ?_
  refine lv_iload X.1.1 X.1.2.1 dL_law_1187 (lv_at hl 1 rfl) ?_
  refine x_iconst X dL_law_1189 ?_
  refine x_iadd X dL_law_1190 ?_
  refine x_sld X hX hbl ht hS ⟨by omega, by omega⟩ hL dL_law_1191 ?_
  refine x_callVi0 X hG hS (c_X10_eventsWithout l t (sv xs (i + 1)) (sv xs (i + 2)) _ _ _ hm2) (cwV 2 X.1.2.2.2.2 gL_law_X10_eventsWithout rfl rfl rfl hd_X10_eventsWithout ⟨Nat.le_of_ble_eq_true rfl, Nat.le_of_ble_eq_true rfl⟩) q40.1 q40.2 rfl (by decide) (by rfl) hl.1 (Nat.le_of_ble_eq_true rfl) dL_law_1192 ⟨by show cells + 3 ≤ 601024; omega, by show slots + 18 ≤ 7293034; omega⟩ rfl (fun H locs hG hS => ?_)
  refine lv_istore (lv' := [(6, .int (iI r2)), (5, .int (iI k)), (4, .int (iI i)), (3, .ref (t.2.2.1 39)), (2, .ref (t.2.2.1 40)), (1, .ref (t.2.2.1 0)), (0, .ref b)]) X.1.1 X.1.2.1 dL_law_1195 hl (by decide) rfl (fun ls hl => ?_)
  refine lv_aload_n X.1.1 X.1.2.1 dL_law_1197 rfl (lv_at hl 4 rfl) ?_
  refine x_callVi0 X hG hS (c_X10_thrown l t _ _ _ (x_thrown_f u2)) (cwV 0 X.1.2.2.2.2 gL_law_X10_thrown rfl rfl rfl hd_X10_thrown ⟨Nat.le_of_ble_eq_true rfl, Nat.le_of_ble_eq_true rfl⟩) q40.1 q40.2 rfl (by decide) (by rfl) hl.1 (Nat.le_of_ble_eq_true rfl) dL_law_1198 ⟨by show cells + 3 ≤ 601024; omega, by show slots + 18 ≤ 7293034; omega⟩ rfl (fun H locs hG hS => ?_)
  rw [e1]
  refine lv_iload X.1.1 X.1.2.1 dL_law_1201 (lv_at hl 1 rfl) ?_
  refine lv_icmp_eq (tgt := 1208) X.1.1 X.1.2.1 dL_law_1203 (by decide) (fun _ => ?_) (fun h => absurd rfl h)
  refine lv_iload X.1.1 X.1.2.1 dL_law_1208 (lv_at hl 1 rfl) ?_
  refine x_if_ne (tgt := 1225) X hkr dL_law_1210 (by decide) (fun _ => ?_) (fun h0 => ?_)
  · refine lv_goto (tgt := 1665) X.1.1 X.1.2.1 dL_law_1225 (by decide) ?_
    exact W.widen (k := cells + 13) (n := slots + 1206) (by omega) (by omega) (kk t u2 H locs ls X ht hJ2 hG hS (lv_sub hl [2, 3, 4, 5, 6] rfl))
  · have g0 := hk0 h0
    have er : r2 = r := e2 h0
    have e39 : u2 39 0 = (iI r).toInt := by rw [e3, ← hw]; exact w39_s g0
    refine lv_aload_n X.1.1 X.1.2.1 dL_law_1213 rfl (lv_at hl 3 rfl) ?_
    refine x_iconst X dL_law_1214 ?_
    refine x_lald X hG q39.1 q39.2.1 q39.2.2 (by decide) (by decide) dL_law_1215 ?_
    rw [e39]
    refine lv_iload X.1.1 X.1.2.1 dL_law_1216 (lv_at hl 0 rfl) ?_
    rw [er]
    rw [← iI_x (iI r)]
    have ev : ((iI ((iI r).toInt)).toInt) = (iI r).toInt := by rw [iI_x]
    rw [ev]
    have eL : InL (iI r).toInt := ⟨by have := (inR_x (iI r)).1; omega, by have := (inR_x (iI r)).2; omega⟩
    refine x_i2l X (inR_x _) dL_law_1218 ?_
    refine x_lcmp X eL eL dL_law_1219 ?_
    rw [cmpL_self]
    refine x_if_eq (tgt := 1225) X (by decide) dL_law_1220 (by decide) (fun _ => ?_) (fun h => absurd rfl h)
    refine lv_goto (tgt := 1665) X.1.1 X.1.2.1 dL_law_1225 (by decide) ?_
    exact W.widen (k := cells + 13) (n := slots + 1206) (by omega) (by omega) (kk t u2 H locs ls X ht hJ2 hG hS (lv_sub hl [2, 3, 4, 5, 6] rfl))
set_option maxRecDepth 100000 in
set_option maxHeartbeats 8000000 in
theorem lc_19 : lC p l e s m below meth c b L xs Q 1228 := by
  intro t u i H locs ls cells slots X hN hX hbl ht hL hfl hJ hG hS hl hi hc hs kk
  have q0 : 0 < NN ∧ sT 0 = 13 := by decide
  have q40 : 40 < NN ∧ sT 40 = 14 := by decide
  have q39 : 39 < NN ∧ sT 39 = 103 ∧ sN 39 = 1 := by decide
  replace hl : lv_has ls 7 [(4, .int (iI i)), (3, .ref (t.2.2.1 39)), (2, .ref (t.2.2.1 40)), (1, .ref (t.2.2.1 0)), (0, .ref b)] := hl
  obtain ⟨⟨r, u1⟩, hf, ⟨r2, u2⟩, hm, e1, e2, hJ2⟩ := jTte hJ 
  dsimp only at hm e1 e2 hJ2
  subst e1
  refine lv_aload_n X.1.1 X.1.2.1 dL_law_1228 rfl (lv_at hl 3 rfl) ?_
  refine x_callVi0 X hG hS (c_X9_ticksToEvent l t  _ _ _ hf) (cwV 0 X.1.2.2.2.2 gL_law_X9_ticksToEvent rfl rfl rfl hd_X9_ticksToEvent ⟨Nat.le_of_ble_eq_true rfl, Nat.le_of_ble_eq_true rfl⟩) q0.1 q0.2 rfl (by decide) (by rfl) hl.1 (Nat.le_of_ble_eq_true rfl) dL_law_1229 ⟨by show cells ≤ 601024; omega, by show slots ≤ 7293034; omega⟩ rfl (fun H locs hG hS => ?_)
  refine lv_aload_n X.1.1 X.1.2.1 dL_law_1232 rfl (lv_at hl 2 rfl) ?_
  refine x_callVi0 X hG hS (c_X10_ticksToEvent l t  _ _ _ hm) (cwV 0 X.1.2.2.2.2 gL_law_X10_ticksToEvent rfl rfl rfl hd_X10_ticksToEvent ⟨Nat.le_of_ble_eq_true rfl, Nat.le_of_ble_eq_true rfl⟩) q40.1 q40.2 rfl (by decide) (by rfl) hl.1 (Nat.le_of_ble_eq_true rfl) dL_law_1233 ⟨by show cells ≤ 601024; omega, by show slots ≤ 7293034; omega⟩ rfl (fun H locs hG hS => ?_)
  refine lv_icmp_eq (tgt := 1665) X.1.1 X.1.2.1 dL_law_1236 (by decide) (fun _ => ?_) (fun h => absurd rfl h)
  exact W.widen (k := cells + 13) (n := slots + 1206) (by omega) (by omega) (kk t u2 H locs ls X ht hJ2 hG hS hl)
set_option maxRecDepth 100000 in
set_option maxHeartbeats 8000000 in
theorem lc_20 : lC p l e s m below meth c b L xs Q 1241 := by
  intro t u i H locs ls cells slots X hN hX hbl ht hL hfl hJ hG hS hl hi hc hs kk
  have q0 : 0 < NN ∧ sT 0 = 13 := by decide
  have q40 : 40 < NN ∧ sT 40 = 14 := by decide
  have q39 : 39 < NN ∧ sT 39 = 103 ∧ sN 39 = 1 := by decide
  replace hl : lv_has ls 7 [(4, .int (iI i)), (3, .ref (t.2.2.1 39)), (2, .ref (t.2.2.1 40)), (1, .ref (t.2.2.1 0)), (0, .ref b)] := hl
  obtain ⟨⟨g, r, u1⟩, hf, k, hok, hm⟩ := jSetLevel hJ sv_r sv_r
  dsimp only at hok hm
  obtain ⟨hg, hk, hkr, hk0⟩ := okIA_x hok
  refine lv_aload_n X.1.1 X.1.2.1 dL_law_1241 rfl (lv_at hl 3 rfl) ?_
  refine lv_aload_n X.1.1 X.1.2.1 dL_law_1242 rfl (lv_at hl 4 rfl) ?_
  refine lv_iload X.1.1 X.1.2.1 dL_law_1243 (lv_at hl 0 rfl) ?_
  refine x_iconst X dL_law_1245 ?_
  refine x_iadd X dL_law_1246 ?_
  refine x_sld X hX hbl ht hS ⟨by omega, by omega⟩ hL dL_law_1247 ?_
  refine lv_aload_n X.1.1 X.1.2.1 dL_law_1248 rfl (lv_at hl 4 rfl) ?_
  refine lv_iload X.1.1 X.1.2.1 dL_law_1249 (lv_at hl 0 rfl) ?_
  refine x_iconst X dL_law_1251 ?_
  refine x_iadd X dL_law_1252 ?_
  refine x_sld X hX hbl ht hS ⟨by omega, by omega⟩ hL dL_law_1253 ?_
  refine lv_aload_n X.1.1 X.1.2.1 dL_law_1254 rfl (lv_at hl 1 rfl) ?_
  refine x_callWi X hN hG hS (c_L_setLevel l hfl t (sv xs (i + 1)) (sv xs (i + 2)) u g r u1 hf hg) (vx_cwSW 4 X.1.2.2.2.2 gL_law_L_setLevel rfl rfl rfl hdL_setLevel ⟨Nat.le_of_ble_eq_true rfl, Nat.le_of_ble_eq_true rfl⟩) (by rfl) hl.1 (Nat.le_of_ble_eq_true rfl) dL_law_1255 ⟨by show cells + 2 ≤ 601024; omega, by show slots + 12 ≤ 7293034; omega⟩ rfl (fun H locs hG hS => ?_)
  rw [hk]
  generalize hw : (if g = 0 then up u1 39 0 (iI r).toInt else u1) = w at hG
  obtain ⟨⟨r2, u2⟩, hm2, e1, e2, e3, hJ2⟩ := hm w (fun d hd => by rw [← hw]; exact w39_o d hd)
  dsimp only at hm2 e1 e2 e3 hJ2
  refine lv_istore (lv' := [(5, .int (iI k)), (4, .int (iI i)), (3, .ref (t.2.2.1 39)), (2, .ref (t.2.2.1 40)), (1, .ref (t.2.2.1 0)), (0, .ref b)]) X.1.1 X.1.2.1 dL_law_1258 hl (by decide) rfl (fun ls hl => ?_)
  refine lv_aload_n X.1.1 X.1.2.1 dL_law_1260 rfl (lv_at hl 3 rfl) ?_
  refine lv_aload_n X.1.1 X.1.2.1 dL_law_1261 rfl (lv_at hl 5 rfl) ?_
  refine lv_iload X.1.1 X.1.2.1 dL_law_1262 (lv_at hl 1 rfl) ?_
  refine x_iconst X dL_law_1264 ?_
  refine x_iadd X dL_law_1265 ?_
  refine x_sld X hX hbl ht hS ⟨by omega, by omega⟩ hL dL_law_1266 ?_
  refine lv_aload_n X.1.1 X.1.2.1 dL_law_1267 rfl (lv_at hl 5 rfl) ?_
  refine lv_iload X.1.1 X.1.2.1 dL_law_1268 (lv_at hl 1 rfl) ?_
  refine x_iconst X dL_law_1270 ?_
  refine x_iadd X dL_law_1271 ?_
  refine x_sld X hX hbl ht hS ⟨by omega, by omega⟩ hL dL_law_1272 ?_
  refine x_callVi0 X hG hS (c_X10_setLevel l t (sv xs (i + 1)) (sv xs (i + 2)) _ _ _ hm2) (cwV 2 X.1.2.2.2.2 gL_law_X10_setLevel rfl rfl rfl hd_X10_setLevel ⟨Nat.le_of_ble_eq_true rfl, Nat.le_of_ble_eq_true rfl⟩) q40.1 q40.2 rfl (by decide) (by rfl) hl.1 (Nat.le_of_ble_eq_true rfl) dL_law_1273 ⟨by show cells + 2 ≤ 601024; omega, by show slots + 12 ≤ 7293034; omega⟩ rfl (fun H locs hG hS => ?_)
  refine lv_istore (lv' := [(6, .int (iI r2)), (5, .int (iI k)), (4, .int (iI i)), (3, .ref (t.2.2.1 39)), (2, .ref (t.2.2.1 40)), (1, .ref (t.2.2.1 0)), (0, .ref b)]) X.1.1 X.1.2.1 dL_law_1276 hl (by decide) rfl (fun ls hl => ?_)
  refine lv_aload_n X.1.1 X.1.2.1 dL_law_1278 rfl (lv_at hl 4 rfl) ?_
  refine x_callVi0 X hG hS (c_X10_thrown l t _ _ _ (x_thrown_f u2)) (cwV 0 X.1.2.2.2.2 gL_law_X10_thrown rfl rfl rfl hd_X10_thrown ⟨Nat.le_of_ble_eq_true rfl, Nat.le_of_ble_eq_true rfl⟩) q40.1 q40.2 rfl (by decide) (by rfl) hl.1 (Nat.le_of_ble_eq_true rfl) dL_law_1279 ⟨by show cells + 2 ≤ 601024; omega, by show slots + 12 ≤ 7293034; omega⟩ rfl (fun H locs hG hS => ?_)
  rw [e1]
  refine lv_iload X.1.1 X.1.2.1 dL_law_1282 (lv_at hl 1 rfl) ?_
  refine lv_icmp_eq (tgt := 1289) X.1.1 X.1.2.1 dL_law_1284 (by decide) (fun _ => ?_) (fun h => absurd rfl h)
  refine lv_iload X.1.1 X.1.2.1 dL_law_1289 (lv_at hl 1 rfl) ?_
  refine x_if_ne (tgt := 1306) X hkr dL_law_1291 (by decide) (fun _ => ?_) (fun h0 => ?_)
  · refine lv_goto (tgt := 1665) X.1.1 X.1.2.1 dL_law_1306 (by decide) ?_
    exact W.widen (k := cells + 13) (n := slots + 1206) (by omega) (by omega) (kk t u2 H locs ls X ht hJ2 hG hS (lv_sub hl [2, 3, 4, 5, 6] rfl))
  · have g0 := hk0 h0
    have er : r2 = r := e2 h0
    have e39 : u2 39 0 = (iI r).toInt := by rw [e3, ← hw]; exact w39_s g0
    refine lv_aload_n X.1.1 X.1.2.1 dL_law_1294 rfl (lv_at hl 3 rfl) ?_
    refine x_iconst X dL_law_1295 ?_
    refine x_lald X hG q39.1 q39.2.1 q39.2.2 (by decide) (by decide) dL_law_1296 ?_
    rw [e39]
    refine lv_iload X.1.1 X.1.2.1 dL_law_1297 (lv_at hl 0 rfl) ?_
    rw [er]
    rw [← iI_x (iI r)]
    have ev : ((iI ((iI r).toInt)).toInt) = (iI r).toInt := by rw [iI_x]
    rw [ev]
    have eL : InL (iI r).toInt := ⟨by have := (inR_x (iI r)).1; omega, by have := (inR_x (iI r)).2; omega⟩
    refine x_i2l X (inR_x _) dL_law_1299 ?_
    refine x_lcmp X eL eL dL_law_1300 ?_
    rw [cmpL_self]
    refine x_if_eq (tgt := 1306) X (by decide) dL_law_1301 (by decide) (fun _ => ?_) (fun h => absurd rfl h)
    refine lv_goto (tgt := 1665) X.1.1 X.1.2.1 dL_law_1306 (by decide) ?_
    exact W.widen (k := cells + 13) (n := slots + 1206) (by omega) (by omega) (kk t u2 H locs ls X ht hJ2 hG hS (lv_sub hl [2, 3, 4, 5, 6] rfl))
end LL2
