abbrev rL_feeds : Room := { frames := 4, cells := 20, slots := 100, locals := 111 }
set_option maxRecDepth 100000 in
set_option maxHeartbeats 8000000 in
theorem c_L_feeds (l : Launch) (t0 : gP) (u : uS) (r : Int) (u' : uS) (h : f_L_feeds u = some (r, u')) (aq289 : al t0 289) (aq290 : al t0 290) : xMia 39 291 292 l yL_feeds wsL_feeds rL_feeds t0 [.ref (t0.2.2.1 0), .ref (t0.2.2.1 289)] u r u' 20 100 := by
  refine x_ofWia (cc := cL_feeds) (maxL := 6) (ret := .boolean) (own := RL) (by decide) rfl rfl (Nat.le_of_ble_eq_true rfl) ?_
  intro p e s m args below meth c Q X0 hret H locs ls hG hS hl
  replace hl : lv_has ls 6 [(0, .ref (t0.2.2.1 0)), (1, .ref (t0.2.2.1 289))] := hl
  have q0 : 0 < NN ∧ sT 0 = 13 := by decide
  have w1 : Cond.arrayClass .int ∈ wsL_feeds := x_w 1 rfl
  have q289 : al t0 289 ∧ sT 289 = 0 := ⟨aq289, by decide +kernel⟩
  have q290 : al t0 290 ∧ sT 290 = 108 := ⟨aq290, by decide +kernel⟩
  obtain ⟨t, ht, hT⟩ : ∃ t, t0 = t ∧ ag 39 291 292 t0 t := ⟨t0, rfl, ag.rf⟩
  have X := X0.ag hT (by decide)
  rw [ht] at hG hS hl
  clear ht
  unfold f_L_feeds at h
  refine x_iconst X dL_feeds_0 ?_
  refine lv_istore_n (lv' := [(2, .int (iI 0)), (0, .ref (t.2.2.1 0)), (1, .ref (t.2.2.1 289))]) X.1.1 X.1.2.1 dL_feeds_1 rfl hl (by decide) rfl (fun ls hl => ?_)
  refine x_iconst X dL_feeds_2 ?_
  refine lv_istore_n (lv' := [(3, .int (iI 0)), (2, .int (iI 0)), (0, .ref (t.2.2.1 0)), (1, .ref (t.2.2.1 289))]) X.1.1 X.1.2.1 dL_feeds_3 rfl hl (by decide) rfl (fun ls hl => ?_)
  have Lgo1 : ∀ (nf : Nat) (x2_2 : Int) (x3_3 : Int) (u4 : uS) q, xl3 (s_L_feeds_4) nf x2_2 x3_3 u4 = some q → ∀ (ck4 cn4 : Nat) (t : gP) (hT : ag 39 291 292 t0 t), (ck4 + nf * 1 ≤ 20 ∧ cn4 + nf * 5 ≤ 100) → q = (r, u') → xG p l e rL_feeds s m args below meth c t Q 6 ck4 cn4 4 u4 [(2, .int (iI x2_2)), (3, .int (iI x3_3)), (0, .ref (t.2.2.1 0)), (1, .ref (t.2.2.1 289))] [] := by
    refine xl3_N (F := s_L_feeds_4) (fun nf x2_2 x3_3 u4 q => ∀ (ck4 cn4 : Nat) (t : gP) (hT : ag 39 291 292 t0 t), (ck4 + nf * 1 ≤ 20 ∧ cn4 + nf * 5 ≤ 100) → q = (r, u') → xG p l e rL_feeds s m args below meth c t Q 6 ck4 cn4 4 u4 [(2, .int (iI x2_2)), (3, .int (iI x3_3)), (0, .ref (t.2.2.1 0)), (1, .ref (t.2.2.1 289))] []) ?_
    intro nf go1 igo1 x2_2 x3_3 u4 q h ck4 cn4 t hT hck4 hq H locs ls hG hS hl
    subst hq
    replace X := X0.ag hT (by decide)
    unfold s_L_feeds_4 at h
    refine lv_iload_n X.1.1 X.1.2.1 dL_feeds_4 rfl (lv_at hl 1 rfl) ?_
    refine lv_aload_n X.1.1 X.1.2.1 dL_feeds_5 rfl (lv_at hl 3 rfl) ?_
    obtain ⟨v5, u6, hf, h⟩ := xbd_of h
    refine y_callVi0 X hG hS (cd_J0_length l t _ _ _ hf (hT.fk (by decide) q289) (hT.al (by decide) aq290)) (cwV 0 X.1.2.2.2.2 gL_feeds_J0_length_8abf5 rfl rfl rfl hd_J0_length_8abf5 ⟨Nat.le_of_ble_eq_true rfl, Nat.le_of_ble_eq_true rfl⟩) (hT.fk (by decide) q289).1 (hT.fk (by decide) q289).2 rfl (by decide) (by rfl) hl.1 (Nat.le_of_ble_eq_true rfl) dL_feeds_6 ⟨by show ck4 + 0 ≤ 20; omega, by show cn4 + 0 ≤ 100; omega⟩ rfl (fun H locs hG hS => ?_)
    obtain ⟨g7, h⟩ := xgd_of h
    refine x_icmp_ge (tgt := 114) X g7.1 g7.2 dL_feeds_9 (by decide) (fun c8 => ?_) (fun c8 => ?_)
    · replace h := xif_t h c8
      refine x_iconst X dL_feeds_114 ?_
      cases h
      exact hret _ _ _ _ _ _ _ hT (by omega) (by omega) dL_feeds_115 (by decide) hG hS
    · replace h := xif_f h c8
      refine x_iconst X dL_feeds_12 ?_
      obtain ⟨g9, h⟩ := xgd_of h
      refine y_newi X hG hS 291 ⟨by decide, by decide⟩ (by decide +kernel) (by decide +kernel) ⟨rfl, by decide⟩ g9 w1 (by show ck4 + 0 + 1 ≤ 20; omega) (by show cn4 + 0 + 5 ≤ 100; omega) dL_feeds_13 (fun t' H locs hag f10 hG hS => ?_)
      obtain ⟨u11, eu11, h⟩ := xlet_of h
      replace hG : G t' u11 H := by rw [eu11]; exact hG
      rw [← hag.at (k := 0) (by decide), ← hag.at (k := 289) (by decide)] at hl
      replace X := X.ag hag (by decide)
      replace hT : ag 39 291 292 t0 t' := hT.tr hag (by decide)
      clear hag
      obtain ⟨t, rfl⟩ : ∃ z, z = t' := ⟨_, rfl⟩
      have f12 : al t 291 ∧ sT 291 = 100 ∧ sN 291 = 5 := ⟨f10, by decide +kernel, by decide +kernel⟩
      refine lv_astore (lv' := [(4, .ref (t.2.2.1 291)), (2, .int (iI x2_2)), (3, .int (iI x3_3)), (0, .ref (t.2.2.1 0)), (1, .ref (t.2.2.1 289))]) X.1.1 X.1.2.1 dL_feeds_15 hl (by decide) rfl (fun ls hl => ?_)
      refine x_iconst X dL_feeds_17 ?_
      refine lv_istore (lv' := [(5, .int (iI 0)), (4, .ref (t.2.2.1 291)), (2, .int (iI x2_2)), (3, .int (iI x3_3)), (0, .ref (t.2.2.1 0)), (1, .ref (t.2.2.1 289))]) X.1.1 X.1.2.1 dL_feeds_18 hl (by decide) rfl (fun ls hl => ?_)
      obtain ⟨j13, ej13, h⟩ := xlet_of h
      have Jj13 : ∀ (t : gP) (hT : ag 39 291 292 t0 t) (f15 : al t 291 ∧ sT 291 = 100 ∧ sN 291 = 5) (u14 : uS), j13 u14 = some (r, u') → xG p l e rL_feeds s m args below meth c t Q 6 (ck4 + 1) (cn4 + 5) 75 u14 [(0, .ref (t.2.2.1 0)), (1, .ref (t.2.2.1 289)), (2, .int (iI x2_2)), (3, .int (iI x3_3)), (4, .ref (t.2.2.1 291))] [] := by
          intro t hT f15 u14 h H locs ls hG hS hl
          replace X := X0.ag hT (by decide)
          replace h := (congrFun ej13 u14).symm.trans h
          refine lv_iinc (v := (iI (x2_2 + 20))) (lv' := [(2, .int (iI (x2_2 + 20))), (0, .ref (t.2.2.1 0)), (1, .ref (t.2.2.1 289)), (3, .int (iI x3_3)), (4, .ref (t.2.2.1 291))]) X.1.1 X.1.2.1 dL_feeds_75 hl (k := 2) rfl (iI_add _ _) (by decide) rfl (fun ls hl => ?_)
          refine lv_aload_n X.1.1 X.1.2.1 dL_feeds_78 rfl (lv_at hl 1 rfl) ?_
          refine lv_aload X.1.1 X.1.2.1 dL_feeds_79 (lv_at hl 4 rfl) ?_
          refine x_iconst X dL_feeds_81 ?_
          refine y_iald X hG f15.1 f15.2.1 (n := 5) f15.2.2 ⟨by decide, by decide⟩ (by decide) dL_feeds_82 ?_
          refine lv_aload X.1.1 X.1.2.1 dL_feeds_83 (lv_at hl 4 rfl) ?_
          refine x_iconst X dL_feeds_85 ?_
          refine y_iald X hG f15.1 f15.2.1 (n := 5) f15.2.2 ⟨by decide, by decide⟩ (by decide) dL_feeds_86 ?_
          refine lv_aload X.1.1 X.1.2.1 dL_feeds_87 (lv_at hl 4 rfl) ?_
          refine x_iconst X dL_feeds_89 ?_
          refine y_iald X hG f15.1 f15.2.1 (n := 5) f15.2.2 ⟨by decide, by decide⟩ (by decide) dL_feeds_90 ?_
          refine lv_aload X.1.1 X.1.2.1 dL_feeds_91 (lv_at hl 4 rfl) ?_
          refine x_iconst X dL_feeds_93 ?_
          refine y_iald X hG f15.1 f15.2.1 (n := 5) f15.2.2 ⟨by decide, by decide⟩ (by decide) dL_feeds_94 ?_
          refine lv_aload X.1.1 X.1.2.1 dL_feeds_95 (lv_at hl 4 rfl) ?_
          refine x_iconst X dL_feeds_97 ?_
          refine y_iald X hG f15.1 f15.2.1 (n := 5) f15.2.2 ⟨by decide, by decide⟩ (by decide) dL_feeds_98 ?_
          obtain ⟨v16, u17, hf, h⟩ := xbd_of h
          refine x_callVi0 X hG hS (c_X9_append l t _ _ _ _ _ _ _ _ hf) (cwV 5 X.1.2.2.2.2 gL_feeds_X9_append rfl rfl rfl hd_X9_append ⟨Nat.le_of_ble_eq_true rfl, Nat.le_of_ble_eq_true rfl⟩) q0.1 q0.2 rfl (by decide) (by rfl) hl.1 (Nat.le_of_ble_eq_true rfl) dL_feeds_99 ⟨by show ck4 + 1 ≤ 20; omega, by show cn4 + 5 ≤ 100; omega⟩ rfl (fun H locs hG hS => ?_)
          refine lv_iload_n X.1.1 X.1.2.1 dL_feeds_102 rfl (lv_at hl 0 rfl) ?_
          obtain ⟨g18, h⟩ := xgd_of h
          refine x_icmp_eq (tgt := 108) X g18.1 g18.2 dL_feeds_103 (by decide) (fun c19 => ?_) (fun c19 => ?_)
          · replace h := xif_t h c19
            refine lv_iinc (v := (iI (x3_3 + 20))) (lv' := [(3, .int (iI (x3_3 + 20))), (2, .int (iI (x2_2 + 20))), (0, .ref (t.2.2.1 0)), (1, .ref (t.2.2.1 289)), (4, .ref (t.2.2.1 291))]) X.1.1 X.1.2.1 dL_feeds_108 hl (k := 3) rfl (iI_add _ _) (by decide) rfl (fun ls hl => ?_)
            refine lv_goto (tgt := 4) X.1.1 X.1.2.1 dL_feeds_111 (by decide) ?_
            exact igo1 _ _ _ _ h (ck4 + 1) (cn4 + 5) t hT (by omega) rfl _ _ _ hG hS (lv_sub hl [1, 0, 2, 3] rfl)
          · replace h := xif_f h c19
            refine x_iconst X dL_feeds_106 ?_
            cases h
            exact hret _ _ _ _ _ _ _ hT (by omega) (by omega) dL_feeds_107 (by decide) hG hS
      have Lgo20 : ∀ (nf : Nat) (x5_21 : Int) (u22 : uS) q, xl2 (s_L_feeds_20 j13 x3_3) nf x5_21 u22 = some q → ∀ (ck20 cn20 : Nat) (t : gP) (hT : ag 39 291 292 t0 t) (f23 : al t 291 ∧ sT 291 = 100 ∧ sN 291 = 5), (ck20 + nf * 0 ≤ ck4 + 1 ∧ cn20 + nf * 0 ≤ cn4 + 5) → q = (r, u') → xG p l e rL_feeds s m args below meth c t Q 6 ck20 cn20 20 u22 [(5, .int (iI x5_21)), (0, .ref (t.2.2.1 0)), (1, .ref (t.2.2.1 289)), (2, .int (iI x2_2)), (3, .int (iI x3_3)), (4, .ref (t.2.2.1 291))] [] := by
        refine xl2_N (F := s_L_feeds_20 j13 x3_3) (fun nf x5_21 u22 q => ∀ (ck20 cn20 : Nat) (t : gP) (hT : ag 39 291 292 t0 t) (f23 : al t 291 ∧ sT 291 = 100 ∧ sN 291 = 5), (ck20 + nf * 0 ≤ ck4 + 1 ∧ cn20 + nf * 0 ≤ cn4 + 5) → q = (r, u') → xG p l e rL_feeds s m args below meth c t Q 6 ck20 cn20 20 u22 [(5, .int (iI x5_21)), (0, .ref (t.2.2.1 0)), (1, .ref (t.2.2.1 289)), (2, .int (iI x2_2)), (3, .int (iI x3_3)), (4, .ref (t.2.2.1 291))] []) ?_
        intro nf go20 igo20 x5_21 u22 q h ck20 cn20 t hT f23 hck20 hq H locs ls hG hS hl
        subst hq
        replace X := X0.ag hT (by decide)
        unfold s_L_feeds_20 at h
        refine lv_iload X.1.1 X.1.2.1 dL_feeds_20 (lv_at hl 0 rfl) ?_
        refine x_bipush X dL_feeds_22 (by decide) ?_
        obtain ⟨g24, h⟩ := xgd_of h
        refine x_icmp_ge (tgt := 75) X g24 ⟨by decide, by decide⟩ dL_feeds_24 (by decide) (fun c25 => ?_) (fun c25 => ?_)
        · replace h := xif_t h c25
          refine W.widen (k := (ck4 + 1)) (n := (cn4 + 5)) (by omega) (by omega) ?_
          exact Jj13 t hT f23 _ h _ _ _ hG hS (lv_sub hl [1, 2, 3, 4, 5] rfl)
        · replace h := xif_f h c25
          refine lv_aload X.1.1 X.1.2.1 dL_feeds_27 (lv_at hl 5 rfl) ?_
          refine lv_iload X.1.1 X.1.2.1 dL_feeds_29 (lv_at hl 0 rfl) ?_
          refine x_iconst X dL_feeds_31 ?_
          obtain ⟨g26, h⟩ := xgd_of h
          refine x_idiv X g26 ⟨by decide, by decide⟩ (by decide) dL_feeds_32 ?_
          refine lv_aload X.1.1 X.1.2.1 dL_feeds_33 (lv_at hl 5 rfl) ?_
          refine lv_iload X.1.1 X.1.2.1 dL_feeds_35 (lv_at hl 0 rfl) ?_
          refine x_iconst X dL_feeds_37 ?_
          obtain ⟨g27, h⟩ := xgd_of h
          refine x_idiv X g27 ⟨by decide, by decide⟩ (by decide) dL_feeds_38 ?_
          obtain ⟨g28, h⟩ := xgd_of h
          refine y_iald X hG f23.1 f23.2.1 (n := 5) f23.2.2 g28 (by decide) dL_feeds_39 ?_
          refine x_bipush X dL_feeds_40 (by decide) ?_
          refine x_ishl X ⟨by decide, by decide⟩ dL_feeds_42 ?_
          refine lv_iload_n X.1.1 X.1.2.1 dL_feeds_43 rfl (lv_at hl 4 rfl) ?_
          refine lv_iload X.1.1 X.1.2.1 dL_feeds_44 (lv_at hl 0 rfl) ?_
          refine x_iadd X dL_feeds_46 ?_
          refine lv_aload_n X.1.1 X.1.2.1 dL_feeds_47 rfl (lv_at hl 2 rfl) ?_
          obtain ⟨v29, u30, hf, h⟩ := xbd_of h
          refine y_callVi0 X hG hS (cd_J0_length l t _ _ _ hf (hT.fk (by decide) q289) (hT.al (by decide) aq290)) (cwV 0 X.1.2.2.2.2 gL_feeds_J0_length_8abf5 rfl rfl rfl hd_J0_length_8abf5 ⟨Nat.le_of_ble_eq_true rfl, Nat.le_of_ble_eq_true rfl⟩) (hT.fk (by decide) q289).1 (hT.fk (by decide) q289).2 rfl (by decide) (by rfl) hl.1 (Nat.le_of_ble_eq_true rfl) dL_feeds_48 ⟨by show ck20 + 0 ≤ 20; omega, by show cn20 + 0 ≤ 100; omega⟩ rfl (fun H locs hG hS => ?_)
          obtain ⟨g31, h⟩ := xgd_of h
          obtain ⟨j32, ej32, h⟩ := xlet_of h
          have Jj32 : ∀ (t : gP) (hT : ag 39 291 292 t0 t) (f35 : al t 291 ∧ sT 291 = 100 ∧ sN 291 = 5) (s33 : Int) (u34 : uS), j32 s33 u34 = some (r, u') → xG p l e rL_feeds s m args below meth c t Q 6 (ck20 + 0) (cn20 + 0) 67 u34 [(0, .ref (t.2.2.1 0)), (1, .ref (t.2.2.1 289)), (2, .int (iI x2_2)), (3, .int (iI x3_3)), (4, .ref (t.2.2.1 291)), (5, .int (iI x5_21))] [.int (iI s33), .int (iI (shlI (u22 291 (Int.tdiv x5_21 4)) 8)), .int (iI (Int.tdiv x5_21 4)), .ref (t.2.2.1 291)] := by
              intro t hT f35 s33 u34 h H locs ls hG hS hl
              replace X := X0.ag hT (by decide)
              replace h := (congrFun (congrFun ej32 s33) u34).symm.trans h
              refine x_ior X dL_feeds_67 ?_
              obtain ⟨g36, h⟩ := xgd_of h
              refine y_iast X hG hS f35.1 f35.2.1 (n := 5) f35.2.2 g36 (by decide) dL_feeds_68 (fun H locs hG hS => ?_)
              obtain ⟨u37, eu37, h⟩ := xlet_of h
              replace hG : G t u37 H := by rw [eu37]; exact hG
              refine lv_iinc (v := (iI (x5_21 + 1))) (lv' := [(5, .int (iI (x5_21 + 1))), (0, .ref (t.2.2.1 0)), (1, .ref (t.2.2.1 289)), (2, .int (iI x2_2)), (3, .int (iI x3_3)), (4, .ref (t.2.2.1 291))]) X.1.1 X.1.2.1 dL_feeds_69 hl (k := 5) rfl (iI_add _ _) (by decide) rfl (fun ls hl => ?_)
              refine lv_goto (tgt := 20) X.1.1 X.1.2.1 dL_feeds_72 (by decide) ?_
              exact igo20 _ _ _ h (ck20 + 0) (cn20 + 0) t hT f35 (by omega) rfl _ _ _ hG hS (lv_sub hl [0, 1, 2, 3, 4, 5] rfl)
          refine x_icmp_ge (tgt := 65) X g31.1 g31.2 dL_feeds_51 (by decide) (fun c38 => ?_) (fun c38 => ?_)
          · replace h := xif_t h c38
            refine x_bipush X dL_feeds_65 (by decide) ?_
            exact Jj32 t hT f23 _ _ h _ _ _ hG hS (lv_sub hl [1, 2, 3, 4, 5, 0] rfl)
          · replace h := xif_f h c38
            refine lv_aload_n X.1.1 X.1.2.1 dL_feeds_54 rfl (lv_at hl 2 rfl) ?_
            refine lv_iload_n X.1.1 X.1.2.1 dL_feeds_55 rfl (lv_at hl 4 rfl) ?_
            refine lv_iload X.1.1 X.1.2.1 dL_feeds_56 (lv_at hl 0 rfl) ?_
            refine x_iadd X dL_feeds_58 ?_
            obtain ⟨v39, u40, hf, h⟩ := xbd_of h
            refine y_callVi0 X hG hS (cd_J0_charAt l t _ _ _ _ hf (hT.fk (by decide) q289) (hT.al (by decide) aq290)) (cwV 1 X.1.2.2.2.2 gL_feeds_J0_charAt_5068e rfl rfl rfl hd_J0_charAt_5068e ⟨Nat.le_of_ble_eq_true rfl, Nat.le_of_ble_eq_true rfl⟩) (hT.fk (by decide) q289).1 (hT.fk (by decide) q289).2 rfl (by decide) (by rfl) hl.1 (Nat.le_of_ble_eq_true rfl) dL_feeds_59 ⟨by show ck20 + 0 ≤ 20; omega, by show cn20 + 0 ≤ 100; omega⟩ rfl (fun H locs hG hS => ?_)
            refine lv_goto (tgt := 67) X.1.1 X.1.2.1 dL_feeds_62 (by decide) ?_
            exact Jj32 t hT f23 _ _ h _ _ _ hG hS (lv_sub hl [1, 2, 3, 4, 5, 0] rfl)
      exact Lgo20 20000 _ _ _ h (ck4 + 1) (cn4 + 5) t hT f12 ⟨by omega, by omega⟩ rfl _ _ _ hG hS (lv_sub hl [0, 4, 5, 2, 3, 1] rfl)
  exact Lgo1 20 _ _ _ _ h 0 0 t hT ⟨by omega, by omega⟩ rfl _ _ _ hG hS (lv_sub hl [1, 0, 2, 3] rfl)
theorem hds_L_feeds : yL_feeds.cls ≠ "java/lang/invoke/MethodHandle" ∧ yL_feeds.cls ≠ "java/lang/invoke/VarHandle" ∧ (parseMethodDescriptor yL_feeds.desc).map (fun d => d.parameters.length) = some 2 := by decide +kernel
