abbrev rX10_vote : Room := { frames := 4, cells := 1, slots := 60, locals := 90 }
set_option maxRecDepth 100000 in
set_option maxHeartbeats 8000000 in
theorem c_X10_vote (l : Launch) (t0 : gP) (k1 : Nat) (u : uS) (r : Int) (u' : uS) (h : f_X10_vote k1 u = some (r, u')) (aq264 : al t0 264) (qk1 : al t0 k1 ∧ sT k1 = 15) : xMva 39 293 294 l yX10_vote wsX10_vote rX10_vote t0 [.ref (t0.2.2.1 264), .ref (t0.2.2.1 k1)] u u' 1 60 := by
  refine x_ofWva (cc := cX10_vote) (maxL := 7) (own := RX10) (by decide) rfl rfl (Nat.le_of_ble_eq_true rfl) ?_
  intro p e s m args below meth c Q X0 hret H locs ls hG hS hl
  replace hl : lv_has ls 7 [(0, .ref (t0.2.2.1 264)), (1, .ref (t0.2.2.1 k1))] := hl
  have w5 : Cond.classLink RX10 15 RX11 ∈ wsX10_vote := x_w 5 rfl
  have w6 : Cond.fieldLink RX10 140 "TriggerNetworkLaw$Net" "votes" "I" ∈ wsX10_vote := x_w 6 rfl
  have iX10 : ∀ w ∈ wsX100, w ∈ wsX10_vote := by decide +kernel
  have w1 : Cond.fieldLink RX10 130 "TriggerNetworkLaw$Net" "events" "I" ∈ wsX10_vote := x_w 1 rfl
  have w7 : Cond.fieldLink RX10 25 "TriggerNetworkLaw$Net" "declared" "[I" ∈ wsX10_vote := x_w 7 rfl
  have w8 : Cond.fieldLink RX10 53 "TriggerNetworkLaw$Net" "tick" "I" ∈ wsX10_vote := x_w 8 rfl
  have iX11 : ∀ w ∈ wsX110, w ∈ wsX10_vote := by decide +kernel
  have w3 : Cond.fieldLink RX10 122 "TriggerNetworkLaw$Net" "made" "I" ∈ wsX10_vote := x_w 3 rfl
  have w4 : Cond.fieldLink RX10 17 "TriggerNetworkLaw$Net" "picks" "[LTriggerNetworkLaw$Pick;" ∈ wsX10_vote := x_w 4 rfl
  have w2 : Cond.fieldLink RX10 21 "TriggerNetworkLaw$Net" "gone" "[Z" ∈ wsX10_vote := x_w 2 rfl
  have q264 : al t0 264 ∧ sT 264 = 14 := ⟨aq264, by decide +kernel⟩
  obtain ⟨t, ht, hT⟩ : ∃ t, t0 = t ∧ ag 39 293 294 t0 t := ⟨t0, rfl, ag.rf⟩
  have X := X0.ag hT (by decide)
  rw [ht] at hG hS hl
  clear ht
  unfold f_X10_vote at h
  refine x_iconst X dX10_vote_0 ?_
  refine lv_istore_n (lv' := [(2, .int (iI 0)), (0, .ref (t.2.2.1 264)), (1, .ref (t.2.2.1 k1))]) X.1.1 X.1.2.1 dX10_vote_1 rfl hl (by decide) rfl (fun ls hl => ?_)
  obtain ⟨j1, ej1, h⟩ := xlet_of h
  have Jj1 : ∀ (t : gP) (hT : ag 39 293 294 t0 t) (u2 : uS), j1 u2 = some (r, u') → xG p l e rX10_vote s m args below meth c t Q 7 0 0 93 u2 [(0, .ref (t.2.2.1 264)), (1, .ref (t.2.2.1 k1))] [] := by
      intro t hT u2 h H locs ls hG hS hl
      replace X := X0.ag hT (by decide)
      replace h := (congrFun ej1 u2).symm.trans h
      refine x_bipush X dX10_vote_93 (by decide) ?_
      obtain ⟨g3, h⟩ := xgd_of h
      refine y_newK X hG hS 293 ⟨by decide, by decide⟩ (by decide +kernel) (by decide +kernel) ⟨rfl, by decide⟩ g3 w5 (by decide) (by decide) dX10_vote_95 (fun t' H locs hag f4 hG hS => ?_)
      obtain ⟨u5, eu5, h⟩ := xlet_of h
      replace hG : G t' u5 H := by rw [eu5]; exact hG
      rw [← hag.at (k := 264) (by decide), ← hag.at (k := k1) (by have h9 := sT_15 _ (al_lt (hT.fk (by have h9 := sT_15 _ (al_lt qk1.1) qk1.2; omega) qk1).1) (hT.fk (by have h9 := sT_15 _ (al_lt qk1.1) qk1.2; omega) qk1).2; omega)] at hl
      replace X := X.ag hag (by decide)
      replace hT : ag 39 293 294 t0 t' := hT.tr hag (by decide)
      clear hag
      obtain ⟨t, rfl⟩ : ∃ z, z = t' := ⟨_, rfl⟩
      have f6 : al t 293 ∧ sT 293 = 107 ∧ sN 293 = 60 := ⟨f4, by decide +kernel, by decide +kernel⟩
      refine lv_astore_n (lv' := [(2, .ref (t.2.2.1 293)), (0, .ref (t.2.2.1 264)), (1, .ref (t.2.2.1 k1))]) X.1.1 X.1.2.1 dX10_vote_98 rfl hl (by decide) rfl (fun ls hl => ?_)
      refine lv_aload_n X.1.1 X.1.2.1 dX10_vote_99 rfl (lv_at hl 0 rfl) ?_
      refine x_iconst X dX10_vote_100 ?_
      refine lv_aload_n X.1.1 X.1.2.1 dX10_vote_101 rfl (lv_at hl 2 rfl) ?_
      refine y_aast X hG hS f6.1 f6.2.1 (hT.fk (by have h9 := sT_15 _ (al_lt qk1.1) qk1.2; omega) qk1).1 (hT.fk (by have h9 := sT_15 _ (al_lt qk1.1) qk1.2; omega) qk1).2 (Or.inr ⟨rfl, rfl⟩) f6.2.2 ⟨by decide, by decide⟩ (by decide) dX10_vote_102 (fun H locs hG hS => ?_)
      obtain ⟨u7, eu7, h⟩ := xlet_of h
      replace hG : G t u7 H := by rw [eu7]; exact hG
      refine x_iconst X dX10_vote_103 ?_
      refine lv_istore_n (lv' := [(3, .int (iI 1)), (2, .ref (t.2.2.1 293)), (0, .ref (t.2.2.1 264)), (1, .ref (t.2.2.1 k1))]) X.1.1 X.1.2.1 dX10_vote_104 rfl hl (by decide) rfl (fun ls hl => ?_)
      refine x_iconst X dX10_vote_105 ?_
      refine lv_istore (lv' := [(4, .int (iI 0)), (3, .int (iI 1)), (2, .ref (t.2.2.1 293)), (0, .ref (t.2.2.1 264)), (1, .ref (t.2.2.1 k1))]) X.1.1 X.1.2.1 dX10_vote_106 hl (by decide) rfl (fun ls hl => ?_)
      obtain ⟨j8, ej8, h⟩ := xlet_of h
      have Jj8 : ∀ (t : gP) (hT : ag 39 293 294 t0 t) (f11 : al t 293 ∧ sT 293 = 107 ∧ sN 293 = 60) (x3_9 : Int) (u10 : uS), j8 x3_9 u10 = some (r, u') → xG p l e rX10_vote s m args below meth c t Q 7 1 60 213 u10 [(0, .ref (t.2.2.1 264)), (2, .ref (t.2.2.1 293)), (3, .int (iI x3_9))] [] := by
          intro t hT f11 x3_9 u10 h H locs ls hG hS hl
          replace X := X0.ag hT (by decide)
          replace h := (congrFun (congrFun ej8 x3_9) u10).symm.trans h
          refine lv_iload_n X.1.1 X.1.2.1 dX10_vote_213 rfl (lv_at hl 2 rfl) ?_
          refine lv_aload_n X.1.1 X.1.2.1 dX10_vote_214 rfl (lv_at hl 0 rfl) ?_
          refine y_geti X hG 14 21 264 21 (inC := iX10) rfl (hT.fk (by decide) q264).1 (hT.fk (by decide) q264).2 ⟨by decide, by decide, by decide, rfl, rfl⟩ w6 dX10_vote_215 ?_
          obtain ⟨g12, h⟩ := xgd_of h
          refine x_icmp_lt (tgt := 230) X g12.1 g12.2 dX10_vote_218 (by decide) (fun c13 => ?_) (fun c13 => ?_)
          · replace h := xif_t h c13
            cases h
            exact hret _ _ _ _ _ _ _ hT (by decide) (by decide) dX10_vote_230 hG hS
          · replace h := xif_f h c13
            refine lv_aload_n X.1.1 X.1.2.1 dX10_vote_221 rfl (lv_at hl 0 rfl) ?_
            refine y_geti X hG 14 8 264 8 (inC := iX10) rfl (hT.fk (by decide) q264).1 (hT.fk (by decide) q264).2 ⟨by decide, by decide, by decide, rfl, rfl⟩ w1 dX10_vote_222 ?_
            refine x_bipush X dX10_vote_225 (by decide) ?_
            obtain ⟨g14, h⟩ := xgd_of h
            refine x_icmp_ne (tgt := 231) X g14 ⟨by decide, by decide⟩ dX10_vote_227 (by decide) (fun c15 => ?_) (fun c15 => ?_)
            · replace h := xif_f h c15
              refine x_iconst X dX10_vote_231 ?_
              refine lv_istore (lv' := [(4, .int (iI 0)), (0, .ref (t.2.2.1 264)), (2, .ref (t.2.2.1 293)), (3, .int (iI x3_9))]) X.1.1 X.1.2.1 dX10_vote_232 hl (by decide) rfl (fun ls hl => ?_)
              obtain ⟨j16, ej16, h⟩ := xlet_of h
              have Jj16 : ∀ (t : gP) (hT : ag 39 293 294 t0 t) (u17 : uS), j16 u17 = some (r, u') → xG p l e rX10_vote s m args below meth c t Q 7 1 60 257 u17 [(0, .ref (t.2.2.1 264))] [] := by
                  intro t hT u17 h H locs ls hG hS hl
                  replace X := X0.ag hT (by decide)
                  replace h := (congrFun ej16 u17).symm.trans h
                  refine lv_aload_n X.1.1 X.1.2.1 dX10_vote_257 rfl (lv_at hl 0 rfl) ?_
                  refine y_getr X hG 14 3 264 4 (inC := iX10) rfl (hT.fk (by decide) q264).1 (hT.fk (by decide) q264).2 ⟨by decide, by decide, by decide, rfl, by decide, by decide⟩ w7 dX10_vote_258 ?_
                  refine lv_aload_n X.1.1 X.1.2.1 dX10_vote_261 rfl (lv_at hl 0 rfl) ?_
                  refine lv_dup X.1.1 X.1.2.1 dX10_vote_262 rfl ?_
                  refine y_geti X hG 14 8 264 8 (inC := iX10) rfl (hT.fk (by decide) q264).1 (hT.fk (by decide) q264).2 ⟨by decide, by decide, by decide, rfl, rfl⟩ w1 dX10_vote_263 ?_
                  refine lv_dup_x1 X.1.1 X.1.2.1 dX10_vote_266 rfl rfl ?_
                  refine x_iconst X dX10_vote_267 ?_
                  refine x_iadd X dX10_vote_268 ?_
                  refine y_puti X hG hS 14 8 264 8 _ tyX10 tyX10_ok nmX10 (inC := iX10) rfl (hT.fk (by decide) q264).1 (hT.fk (by decide) q264).2 ⟨by decide, by decide, by decide, rfl, rfl⟩ rfl (by decide +kernel) w1 dX10_vote_269 (fun H locs hG hS => ?_)
                  obtain ⟨u18, eu18, h⟩ := xlet_of h
                  replace hG : G t u18 H := by rw [eu18]; exact hG
                  refine lv_aload_n X.1.1 X.1.2.1 dX10_vote_272 rfl (lv_at hl 0 rfl) ?_
                  refine y_geti X hG 14 9 264 9 (inC := iX10) rfl (hT.fk (by decide) q264).1 (hT.fk (by decide) q264).2 ⟨by decide, by decide, by decide, rfl, rfl⟩ w8 dX10_vote_273 ?_
                  obtain ⟨g19, h⟩ := xgd_of h
                  refine y_iast X hG hS (fy_14_3 hG (hT.fk (by decide) q264)).1 (fy_14_3 hG (hT.fk (by decide) q264)).2.1 (n := 20) (fy_14_3 hG (hT.fk (by decide) q264)).2.2 g19 (by decide) dX10_vote_276 (fun H locs hG hS => ?_)
                  obtain ⟨u20, eu20, h⟩ := xlet_of h
                  replace hG : G t u20 H := by rw [eu20]; exact hG
                  cases h
                  exact hret _ _ _ _ _ _ _ hT (by decide) (by decide) dX10_vote_277 hG hS
              have Lgo21 : ∀ (nf : Nat) (x4_22 : Int) (u23 : uS) q, xl2 (s_X10_vote_234 x3_9 j16) nf x4_22 u23 = some q → ∀ (ck234 cn234 : Nat) (t : gP) (hT : ag 39 293 294 t0 t) (f24 : al t 293 ∧ sT 293 = 107 ∧ sN 293 = 60), (ck234 + nf * 0 ≤ 1 ∧ cn234 + nf * 0 ≤ 60) → q = (r, u') → xG p l e rX10_vote s m args below meth c t Q 7 ck234 cn234 234 u23 [(4, .int (iI x4_22)), (0, .ref (t.2.2.1 264)), (2, .ref (t.2.2.1 293)), (3, .int (iI x3_9))] [] := by
                refine xl2_N (F := s_X10_vote_234 x3_9 j16) (fun nf x4_22 u23 q => ∀ (ck234 cn234 : Nat) (t : gP) (hT : ag 39 293 294 t0 t) (f24 : al t 293 ∧ sT 293 = 107 ∧ sN 293 = 60), (ck234 + nf * 0 ≤ 1 ∧ cn234 + nf * 0 ≤ 60) → q = (r, u') → xG p l e rX10_vote s m args below meth c t Q 7 ck234 cn234 234 u23 [(4, .int (iI x4_22)), (0, .ref (t.2.2.1 264)), (2, .ref (t.2.2.1 293)), (3, .int (iI x3_9))] []) ?_
                intro nf go21 igo21 x4_22 u23 q h ck234 cn234 t hT f24 hck234 hq H locs ls hG hS hl
                subst hq
                replace X := X0.ag hT (by decide)
                unfold s_X10_vote_234 at h
                refine lv_iload X.1.1 X.1.2.1 dX10_vote_234 (lv_at hl 0 rfl) ?_
                refine lv_iload_n X.1.1 X.1.2.1 dX10_vote_236 rfl (lv_at hl 3 rfl) ?_
                obtain ⟨g25, h⟩ := xgd_of h
                refine x_icmp_ge (tgt := 257) X g25.1 g25.2 dX10_vote_237 (by decide) (fun c26 => ?_) (fun c26 => ?_)
                · replace h := xif_t h c26
                  refine W.widen (k := 1) (n := 60) (by omega) (by omega) ?_
                  exact Jj16 t hT _ h _ _ _ hG hS (lv_sub hl [1] rfl)
                · replace h := xif_f h c26
                  refine lv_aload_n X.1.1 X.1.2.1 dX10_vote_240 rfl (lv_at hl 2 rfl) ?_
                  refine lv_iload X.1.1 X.1.2.1 dX10_vote_241 (lv_at hl 0 rfl) ?_
                  obtain ⟨g27, h⟩ := xgd_of h
                  obtain ⟨g28, h⟩ := xgd_of h
                  have f30 := y_qK hG f24.1 f24.2.1 f24.2.2 g27 g28
                  obtain ⟨n29, en29, h⟩ := xlet_of h
                  refine y_aaldq X hG f24.1 f24.2.1 (Or.inr rfl) f24.2.2 g27 (by decide) g28 dX10_vote_243 ?_
                  rw [← en29]
                  rw [← en29] at f30
                  have f31 := hT.bk (by have h9 := sT_15 _ (al_lt f30.1) f30.2; omega) f30
                  refine lv_aload_n X.1.1 X.1.2.1 dX10_vote_244 rfl (lv_at hl 1 rfl) ?_
                  refine y_geti X hG 14 8 264 8 (inC := iX10) rfl (hT.fk (by decide) q264).1 (hT.fk (by decide) q264).2 ⟨by decide, by decide, by decide, rfl, rfl⟩ w1 dX10_vote_245 ?_
                  refine yN_puti X hG hS 15 3 n29 3 _ tyX11 tyX11_ok nmX11 (inC := iX11) rfl (hT.fk (by have h9 := sT_15 _ (al_lt f31.1) f31.2; omega) f31).1 (hT.fk (by have h9 := sT_15 _ (al_lt f31.1) f31.2; omega) f31).2 ⟨by decide, by decide, by decide, rfl, rfl⟩ rfl (by decide +kernel) (x_m 45 rfl) dX10_vote_248 (fun H locs hG hS => ?_)
                  obtain ⟨u32, eu32, h⟩ := xlet_of h
                  replace hG : G t u32 H := by rw [eu32]; exact hG
                  refine lv_iinc (v := (iI (x4_22 + 1))) (lv' := [(4, .int (iI (x4_22 + 1))), (0, .ref (t.2.2.1 264)), (2, .ref (t.2.2.1 293)), (3, .int (iI x3_9))]) X.1.1 X.1.2.1 dX10_vote_251 hl (k := 0) rfl (iI_add _ _) (by decide) rfl (fun ls hl => ?_)
                  refine lv_goto (tgt := 234) X.1.1 X.1.2.1 dX10_vote_254 (by decide) ?_
                  exact igo21 _ _ _ h (ck234 + 0) (cn234 + 0) t hT f24 (by omega) rfl _ _ _ hG hS (lv_sub hl [0, 1, 2, 3] rfl)
              exact Lgo21 20000 _ _ _ h 1 60 t hT f11 ⟨by omega, by omega⟩ rfl _ _ _ hG hS (lv_sub hl [0, 1, 2, 3] rfl)
            · replace h := xif_t h c15
              cases h
              exact hret _ _ _ _ _ _ _ hT (by decide) (by decide) dX10_vote_230 hG hS
      have Lgo33 : ∀ (nf : Nat) (x3_34 : Int) (x4_35 : Int) (u36 : uS) q, xl3 (s_X10_vote_108 j8) nf x3_34 x4_35 u36 = some q → ∀ (ck108 cn108 : Nat) (t : gP) (hT : ag 39 293 294 t0 t) (f37 : al t 293 ∧ sT 293 = 107 ∧ sN 293 = 60), (ck108 + nf * 0 ≤ 1 ∧ cn108 + nf * 0 ≤ 60) → q = (r, u') → xG p l e rX10_vote s m args below meth c t Q 7 ck108 cn108 108 u36 [(3, .int (iI x3_34)), (4, .int (iI x4_35)), (0, .ref (t.2.2.1 264)), (2, .ref (t.2.2.1 293))] [] := by
        refine xl3_N (F := s_X10_vote_108 j8) (fun nf x3_34 x4_35 u36 q => ∀ (ck108 cn108 : Nat) (t : gP) (hT : ag 39 293 294 t0 t) (f37 : al t 293 ∧ sT 293 = 107 ∧ sN 293 = 60), (ck108 + nf * 0 ≤ 1 ∧ cn108 + nf * 0 ≤ 60) → q = (r, u') → xG p l e rX10_vote s m args below meth c t Q 7 ck108 cn108 108 u36 [(3, .int (iI x3_34)), (4, .int (iI x4_35)), (0, .ref (t.2.2.1 264)), (2, .ref (t.2.2.1 293))] []) ?_
        intro nf go33 igo33 x3_34 x4_35 u36 q h ck108 cn108 t hT f37 hck108 hq H locs ls hG hS hl
        subst hq
        replace X := X0.ag hT (by decide)
        unfold s_X10_vote_108 at h
        refine lv_iload X.1.1 X.1.2.1 dX10_vote_108 (lv_at hl 1 rfl) ?_
        refine lv_aload_n X.1.1 X.1.2.1 dX10_vote_110 rfl (lv_at hl 2 rfl) ?_
        refine y_geti X hG 14 7 264 7 (inC := iX10) rfl (hT.fk (by decide) q264).1 (hT.fk (by decide) q264).2 ⟨by decide, by decide, by decide, rfl, rfl⟩ w3 dX10_vote_111 ?_
        refine x_iconst X dX10_vote_114 ?_
        refine x_isub X dX10_vote_115 ?_
        obtain ⟨g38, h⟩ := xgd_of h
        refine x_icmp_ge (tgt := 213) X g38.1 g38.2 dX10_vote_116 (by decide) (fun c39 => ?_) (fun c39 => ?_)
        · replace h := xif_t h c39
          refine W.widen (k := 1) (n := 60) (by omega) (by omega) ?_
          exact Jj8 t hT f37 _ _ h _ _ _ hG hS (lv_sub hl [2, 3, 0] rfl)
        · replace h := xif_f h c39
          refine lv_aload_n X.1.1 X.1.2.1 dX10_vote_119 rfl (lv_at hl 2 rfl) ?_
          refine y_getr X hG 14 1 264 2 (inC := iX10) rfl (hT.fk (by decide) q264).1 (hT.fk (by decide) q264).2 ⟨by decide, by decide, by decide, rfl, by decide, by decide⟩ w4 dX10_vote_120 ?_
          refine lv_iload X.1.1 X.1.2.1 dX10_vote_123 (lv_at hl 1 rfl) ?_
          obtain ⟨g40, h⟩ := xgd_of h
          obtain ⟨g41, h⟩ := xgd_of h
          have f43 := y_qK hG (fy_14_1 hG (hT.fk (by decide) q264)).1 (fy_14_1 hG (hT.fk (by decide) q264)).2.1 (fy_14_1 hG (hT.fk (by decide) q264)).2.2 g40 g41
          obtain ⟨n42, en42, h⟩ := xlet_of h
          refine y_aaldq X hG (fy_14_1 hG (hT.fk (by decide) q264)).1 (fy_14_1 hG (hT.fk (by decide) q264)).2.1 (Or.inr rfl) (fy_14_1 hG (hT.fk (by decide) q264)).2.2 g40 (by decide) g41 dX10_vote_125 ?_
          rw [← en42]
          rw [← en42] at f43
          have f44 := hT.bk (by have h9 := sT_15 _ (al_lt f43.1) f43.2; omega) f43
          refine yN_geti X hG 15 3 n42 3 (inC := iX11) rfl (hT.fk (by have h9 := sT_15 _ (al_lt f44.1) f44.2; omega) f44).1 (hT.fk (by have h9 := sT_15 _ (al_lt f44.1) f44.2; omega) f44).2 ⟨by decide, by decide, by decide, rfl, rfl⟩ (x_m 45 rfl) dX10_vote_126 ?_
          obtain ⟨g45, h⟩ := xgd_of h
          obtain ⟨j46, ej46, h⟩ := xlet_of h
          have Jj46 : ∀ (t : gP) (hT : ag 39 293 294 t0 t) (f49 : al t 293 ∧ sT 293 = 107 ∧ sN 293 = 60) (s47 : Int) (u48 : uS), j46 s47 u48 = some (r, u') → xG p l e rX10_vote s m args below meth c t Q 7 (ck108 + 0) (cn108 + 0) 150 u48 [(0, .ref (t.2.2.1 264)), (2, .ref (t.2.2.1 293)), (3, .int (iI x3_34)), (4, .int (iI x4_35))] [.int (iI s47)] := by
              intro t hT f49 s47 u48 h H locs ls hG hS hl
              replace X := X0.ag hT (by decide)
              replace h := (congrFun (congrFun ej46 s47) u48).symm.trans h
              refine lv_istore (lv' := [(5, .int (iI s47)), (0, .ref (t.2.2.1 264)), (2, .ref (t.2.2.1 293)), (3, .int (iI x3_34)), (4, .int (iI x4_35))]) X.1.1 X.1.2.1 dX10_vote_150 hl (by decide) rfl (fun ls hl => ?_)
              refine x_iconst X dX10_vote_152 ?_
              refine lv_istore (lv' := [(6, .int (iI 0)), (5, .int (iI s47)), (0, .ref (t.2.2.1 264)), (2, .ref (t.2.2.1 293)), (3, .int (iI x3_34)), (4, .int (iI x4_35))]) X.1.1 X.1.2.1 dX10_vote_153 hl (by decide) rfl (fun ls hl => ?_)
              obtain ⟨j50, ej50, h⟩ := xlet_of h
              have Jj50 : ∀ (t : gP) (hT : ag 39 293 294 t0 t) (f53 : al t 293 ∧ sT 293 = 107 ∧ sN 293 = 60) (x5_51 : Int) (u52 : uS), j50 x5_51 u52 = some (r, u') → xG p l e rX10_vote s m args below meth c t Q 7 (ck108 + 0) (cn108 + 0) 189 u52 [(0, .ref (t.2.2.1 264)), (2, .ref (t.2.2.1 293)), (3, .int (iI x3_34)), (4, .int (iI x4_35)), (5, .int (iI x5_51))] [] := by
                  intro t hT f53 x5_51 u52 h H locs ls hG hS hl
                  replace X := X0.ag hT (by decide)
                  replace h := (congrFun (congrFun ej50 x5_51) u52).symm.trans h
                  refine lv_iload X.1.1 X.1.2.1 dX10_vote_189 (lv_at hl 4 rfl) ?_
                  obtain ⟨g54, h⟩ := xgd_of h
                  refine x_if_eq (tgt := 207) X g54 dX10_vote_191 (by decide) (fun c55 => ?_) (fun c55 => ?_)
                  · replace h := xif_t h c55
                    refine lv_iinc (v := (iI (x4_35 + 1))) (lv' := [(4, .int (iI (x4_35 + 1))), (0, .ref (t.2.2.1 264)), (2, .ref (t.2.2.1 293)), (3, .int (iI x3_34)), (5, .int (iI x5_51))]) X.1.1 X.1.2.1 dX10_vote_207 hl (k := 3) rfl (iI_add _ _) (by decide) rfl (fun ls hl => ?_)
                    refine lv_goto (tgt := 108) X.1.1 X.1.2.1 dX10_vote_210 (by decide) ?_
                    exact igo33 _ _ _ _ h (ck108 + 0) (cn108 + 0) t hT f53 (by omega) rfl _ _ _ hG hS (lv_sub hl [3, 0, 1, 2] rfl)
                  · replace h := xif_f h c55
                    refine lv_aload_n X.1.1 X.1.2.1 dX10_vote_194 rfl (lv_at hl 1 rfl) ?_
                    refine lv_iload_n X.1.1 X.1.2.1 dX10_vote_195 rfl (lv_at hl 2 rfl) ?_
                    refine lv_iinc (v := (iI (x3_34 + 1))) (lv' := [(3, .int (iI (x3_34 + 1))), (0, .ref (t.2.2.1 264)), (2, .ref (t.2.2.1 293)), (4, .int (iI x4_35)), (5, .int (iI x5_51))]) X.1.1 X.1.2.1 dX10_vote_196 hl (k := 2) rfl (iI_add _ _) (by decide) rfl (fun ls hl => ?_)
                    refine lv_aload_n X.1.1 X.1.2.1 dX10_vote_199 rfl (lv_at hl 1 rfl) ?_
                    refine y_getr X hG 14 1 264 2 (inC := iX10) rfl (hT.fk (by decide) q264).1 (hT.fk (by decide) q264).2 ⟨by decide, by decide, by decide, rfl, by decide, by decide⟩ w4 dX10_vote_200 ?_
                    refine lv_iload X.1.1 X.1.2.1 dX10_vote_203 (lv_at hl 3 rfl) ?_
                    obtain ⟨g56, h⟩ := xgd_of h
                    obtain ⟨g57, h⟩ := xgd_of h
                    have f59 := y_qK hG (fy_14_1 hG (hT.fk (by decide) q264)).1 (fy_14_1 hG (hT.fk (by decide) q264)).2.1 (fy_14_1 hG (hT.fk (by decide) q264)).2.2 g56 g57
                    obtain ⟨n58, en58, h⟩ := xlet_of h
                    refine y_aaldq X hG (fy_14_1 hG (hT.fk (by decide) q264)).1 (fy_14_1 hG (hT.fk (by decide) q264)).2.1 (Or.inr rfl) (fy_14_1 hG (hT.fk (by decide) q264)).2.2 g56 (by decide) g57 dX10_vote_205 ?_
                    rw [← en58]
                    rw [← en58] at f59
                    have f60 := hT.bk (by have h9 := sT_15 _ (al_lt f59.1) f59.2; omega) f59
                    obtain ⟨g61, h⟩ := xgd_of h
                    refine y_aast X hG hS f53.1 f53.2.1 (hT.fk (by have h9 := sT_15 _ (al_lt f60.1) f60.2; omega) f60).1 (hT.fk (by have h9 := sT_15 _ (al_lt f60.1) f60.2; omega) f60).2 (Or.inr ⟨rfl, rfl⟩) f53.2.2 g61 (by decide) dX10_vote_206 (fun H locs hG hS => ?_)
                    obtain ⟨u62, eu62, h⟩ := xlet_of h
                    replace hG : G t u62 H := by rw [eu62]; exact hG
                    refine lv_iinc (v := (iI (x4_35 + 1))) (lv' := [(4, .int (iI (x4_35 + 1))), (3, .int (iI (x3_34 + 1))), (0, .ref (t.2.2.1 264)), (2, .ref (t.2.2.1 293)), (5, .int (iI x5_51))]) X.1.1 X.1.2.1 dX10_vote_207 hl (k := 3) rfl (iI_add _ _) (by decide) rfl (fun ls hl => ?_)
                    refine lv_goto (tgt := 108) X.1.1 X.1.2.1 dX10_vote_210 (by decide) ?_
                    exact igo33 _ _ _ _ h (ck108 + 0) (cn108 + 0) t hT f53 (by omega) rfl _ _ _ hG hS (lv_sub hl [1, 0, 2, 3] rfl)
              have Lgo63 : ∀ (nf : Nat) (x5_64 : Int) (x6_65 : Int) (u66 : uS) q, xl3 (s_X10_vote_155 x3_34 j50 x4_35) nf x5_64 x6_65 u66 = some q → ∀ (ck155 cn155 : Nat) (t : gP) (hT : ag 39 293 294 t0 t) (f67 : al t 293 ∧ sT 293 = 107 ∧ sN 293 = 60), (ck155 + nf * 0 ≤ ck108 + 0 ∧ cn155 + nf * 0 ≤ cn108 + 0) → q = (r, u') → xG p l e rX10_vote s m args below meth c t Q 7 ck155 cn155 155 u66 [(5, .int (iI x5_64)), (6, .int (iI x6_65)), (0, .ref (t.2.2.1 264)), (2, .ref (t.2.2.1 293)), (3, .int (iI x3_34)), (4, .int (iI x4_35))] [] := by
                refine xl3_N (F := s_X10_vote_155 x3_34 j50 x4_35) (fun nf x5_64 x6_65 u66 q => ∀ (ck155 cn155 : Nat) (t : gP) (hT : ag 39 293 294 t0 t) (f67 : al t 293 ∧ sT 293 = 107 ∧ sN 293 = 60), (ck155 + nf * 0 ≤ ck108 + 0 ∧ cn155 + nf * 0 ≤ cn108 + 0) → q = (r, u') → xG p l e rX10_vote s m args below meth c t Q 7 ck155 cn155 155 u66 [(5, .int (iI x5_64)), (6, .int (iI x6_65)), (0, .ref (t.2.2.1 264)), (2, .ref (t.2.2.1 293)), (3, .int (iI x3_34)), (4, .int (iI x4_35))] []) ?_
                intro nf go63 igo63 x5_64 x6_65 u66 q h ck155 cn155 t hT f67 hck155 hq H locs ls hG hS hl
                subst hq
                replace X := X0.ag hT (by decide)
                unfold s_X10_vote_155 at h
                refine lv_iload X.1.1 X.1.2.1 dX10_vote_155 (lv_at hl 1 rfl) ?_
                refine lv_iload_n X.1.1 X.1.2.1 dX10_vote_157 rfl (lv_at hl 4 rfl) ?_
                obtain ⟨g68, h⟩ := xgd_of h
                refine x_icmp_ge (tgt := 189) X g68.1 g68.2 dX10_vote_158 (by decide) (fun c69 => ?_) (fun c69 => ?_)
                · replace h := xif_t h c69
                  refine W.widen (k := (ck108 + 0)) (n := (cn108 + 0)) (by omega) (by omega) ?_
                  exact Jj50 t hT f67 _ _ h _ _ _ hG hS (lv_sub hl [2, 3, 4, 5, 0] rfl)
                · replace h := xif_f h c69
                  refine lv_iload X.1.1 X.1.2.1 dX10_vote_161 (lv_at hl 0 rfl) ?_
                  obtain ⟨g70, h⟩ := xgd_of h
                  refine x_if_eq (tgt := 189) X g70 dX10_vote_163 (by decide) (fun c71 => ?_) (fun c71 => ?_)
                  · replace h := xif_t h c71
                    refine W.widen (k := (ck108 + 0)) (n := (cn108 + 0)) (by omega) (by omega) ?_
                    exact Jj50 t hT f67 _ _ h _ _ _ hG hS (lv_sub hl [2, 3, 4, 5, 0] rfl)
                  · replace h := xif_f h c71
                    refine lv_aload_n X.1.1 X.1.2.1 dX10_vote_166 rfl (lv_at hl 2 rfl) ?_
                    refine lv_aload_n X.1.1 X.1.2.1 dX10_vote_167 rfl (lv_at hl 3 rfl) ?_
                    refine lv_iload X.1.1 X.1.2.1 dX10_vote_168 (lv_at hl 1 rfl) ?_
                    obtain ⟨g72, h⟩ := xgd_of h
                    obtain ⟨g73, h⟩ := xgd_of h
                    have f75 := y_qK hG f67.1 f67.2.1 f67.2.2 g72 g73
                    obtain ⟨n74, en74, h⟩ := xlet_of h
                    refine y_aaldq X hG f67.1 f67.2.1 (Or.inr rfl) f67.2.2 g72 (by decide) g73 dX10_vote_170 ?_
                    rw [← en74]
                    rw [← en74] at f75
                    have f76 := hT.bk (by have h9 := sT_15 _ (al_lt f75.1) f75.2; omega) f75
                    refine lv_aload_n X.1.1 X.1.2.1 dX10_vote_171 rfl (lv_at hl 2 rfl) ?_
                    refine y_getr X hG 14 1 264 2 (inC := iX10) rfl (hT.fk (by decide) q264).1 (hT.fk (by decide) q264).2 ⟨by decide, by decide, by decide, rfl, by decide, by decide⟩ w4 dX10_vote_172 ?_
                    refine lv_iload X.1.1 X.1.2.1 dX10_vote_175 (lv_at hl 5 rfl) ?_
                    obtain ⟨g77, h⟩ := xgd_of h
                    obtain ⟨g78, h⟩ := xgd_of h
                    have f80 := y_qK hG (fy_14_1 hG (hT.fk (by decide) q264)).1 (fy_14_1 hG (hT.fk (by decide) q264)).2.1 (fy_14_1 hG (hT.fk (by decide) q264)).2.2 g77 g78
                    obtain ⟨n79, en79, h⟩ := xlet_of h
                    refine y_aaldq X hG (fy_14_1 hG (hT.fk (by decide) q264)).1 (fy_14_1 hG (hT.fk (by decide) q264)).2.1 (Or.inr rfl) (fy_14_1 hG (hT.fk (by decide) q264)).2.2 g77 (by decide) g78 dX10_vote_177 ?_
                    rw [← en79]
                    rw [← en79] at f80
                    have f81 := hT.bk (by have h9 := sT_15 _ (al_lt f80.1) f80.2; omega) f80
                    obtain ⟨v82, u83, hf, h⟩ := xbd_of h
                    refine y_callVi0 X hG hS (c_X10_fit l t _ _ _ _ _ hf (hT.fk (by decide) q264).1 (hT.fk (by have h9 := sT_15 _ (al_lt f76.1) f76.2; omega) f76) (hT.fk (by have h9 := sT_15 _ (al_lt f81.1) f81.2; omega) f81)) (cwV 2 X.1.2.2.2.2 gX10_vote_X10_fit rfl rfl rfl hd_X10_fit ⟨Nat.le_of_ble_eq_true rfl, Nat.le_of_ble_eq_true rfl⟩) (hT.fk (by decide) q264).1 (hT.fk (by decide) q264).2 rfl (by decide) (by rfl) hl.1 (Nat.le_of_ble_eq_true rfl) dX10_vote_178 ⟨by show ck155 + 0 ≤ 1; omega, by show cn155 + 0 ≤ 60; omega⟩ rfl (fun H locs hG hS => ?_)
                    refine lv_istore (lv' := [(5, .int (iI v82)), (6, .int (iI x6_65)), (0, .ref (t.2.2.1 264)), (2, .ref (t.2.2.1 293)), (3, .int (iI x3_34)), (4, .int (iI x4_35))]) X.1.1 X.1.2.1 dX10_vote_181 hl (by decide) rfl (fun ls hl => ?_)
                    refine lv_iinc (v := (iI (x6_65 + 1))) (lv' := [(6, .int (iI (x6_65 + 1))), (5, .int (iI v82)), (0, .ref (t.2.2.1 264)), (2, .ref (t.2.2.1 293)), (3, .int (iI x3_34)), (4, .int (iI x4_35))]) X.1.1 X.1.2.1 dX10_vote_183 hl (k := 1) rfl (iI_add _ _) (by decide) rfl (fun ls hl => ?_)
                    refine lv_goto (tgt := 155) X.1.1 X.1.2.1 dX10_vote_186 (by decide) ?_
                    exact igo63 _ _ _ _ h (ck155 + 0) (cn155 + 0) t hT f67 (by omega) rfl _ _ _ hG hS (lv_sub hl [1, 0, 2, 3, 4, 5] rfl)
              exact Lgo63 20000 _ _ _ _ h (ck108 + 0) (cn108 + 0) t hT f49 ⟨by omega, by omega⟩ rfl _ _ _ hG hS (lv_sub hl [1, 0, 2, 3, 4, 5] rfl)
          obtain ⟨j84, ej84, h⟩ := xlet_of h
          have Jj84 : ∀ (t : gP) (hT : ag 39 293 294 t0 t) (f86 : al t 293 ∧ sT 293 = 107 ∧ sN 293 = 60) (u85 : uS), j84 u85 = some (r, u') → xG p l e rX10_vote s m args below meth c t Q 7 (ck108 + 0) (cn108 + 0) 149 u85 [(0, .ref (t.2.2.1 264)), (2, .ref (t.2.2.1 293)), (3, .int (iI x3_34)), (4, .int (iI x4_35))] [] := by
              intro t hT f86 u85 h H locs ls hG hS hl
              replace X := X0.ag hT (by decide)
              replace h := (congrFun ej84 u85).symm.trans h
              refine x_iconst X dX10_vote_149 ?_
              exact Jj46 t hT f86 _ _ h _ _ _ hG hS (lv_sub hl [0, 1, 2, 3] rfl)
          refine x_if_ge (tgt := 149) X g45 dX10_vote_129 (by decide) (fun c87 => ?_) (fun c87 => ?_)
          · replace h := xif_t h c87
            exact Jj84 t hT f37 _ h _ _ _ hG hS (lv_sub hl [2, 3, 0, 1] rfl)
          · replace h := xif_f h c87
            refine lv_aload_n X.1.1 X.1.2.1 dX10_vote_132 rfl (lv_at hl 2 rfl) ?_
            refine y_getr X hG 14 1 264 2 (inC := iX10) rfl (hT.fk (by decide) q264).1 (hT.fk (by decide) q264).2 ⟨by decide, by decide, by decide, rfl, by decide, by decide⟩ w4 dX10_vote_133 ?_
            refine lv_iload X.1.1 X.1.2.1 dX10_vote_136 (lv_at hl 1 rfl) ?_
            obtain ⟨g88, h⟩ := xgd_of h
            obtain ⟨g89, h⟩ := xgd_of h
            have f91 := y_qK hG (fy_14_1 hG (hT.fk (by decide) q264)).1 (fy_14_1 hG (hT.fk (by decide) q264)).2.1 (fy_14_1 hG (hT.fk (by decide) q264)).2.2 g88 g89
            obtain ⟨n90, en90, h⟩ := xlet_of h
            refine y_aaldq X hG (fy_14_1 hG (hT.fk (by decide) q264)).1 (fy_14_1 hG (hT.fk (by decide) q264)).2.1 (Or.inr rfl) (fy_14_1 hG (hT.fk (by decide) q264)).2.2 g88 (by decide) g89 dX10_vote_138 ?_
            rw [← en90]
            rw [← en90] at f91
            have f92 := hT.bk (by have h9 := sT_15 _ (al_lt f91.1) f91.2; omega) f91
            refine yN_geti X hG 15 4 n90 4 (inC := iX11) rfl (hT.fk (by have h9 := sT_15 _ (al_lt f92.1) f92.2; omega) f92).1 (hT.fk (by have h9 := sT_15 _ (al_lt f92.1) f92.2; omega) f92).2 ⟨by decide, by decide, by decide, rfl, rfl⟩ (x_m 38 rfl) dX10_vote_139 ?_
            obtain ⟨g93, h⟩ := xgd_of h
            refine x_if_ne (tgt := 149) X g93 dX10_vote_142 (by decide) (fun c94 => ?_) (fun c94 => ?_)
            · replace h := xif_f h c94
              exact Jj84 t hT f37 _ h _ _ _ hG hS (lv_sub hl [2, 3, 0, 1] rfl)
            · replace h := xif_t h c94
              refine x_iconst X dX10_vote_145 ?_
              refine lv_goto (tgt := 150) X.1.1 X.1.2.1 dX10_vote_146 (by decide) ?_
              exact Jj46 t hT f37 _ _ h _ _ _ hG hS (lv_sub hl [2, 3, 0, 1] rfl)
      exact Lgo33 20000 _ _ _ _ h 1 60 t hT f6 ⟨by omega, by omega⟩ rfl _ _ _ hG hS (lv_sub hl [1, 0, 3, 2] rfl)
  obtain ⟨j95, ej95, h⟩ := xlet_of h
  have Jj95 : ∀ (t : gP) (hT : ag 39 293 294 t0 t) (x2_96 : Int) (u97 : uS), j95 x2_96 u97 = some (r, u') → xG p l e rX10_vote s m args below meth c t Q 7 0 0 81 u97 [(1, .ref (t.2.2.1 k1)), (2, .int (iI x2_96))] [] := by
      intro t hT x2_96 u97 h H locs ls hG hS hl
      replace X := X0.ag hT (by decide)
      replace h := (congrFun (congrFun ej95 x2_96) u97).symm.trans h
      refine lv_aload_n X.1.1 X.1.2.1 dX10_vote_81 rfl (lv_at hl 0 rfl) ?_
      refine lv_iload_n X.1.1 X.1.2.1 dX10_vote_82 rfl (lv_at hl 1 rfl) ?_
      refine yN_puti X hG hS 15 3 k1 3 _ tyX11 tyX11_ok nmX11 (inC := iX11) rfl (hT.fk (by have h9 := sT_15 _ (al_lt qk1.1) qk1.2; omega) qk1).1 (hT.fk (by have h9 := sT_15 _ (al_lt qk1.1) qk1.2; omega) qk1).2 ⟨by decide, by decide, by decide, rfl, rfl⟩ rfl (by decide +kernel) (x_m 45 rfl) dX10_vote_83 (fun H locs hG hS => ?_)
      obtain ⟨u98, eu98, h⟩ := xlet_of h
      replace hG : G t u98 H := by rw [eu98]; exact hG
      cases h
      exact hret _ _ _ _ _ _ _ hT (by decide) (by decide) dX10_vote_86 hG hS
  have Lgo99 : ∀ (nf : Nat) (x2_100 : Int) (u101 : uS) q, xl2 (s_X10_vote_2 j1 j95 k1) nf x2_100 u101 = some q → ∀ (ck2 cn2 : Nat) (t : gP) (hT : ag 39 293 294 t0 t), (ck2 + nf * 0 ≤ 0 ∧ cn2 + nf * 0 ≤ 0) → q = (r, u') → xG p l e rX10_vote s m args below meth c t Q 7 ck2 cn2 2 u101 [(2, .int (iI x2_100)), (0, .ref (t.2.2.1 264)), (1, .ref (t.2.2.1 k1))] [] := by
    refine xl2_N (F := s_X10_vote_2 j1 j95 k1) (fun nf x2_100 u101 q => ∀ (ck2 cn2 : Nat) (t : gP) (hT : ag 39 293 294 t0 t), (ck2 + nf * 0 ≤ 0 ∧ cn2 + nf * 0 ≤ 0) → q = (r, u') → xG p l e rX10_vote s m args below meth c t Q 7 ck2 cn2 2 u101 [(2, .int (iI x2_100)), (0, .ref (t.2.2.1 264)), (1, .ref (t.2.2.1 k1))] []) ?_
    intro nf go99 igo99 x2_100 u101 q h ck2 cn2 t hT hck2 hq H locs ls hG hS hl
    subst hq
    replace X := X0.ag hT (by decide)
    unfold s_X10_vote_2 at h
    refine lv_iload_n X.1.1 X.1.2.1 dX10_vote_2 rfl (lv_at hl 0 rfl) ?_
    refine lv_aload_n X.1.1 X.1.2.1 dX10_vote_3 rfl (lv_at hl 1 rfl) ?_
    refine y_geti X hG 14 8 264 8 (inC := iX10) rfl (hT.fk (by decide) q264).1 (hT.fk (by decide) q264).2 ⟨by decide, by decide, by decide, rfl, rfl⟩ w1 dX10_vote_4 ?_
    obtain ⟨g102, h⟩ := xgd_of h
    refine x_icmp_ge (tgt := 93) X g102.1 g102.2 dX10_vote_7 (by decide) (fun c103 => ?_) (fun c103 => ?_)
    · replace h := xif_t h c103
      refine W.widen (k := 0) (n := 0) (by omega) (by omega) ?_
      exact Jj1 t hT _ h _ _ _ hG hS (lv_sub hl [1, 2] rfl)
    · replace h := xif_f h c103
      refine lv_aload_n X.1.1 X.1.2.1 dX10_vote_10 rfl (lv_at hl 1 rfl) ?_
      refine y_getr X hG 14 2 264 3 (inC := iX10) rfl (hT.fk (by decide) q264).1 (hT.fk (by decide) q264).2 ⟨by decide, by decide, by decide, rfl, by decide, by decide⟩ w2 dX10_vote_11 ?_
      refine lv_iload_n X.1.1 X.1.2.1 dX10_vote_14 rfl (lv_at hl 0 rfl) ?_
      obtain ⟨g104, h⟩ := xgd_of h
      refine y_zald X hG (fy_14_2 hG (hT.fk (by decide) q264)).1 (fy_14_2 hG (hT.fk (by decide) q264)).2.1 (n := 20) (fy_14_2 hG (hT.fk (by decide) q264)).2.2 g104 (by decide) dX10_vote_15 ?_
      obtain ⟨g105, h⟩ := xgd_of h
      obtain ⟨j106, ej106, h⟩ := xlet_of h
      have Jj106 : ∀ (t : gP) (hT : ag 39 293 294 t0 t) (s107 : Int) (u108 : uS), j106 s107 u108 = some (r, u') → xG p l e rX10_vote s m args below meth c t Q 7 (ck2 + 0) (cn2 + 0) 24 u108 [(0, .ref (t.2.2.1 264)), (1, .ref (t.2.2.1 k1)), (2, .int (iI x2_100))] [.int (iI s107)] := by
          intro t hT s107 u108 h H locs ls hG hS hl
          replace X := X0.ag hT (by decide)
          replace h := (congrFun (congrFun ej106 s107) u108).symm.trans h
          refine lv_istore_n (lv' := [(3, .int (iI s107)), (0, .ref (t.2.2.1 264)), (1, .ref (t.2.2.1 k1)), (2, .int (iI x2_100))]) X.1.1 X.1.2.1 dX10_vote_24 rfl hl (by decide) rfl (fun ls hl => ?_)
          refine x_iconst X dX10_vote_25 ?_
          refine lv_istore (lv' := [(4, .int (iI 0)), (3, .int (iI s107)), (0, .ref (t.2.2.1 264)), (1, .ref (t.2.2.1 k1)), (2, .int (iI x2_100))]) X.1.1 X.1.2.1 dX10_vote_26 hl (by decide) rfl (fun ls hl => ?_)
          obtain ⟨j109, ej109, h⟩ := xlet_of h
          have Jj109 : ∀ (t : gP) (hT : ag 39 293 294 t0 t) (x3_110 : Int) (u111 : uS), j109 x3_110 u111 = some (r, u') → xG p l e rX10_vote s m args below meth c t Q 7 (ck2 + 0) (cn2 + 0) 74 u111 [(0, .ref (t.2.2.1 264)), (1, .ref (t.2.2.1 k1)), (2, .int (iI x2_100)), (3, .int (iI x3_110))] [] := by
              intro t hT x3_110 u111 h H locs ls hG hS hl
              replace X := X0.ag hT (by decide)
              replace h := (congrFun (congrFun ej109 x3_110) u111).symm.trans h
              refine lv_iload_n X.1.1 X.1.2.1 dX10_vote_74 rfl (lv_at hl 3 rfl) ?_
              obtain ⟨g112, h⟩ := xgd_of h
              refine x_if_ne (tgt := 81) X g112 dX10_vote_75 (by decide) (fun c113 => ?_) (fun c113 => ?_)
              · replace h := xif_f h c113
                refine W.widen (k := 0) (n := 0) (by omega) (by omega) ?_
                exact Jj95 t hT _ _ h _ _ _ hG hS (lv_sub hl [1, 2] rfl)
              · replace h := xif_t h c113
                refine lv_goto (tgt := 87) X.1.1 X.1.2.1 dX10_vote_78 (by decide) ?_
                refine lv_iinc (v := (iI (x2_100 + 1))) (lv' := [(2, .int (iI (x2_100 + 1))), (0, .ref (t.2.2.1 264)), (1, .ref (t.2.2.1 k1)), (3, .int (iI x3_110))]) X.1.1 X.1.2.1 dX10_vote_87 hl (k := 2) rfl (iI_add _ _) (by decide) rfl (fun ls hl => ?_)
                refine lv_goto (tgt := 2) X.1.1 X.1.2.1 dX10_vote_90 (by decide) ?_
                exact igo99 _ _ _ h (ck2 + 0) (cn2 + 0) t hT (by omega) rfl _ _ _ hG hS (lv_sub hl [0, 1, 2] rfl)
          have Lgo114 : ∀ (nf : Nat) (x3_115 : Int) (x4_116 : Int) (u117 : uS) q, xl3 (s_X10_vote_28 j109 x2_100 k1) nf x3_115 x4_116 u117 = some q → ∀ (ck28 cn28 : Nat) (t : gP) (hT : ag 39 293 294 t0 t), (ck28 + nf * 0 ≤ ck2 + 0 ∧ cn28 + nf * 0 ≤ cn2 + 0) → q = (r, u') → xG p l e rX10_vote s m args below meth c t Q 7 ck28 cn28 28 u117 [(3, .int (iI x3_115)), (4, .int (iI x4_116)), (0, .ref (t.2.2.1 264)), (1, .ref (t.2.2.1 k1)), (2, .int (iI x2_100))] [] := by
            refine xl3_N (F := s_X10_vote_28 j109 x2_100 k1) (fun nf x3_115 x4_116 u117 q => ∀ (ck28 cn28 : Nat) (t : gP) (hT : ag 39 293 294 t0 t), (ck28 + nf * 0 ≤ ck2 + 0 ∧ cn28 + nf * 0 ≤ cn2 + 0) → q = (r, u') → xG p l e rX10_vote s m args below meth c t Q 7 ck28 cn28 28 u117 [(3, .int (iI x3_115)), (4, .int (iI x4_116)), (0, .ref (t.2.2.1 264)), (1, .ref (t.2.2.1 k1)), (2, .int (iI x2_100))] []) ?_
            intro nf go114 igo114 x3_115 x4_116 u117 q h ck28 cn28 t hT hck28 hq H locs ls hG hS hl
            subst hq
            replace X := X0.ag hT (by decide)
            unfold s_X10_vote_28 at h
            refine lv_iload X.1.1 X.1.2.1 dX10_vote_28 (lv_at hl 1 rfl) ?_
            refine lv_aload_n X.1.1 X.1.2.1 dX10_vote_30 rfl (lv_at hl 2 rfl) ?_
            refine y_geti X hG 14 7 264 7 (inC := iX10) rfl (hT.fk (by decide) q264).1 (hT.fk (by decide) q264).2 ⟨by decide, by decide, by decide, rfl, rfl⟩ w3 dX10_vote_31 ?_
            obtain ⟨g118, h⟩ := xgd_of h
            refine x_icmp_ge (tgt := 74) X g118.1 g118.2 dX10_vote_34 (by decide) (fun c119 => ?_) (fun c119 => ?_)
            · replace h := xif_t h c119
              refine W.widen (k := (ck2 + 0)) (n := (cn2 + 0)) (by omega) (by omega) ?_
              exact Jj109 t hT _ _ h _ _ _ hG hS (lv_sub hl [2, 3, 4, 0] rfl)
            · replace h := xif_f h c119
              refine lv_aload_n X.1.1 X.1.2.1 dX10_vote_37 rfl (lv_at hl 2 rfl) ?_
              refine y_getr X hG 14 1 264 2 (inC := iX10) rfl (hT.fk (by decide) q264).1 (hT.fk (by decide) q264).2 ⟨by decide, by decide, by decide, rfl, by decide, by decide⟩ w4 dX10_vote_38 ?_
              refine lv_iload X.1.1 X.1.2.1 dX10_vote_41 (lv_at hl 1 rfl) ?_
              obtain ⟨g120, h⟩ := xgd_of h
              obtain ⟨g121, h⟩ := xgd_of h
              have f123 := y_qK hG (fy_14_1 hG (hT.fk (by decide) q264)).1 (fy_14_1 hG (hT.fk (by decide) q264)).2.1 (fy_14_1 hG (hT.fk (by decide) q264)).2.2 g120 g121
              obtain ⟨n122, en122, h⟩ := xlet_of h
              refine y_aaldq X hG (fy_14_1 hG (hT.fk (by decide) q264)).1 (fy_14_1 hG (hT.fk (by decide) q264)).2.1 (Or.inr rfl) (fy_14_1 hG (hT.fk (by decide) q264)).2.2 g120 (by decide) g121 dX10_vote_43 ?_
              rw [← en122]
              rw [← en122] at f123
              have f124 := hT.bk (by have h9 := sT_15 _ (al_lt f123.1) f123.2; omega) f123
              refine yN_geti X hG 15 3 n122 3 (inC := iX11) rfl (hT.fk (by have h9 := sT_15 _ (al_lt f124.1) f124.2; omega) f124).1 (hT.fk (by have h9 := sT_15 _ (al_lt f124.1) f124.2; omega) f124).2 ⟨by decide, by decide, by decide, rfl, rfl⟩ (x_m 45 rfl) dX10_vote_44 ?_
              refine lv_iload_n X.1.1 X.1.2.1 dX10_vote_47 rfl (lv_at hl 4 rfl) ?_
              obtain ⟨g125, h⟩ := xgd_of h
              refine x_icmp_ne (tgt := 68) X g125.1 g125.2 dX10_vote_48 (by decide) (fun c126 => ?_) (fun c126 => ?_)
              · replace h := xif_f h c126
                refine lv_iinc (v := (iI (x4_116 + 1))) (lv' := [(4, .int (iI (x4_116 + 1))), (3, .int (iI x3_115)), (0, .ref (t.2.2.1 264)), (1, .ref (t.2.2.1 k1)), (2, .int (iI x2_100))]) X.1.1 X.1.2.1 dX10_vote_68 hl (k := 1) rfl (iI_add _ _) (by decide) rfl (fun ls hl => ?_)
                refine lv_goto (tgt := 28) X.1.1 X.1.2.1 dX10_vote_71 (by decide) ?_
                exact igo114 _ _ _ _ h (ck28 + 0) (cn28 + 0) t hT (by omega) rfl _ _ _ hG hS (lv_sub hl [1, 0, 2, 3, 4] rfl)
              · replace h := xif_t h c126
                refine lv_aload_n X.1.1 X.1.2.1 dX10_vote_51 rfl (lv_at hl 2 rfl) ?_
                refine lv_aload_n X.1.1 X.1.2.1 dX10_vote_52 rfl (lv_at hl 3 rfl) ?_
                refine lv_aload_n X.1.1 X.1.2.1 dX10_vote_53 rfl (lv_at hl 2 rfl) ?_
                refine y_getr X hG 14 1 264 2 (inC := iX10) rfl (hT.fk (by decide) q264).1 (hT.fk (by decide) q264).2 ⟨by decide, by decide, by decide, rfl, by decide, by decide⟩ w4 dX10_vote_54 ?_
                refine lv_iload X.1.1 X.1.2.1 dX10_vote_57 (lv_at hl 1 rfl) ?_
                obtain ⟨g127, h⟩ := xgd_of h
                obtain ⟨g128, h⟩ := xgd_of h
                have f130 := y_qK hG (fy_14_1 hG (hT.fk (by decide) q264)).1 (fy_14_1 hG (hT.fk (by decide) q264)).2.1 (fy_14_1 hG (hT.fk (by decide) q264)).2.2 g127 g128
                obtain ⟨n129, en129, h⟩ := xlet_of h
                refine y_aaldq X hG (fy_14_1 hG (hT.fk (by decide) q264)).1 (fy_14_1 hG (hT.fk (by decide) q264)).2.1 (Or.inr rfl) (fy_14_1 hG (hT.fk (by decide) q264)).2.2 g127 (by decide) g128 dX10_vote_59 ?_
                rw [← en129]
                rw [← en129] at f130
                have f131 := hT.bk (by have h9 := sT_15 _ (al_lt f130.1) f130.2; omega) f130
                obtain ⟨v132, u133, hf, h⟩ := xbd_of h
                refine y_callVi0 X hG hS (c_X10_fit l t _ _ _ _ _ hf (hT.fk (by decide) q264).1 (hT.fk (by have h9 := sT_15 _ (al_lt qk1.1) qk1.2; omega) qk1) (hT.fk (by have h9 := sT_15 _ (al_lt f131.1) f131.2; omega) f131)) (cwV 2 X.1.2.2.2.2 gX10_vote_X10_fit rfl rfl rfl hd_X10_fit ⟨Nat.le_of_ble_eq_true rfl, Nat.le_of_ble_eq_true rfl⟩) (hT.fk (by decide) q264).1 (hT.fk (by decide) q264).2 rfl (by decide) (by rfl) hl.1 (Nat.le_of_ble_eq_true rfl) dX10_vote_60 ⟨by show ck28 + 0 ≤ 1; omega, by show cn28 + 0 ≤ 60; omega⟩ rfl (fun H locs hG hS => ?_)
                obtain ⟨g134, h⟩ := xgd_of h
                refine x_if_ne (tgt := 68) X g134 dX10_vote_63 (by decide) (fun c135 => ?_) (fun c135 => ?_)
                · replace h := xif_f h c135
                  refine lv_iinc (v := (iI (x4_116 + 1))) (lv' := [(4, .int (iI (x4_116 + 1))), (3, .int (iI x3_115)), (0, .ref (t.2.2.1 264)), (1, .ref (t.2.2.1 k1)), (2, .int (iI x2_100))]) X.1.1 X.1.2.1 dX10_vote_68 hl (k := 1) rfl (iI_add _ _) (by decide) rfl (fun ls hl => ?_)
                  refine lv_goto (tgt := 28) X.1.1 X.1.2.1 dX10_vote_71 (by decide) ?_
                  exact igo114 _ _ _ _ h (ck28 + 0) (cn28 + 0) t hT (by omega) rfl _ _ _ hG hS (lv_sub hl [1, 0, 2, 3, 4] rfl)
                · replace h := xif_t h c135
                  refine x_iconst X dX10_vote_66 ?_
                  refine lv_istore_n (lv' := [(3, .int (iI 0)), (4, .int (iI x4_116)), (0, .ref (t.2.2.1 264)), (1, .ref (t.2.2.1 k1)), (2, .int (iI x2_100))]) X.1.1 X.1.2.1 dX10_vote_67 rfl hl (by decide) rfl (fun ls hl => ?_)
                  refine lv_iinc (v := (iI (x4_116 + 1))) (lv' := [(4, .int (iI (x4_116 + 1))), (3, .int (iI 0)), (0, .ref (t.2.2.1 264)), (1, .ref (t.2.2.1 k1)), (2, .int (iI x2_100))]) X.1.1 X.1.2.1 dX10_vote_68 hl (k := 1) rfl (iI_add _ _) (by decide) rfl (fun ls hl => ?_)
                  refine lv_goto (tgt := 28) X.1.1 X.1.2.1 dX10_vote_71 (by decide) ?_
                  exact igo114 _ _ _ _ h (ck28 + 0) (cn28 + 0) t hT (by omega) rfl _ _ _ hG hS (lv_sub hl [1, 0, 2, 3, 4] rfl)
          exact Lgo114 20000 _ _ _ _ h (ck2 + 0) (cn2 + 0) t hT ⟨by omega, by omega⟩ rfl _ _ _ hG hS (lv_sub hl [1, 0, 2, 3, 4] rfl)
      refine x_if_ne (tgt := 23) X g105 dX10_vote_16 (by decide) (fun c136 => ?_) (fun c136 => ?_)
      · replace h := xif_f h c136
        refine x_iconst X dX10_vote_23 ?_
        exact Jj106 t hT _ _ h _ _ _ hG hS (lv_sub hl [1, 2, 0] rfl)
      · replace h := xif_t h c136
        refine x_iconst X dX10_vote_19 ?_
        refine lv_goto (tgt := 24) X.1.1 X.1.2.1 dX10_vote_20 (by decide) ?_
        exact Jj106 t hT _ _ h _ _ _ hG hS (lv_sub hl [1, 2, 0] rfl)
  exact Lgo99 20000 _ _ _ h 0 0 t hT ⟨by omega, by omega⟩ rfl _ _ _ hG hS (lv_sub hl [0, 1, 2] rfl)
theorem hd_X10_vote : yX10_vote.cls = RX10 ∧ yX10_vote.cls ≠ "java/lang/invoke/MethodHandle" ∧ yX10_vote.cls ≠ "java/lang/invoke/VarHandle" ∧ (parseMethodDescriptor yX10_vote.desc).map (fun d => d.parameters.length) = some 1 := by decide +kernel
abbrev rX10_pass : Room := { frames := 5, cells := 18, slots := 585, locals := 116 }
set_option maxRecDepth 100000 in
set_option maxHeartbeats 8000000 in
theorem c_X10_pass (l : Launch) (t0 : gP) (u : uS) (r : Int) (u' : uS) (h : f_X10_pass u = some (r, u')) (aq264 : al t0 264) : xMva 39 293 354 l yX10_pass wsX10_pass rX10_pass t0 [.ref (t0.2.2.1 264)] u u' 18 585 := by
  refine x_ofWva (cc := cX10_pass) (maxL := 4) (own := RX10) (by decide) rfl rfl (Nat.le_of_ble_eq_true rfl) ?_
  intro p e s m args below meth c Q X0 hret H locs ls hG hS hl
  replace hl : lv_has ls 4 [(0, .ref (t0.2.2.1 264))] := hl
  have w1 : Cond.fieldLink RX10 53 "TriggerNetworkLaw$Net" "tick" "I" ∈ wsX10_pass := x_w 1 rfl
  have iX10 : ∀ w ∈ wsX100, w ∈ wsX10_pass := by decide +kernel
  have w2 : Cond.fieldLink RX10 95 "TriggerNetworkLaw$Net" "many" "I" ∈ wsX10_pass := x_w 2 rfl
  have w3 : Cond.fieldLink RX10 9 "TriggerNetworkLaw$Net" "places" "[LTriggerNetworkLaw$Place;" ∈ wsX10_pass := x_w 3 rfl
  have iX12 : ∀ w ∈ wsX120, w ∈ wsX10_pass := by decide +kernel
  have w10 : Cond.fieldLink RX10 65 "TriggerNetworkLaw$Net" "longs" "I" ∈ wsX10_pass := x_w 10 rfl
  have w11 : Cond.fieldLink RX10 120 "TriggerNetworkLaw$Net" "on" "I" ∈ wsX10_pass := x_w 11 rfl
  have w12 : Cond.fieldLink RX10 122 "TriggerNetworkLaw$Net" "made" "I" ∈ wsX10_pass := x_w 12 rfl
  have iX11 : ∀ w ∈ wsX110, w ∈ wsX10_pass := by decide +kernel
  have w4 : Cond.fieldLink RX10 17 "TriggerNetworkLaw$Net" "picks" "[LTriggerNetworkLaw$Pick;" ∈ wsX10_pass := x_w 4 rfl
  have w5 : Cond.methodLink RX10 56 Lib.Math.max.name ∈ wsX10_pass := x_w 5 rfl
  have w6 : Cond.static Lib.Math.max.name ∈ wsX10_pass := x_w 6 rfl
  have w7 : Cond.initialized "java/lang/Math" ∈ wsX10_pass := x_w 7 rfl
  have w8 : Cond.code Lib.Math.max.name Lib.Math.max.code 2 (some .int) ∈ wsX10_pass := x_w 8 rfl
  have w9 : Cond.fieldLink RX10 114 "TriggerNetworkLaw$Net" "off" "I" ∈ wsX10_pass := x_w 9 rfl
  have q264 : al t0 264 ∧ sT 264 = 14 := ⟨aq264, by decide +kernel⟩
  obtain ⟨t, ht, hT⟩ : ∃ t, t0 = t ∧ ag 39 293 354 t0 t := ⟨t0, rfl, ag.rf⟩
  have X := X0.ag hT (by decide)
  rw [ht] at hG hS hl
  clear ht
  unfold f_X10_pass at h
  refine lv_aload_n X.1.1 X.1.2.1 dX10_pass_0 rfl (lv_at hl 0 rfl) ?_
  refine lv_dup X.1.1 X.1.2.1 dX10_pass_1 rfl ?_
  refine y_geti X hG 14 9 264 9 (inC := iX10) rfl (hT.fk (by decide) q264).1 (hT.fk (by decide) q264).2 ⟨by decide, by decide, by decide, rfl, rfl⟩ w1 dX10_pass_2 ?_
  refine x_iconst X dX10_pass_5 ?_
  refine x_iadd X dX10_pass_6 ?_
  refine y_puti X hG hS 14 9 264 9 _ tyX10 tyX10_ok nmX10 (inC := iX10) rfl (hT.fk (by decide) q264).1 (hT.fk (by decide) q264).2 ⟨by decide, by decide, by decide, rfl, rfl⟩ rfl (by decide +kernel) w1 dX10_pass_7 (fun H locs hG hS => ?_)
  obtain ⟨u1, eu1, h⟩ := xlet_of h
  replace hG : G t u1 H := by rw [eu1]; exact hG
  refine x_iconst X dX10_pass_10 ?_
  refine lv_istore_n (lv' := [(1, .int (iI 0)), (0, .ref (t.2.2.1 264))]) X.1.1 X.1.2.1 dX10_pass_11 rfl hl (by decide) rfl (fun ls hl => ?_)
  obtain ⟨j2, ej2, h⟩ := xlet_of h
  have Jj2 : ∀ (t : gP) (hT : ag 39 293 354 t0 t) (u3 : uS), j2 u3 = some (r, u') → xG p l e rX10_pass s m args below meth c t Q 4 0 0 49 u3 [(0, .ref (t.2.2.1 264))] [] := by
      intro t hT u3 h H locs ls hG hS hl
      replace X := X0.ag hT (by decide)
      replace h := (congrFun ej2 u3).symm.trans h
      refine x_iconst X dX10_pass_49 ?_
      refine lv_istore_n (lv' := [(1, .int (iI 0)), (0, .ref (t.2.2.1 264))]) X.1.1 X.1.2.1 dX10_pass_50 rfl hl (by decide) rfl (fun ls hl => ?_)
      have Lgo4 : ∀ (nf : Nat) (x1_5 : Int) (u6 : uS) q, xl2 (s_X10_pass_51) nf x1_5 u6 = some q → ∀ (ck51 cn51 : Nat) (t : gP) (hT : ag 39 293 354 t0 t), (ck51 + nf * 2 ≤ 18 ∧ cn51 + nf * 65 ≤ 585) → q = (r, u') → xG p l e rX10_pass s m args below meth c t Q 4 ck51 cn51 51 u6 [(1, .int (iI x1_5)), (0, .ref (t.2.2.1 264))] [] := by
        refine xl2_N (F := s_X10_pass_51) (fun nf x1_5 u6 q => ∀ (ck51 cn51 : Nat) (t : gP) (hT : ag 39 293 354 t0 t), (ck51 + nf * 2 ≤ 18 ∧ cn51 + nf * 65 ≤ 585) → q = (r, u') → xG p l e rX10_pass s m args below meth c t Q 4 ck51 cn51 51 u6 [(1, .int (iI x1_5)), (0, .ref (t.2.2.1 264))] []) ?_
        intro nf go4 igo4 x1_5 u6 q h ck51 cn51 t hT hck51 hq H locs ls hG hS hl
        subst hq
        replace X := X0.ag hT (by decide)
        unfold s_X10_pass_51 at h
        refine lv_iload_n X.1.1 X.1.2.1 dX10_pass_51 rfl (lv_at hl 0 rfl) ?_
        refine lv_aload_n X.1.1 X.1.2.1 dX10_pass_52 rfl (lv_at hl 1 rfl) ?_
        refine y_geti X hG 14 6 264 6 (inC := iX10) rfl (hT.fk (by decide) q264).1 (hT.fk (by decide) q264).2 ⟨by decide, by decide, by decide, rfl, rfl⟩ w2 dX10_pass_53 ?_
        obtain ⟨g7, h⟩ := xgd_of h
        refine x_icmp_ge (tgt := 237) X g7.1 g7.2 dX10_pass_56 (by decide) (fun c8 => ?_) (fun c8 => ?_)
        · replace h := xif_t h c8
          cases h
          exact hret _ _ _ _ _ _ _ hT (by omega) (by omega) dX10_pass_237 hG hS
        · replace h := xif_f h c8
          refine lv_aload_n X.1.1 X.1.2.1 dX10_pass_59 rfl (lv_at hl 1 rfl) ?_
          refine y_getr X hG 14 0 264 1 (inC := iX10) rfl (hT.fk (by decide) q264).1 (hT.fk (by decide) q264).2 ⟨by decide, by decide, by decide, rfl, by decide, by decide⟩ w3 dX10_pass_60 ?_
          refine lv_iload_n X.1.1 X.1.2.1 dX10_pass_63 rfl (lv_at hl 0 rfl) ?_
          obtain ⟨g9, h⟩ := xgd_of h
          obtain ⟨g10, h⟩ := xgd_of h
          have f12 := y_qP hG (fy_14_0 hG (hT.fk (by decide) q264)).1 (fy_14_0 hG (hT.fk (by decide) q264)).2.1 (fy_14_0 hG (hT.fk (by decide) q264)).2.2 g9 g10
          obtain ⟨n11, en11, h⟩ := xlet_of h
          refine y_aaldq X hG (fy_14_0 hG (hT.fk (by decide) q264)).1 (fy_14_0 hG (hT.fk (by decide) q264)).2.1 (Or.inl rfl) (fy_14_0 hG (hT.fk (by decide) q264)).2.2 g9 (by decide) g10 dX10_pass_64 ?_
          rw [← en11]
          rw [← en11] at f12
          have f13 := hT.bk (by have h9 := sT_16 _ (al_lt f12.1) f12.2; omega) f12
          refine lv_astore_n (lv' := [(2, .ref (t.2.2.1 n11)), (1, .int (iI x1_5)), (0, .ref (t.2.2.1 264))]) X.1.1 X.1.2.1 dX10_pass_65 rfl hl (by decide) rfl (fun ls hl => ?_)
          refine lv_aload_n X.1.1 X.1.2.1 dX10_pass_66 rfl (lv_at hl 0 rfl) ?_
          refine yN_geti X hG 16 4 n11 4 (inC := iX12) rfl (hT.fk (by have h9 := sT_16 _ (al_lt f13.1) f13.2; omega) f13).1 (hT.fk (by have h9 := sT_16 _ (al_lt f13.1) f13.2; omega) f13).2 ⟨by decide, by decide, by decide, rfl, rfl⟩ (x_m 41 rfl) dX10_pass_67 ?_
          obtain ⟨g14, h⟩ := xgd_of h
          refine x_if_eq (tgt := 128) X g14 dX10_pass_70 (by decide) (fun c15 => ?_) (fun c15 => ?_)
          · replace h := xif_t h c15
            refine lv_aload_n X.1.1 X.1.2.1 dX10_pass_128 rfl (lv_at hl 2 rfl) ?_
            refine y_geti X hG 14 9 264 9 (inC := iX10) rfl (hT.fk (by decide) q264).1 (hT.fk (by decide) q264).2 ⟨by decide, by decide, by decide, rfl, rfl⟩ w1 dX10_pass_129 ?_
            refine lv_aload_n X.1.1 X.1.2.1 dX10_pass_132 rfl (lv_at hl 2 rfl) ?_
            refine y_geti X hG 14 18 264 18 (inC := iX10) rfl (hT.fk (by decide) q264).1 (hT.fk (by decide) q264).2 ⟨by decide, by decide, by decide, rfl, rfl⟩ w10 dX10_pass_133 ?_
            obtain ⟨g16, h⟩ := xgd_of h
            refine x_icmp_lt (tgt := 231) X g16.1 g16.2 dX10_pass_136 (by decide) (fun c17 => ?_) (fun c17 => ?_)
            · replace h := xif_t h c17
              refine lv_iinc (v := (iI (x1_5 + 1))) (lv' := [(1, .int (iI (x1_5 + 1))), (2, .ref (t.2.2.1 n11)), (0, .ref (t.2.2.1 264))]) X.1.1 X.1.2.1 dX10_pass_231 hl (k := 1) rfl (iI_add _ _) (by decide) rfl (fun ls hl => ?_)
              refine lv_goto (tgt := 51) X.1.1 X.1.2.1 dX10_pass_234 (by decide) ?_
              refine W.widen (k := ck51 + 2) (n := cn51 + 65) (by omega) (by omega) ?_
              exact igo4 _ _ _ h (ck51 + 2) (cn51 + 65) t hT (by omega) rfl _ _ _ hG hS (lv_sub hl [0, 2] rfl)
            · replace h := xif_f h c17
              refine lv_aload_n X.1.1 X.1.2.1 dX10_pass_139 rfl (lv_at hl 0 rfl) ?_
              refine yN_geti X hG 16 5 n11 5 (inC := iX12) rfl (hT.fk (by have h9 := sT_16 _ (al_lt f13.1) f13.2; omega) f13).1 (hT.fk (by have h9 := sT_16 _ (al_lt f13.1) f13.2; omega) f13).2 ⟨by decide, by decide, by decide, rfl, rfl⟩ (x_m 44 rfl) dX10_pass_140 ?_
              obtain ⟨g18, h⟩ := xgd_of h
              refine x_if_ne (tgt := 231) X g18 dX10_pass_143 (by decide) (fun c19 => ?_) (fun c19 => ?_)
              · replace h := xif_f h c19
                refine lv_iinc (v := (iI (x1_5 + 1))) (lv' := [(1, .int (iI (x1_5 + 1))), (2, .ref (t.2.2.1 n11)), (0, .ref (t.2.2.1 264))]) X.1.1 X.1.2.1 dX10_pass_231 hl (k := 1) rfl (iI_add _ _) (by decide) rfl (fun ls hl => ?_)
                refine lv_goto (tgt := 51) X.1.1 X.1.2.1 dX10_pass_234 (by decide) ?_
                refine W.widen (k := ck51 + 2) (n := cn51 + 65) (by omega) (by omega) ?_
                exact igo4 _ _ _ h (ck51 + 2) (cn51 + 65) t hT (by omega) rfl _ _ _ hG hS (lv_sub hl [0, 2] rfl)
              · replace h := xif_t h c19
                refine lv_aload_n X.1.1 X.1.2.1 dX10_pass_146 rfl (lv_at hl 2 rfl) ?_
                refine lv_aload_n X.1.1 X.1.2.1 dX10_pass_147 rfl (lv_at hl 0 rfl) ?_
                obtain ⟨v20, u21, hf, h⟩ := xbd_of h
                refine y_callVi0 X hG hS (c_X10_ratio l t _ _ _ _ hf (hT.fk (by decide) q264).1 (hT.fk (by have h9 := sT_16 _ (al_lt f13.1) f13.2; omega) f13)) (cwV 1 X.1.2.2.2.2 gX10_pass_X10_ratio rfl rfl rfl hd_X10_ratio ⟨Nat.le_of_ble_eq_true rfl, Nat.le_of_ble_eq_true rfl⟩) (hT.fk (by decide) q264).1 (hT.fk (by decide) q264).2 rfl (by decide) (by rfl) hl.1 (Nat.le_of_ble_eq_true rfl) dX10_pass_148 ⟨by show ck51 + 0 ≤ 18; omega, by show cn51 + 0 ≤ 585; omega⟩ rfl (fun H locs hG hS => ?_)
                refine lv_aload_n X.1.1 X.1.2.1 dX10_pass_151 rfl (lv_at hl 2 rfl) ?_
                refine y_geti X hG 14 19 264 19 (inC := iX10) rfl (hT.fk (by decide) q264).1 (hT.fk (by decide) q264).2 ⟨by decide, by decide, by decide, rfl, rfl⟩ w11 dX10_pass_152 ?_
                obtain ⟨g22, h⟩ := xgd_of h
                refine x_icmp_lt (tgt := 231) X g22.1 g22.2 dX10_pass_155 (by decide) (fun c23 => ?_) (fun c23 => ?_)
                · replace h := xif_t h c23
                  refine lv_iinc (v := (iI (x1_5 + 1))) (lv' := [(1, .int (iI (x1_5 + 1))), (2, .ref (t.2.2.1 n11)), (0, .ref (t.2.2.1 264))]) X.1.1 X.1.2.1 dX10_pass_231 hl (k := 1) rfl (iI_add _ _) (by decide) rfl (fun ls hl => ?_)
                  refine lv_goto (tgt := 51) X.1.1 X.1.2.1 dX10_pass_234 (by decide) ?_
                  refine W.widen (k := ck51 + 2) (n := cn51 + 65) (by omega) (by omega) ?_
                  exact igo4 _ _ _ h (ck51 + 2) (cn51 + 65) t hT (by omega) rfl _ _ _ hG hS (lv_sub hl [0, 2] rfl)
                · replace h := xif_f h c23
                  refine lv_aload_n X.1.1 X.1.2.1 dX10_pass_158 rfl (lv_at hl 2 rfl) ?_
                  refine y_geti X hG 14 7 264 7 (inC := iX10) rfl (hT.fk (by decide) q264).1 (hT.fk (by decide) q264).2 ⟨by decide, by decide, by decide, rfl, rfl⟩ w12 dX10_pass_159 ?_
                  refine x_bipush X dX10_pass_162 (by decide) ?_
                  obtain ⟨g24, h⟩ := xgd_of h
                  refine x_icmp_ge (tgt := 231) X g24 ⟨by decide, by decide⟩ dX10_pass_164 (by decide) (fun c25 => ?_) (fun c25 => ?_)
                  · replace h := xif_t h c25
                    refine lv_iinc (v := (iI (x1_5 + 1))) (lv' := [(1, .int (iI (x1_5 + 1))), (2, .ref (t.2.2.1 n11)), (0, .ref (t.2.2.1 264))]) X.1.1 X.1.2.1 dX10_pass_231 hl (k := 1) rfl (iI_add _ _) (by decide) rfl (fun ls hl => ?_)
                    refine lv_goto (tgt := 51) X.1.1 X.1.2.1 dX10_pass_234 (by decide) ?_
                    refine W.widen (k := ck51 + 2) (n := cn51 + 65) (by omega) (by omega) ?_
                    exact igo4 _ _ _ h (ck51 + 2) (cn51 + 65) t hT (by omega) rfl _ _ _ hG hS (lv_sub hl [0, 2] rfl)
                  · replace h := xif_f h c25
                    refine lv_aload_n X.1.1 X.1.2.1 dX10_pass_167 rfl (lv_at hl 0 rfl) ?_
                    refine x_iconst X dX10_pass_168 ?_
                    refine yN_putz X hG hS 16 4 n11 4 _ tyX12 tyX12_ok nmX12 (inC := iX12) rfl (hT.fk (by have h9 := sT_16 _ (al_lt f13.1) f13.2; omega) f13).1 (hT.fk (by have h9 := sT_16 _ (al_lt f13.1) f13.2; omega) f13).2 ⟨by decide, by decide, by decide, rfl, rfl⟩ rfl (by decide +kernel) (by decide) (x_m 41 rfl) dX10_pass_169 (fun H locs hG hS => ?_)
                    obtain ⟨u26, eu26, h⟩ := xlet_of h
                    replace hG : G t u26 H := by rw [eu26]; exact hG
                    refine lv_aload_n X.1.1 X.1.2.1 dX10_pass_172 rfl (lv_at hl 0 rfl) ?_
                    refine lv_aload_n X.1.1 X.1.2.1 dX10_pass_173 rfl (lv_at hl 2 rfl) ?_
                    refine y_geti X hG 14 7 264 7 (inC := iX10) rfl (hT.fk (by decide) q264).1 (hT.fk (by decide) q264).2 ⟨by decide, by decide, by decide, rfl, rfl⟩ w12 dX10_pass_174 ?_
                    refine yN_puti X hG hS 16 3 n11 3 _ tyX12 tyX12_ok nmX12 (inC := iX12) rfl (hT.fk (by have h9 := sT_16 _ (al_lt f13.1) f13.2; omega) f13).1 (hT.fk (by have h9 := sT_16 _ (al_lt f13.1) f13.2; omega) f13).2 ⟨by decide, by decide, by decide, rfl, rfl⟩ rfl (by decide +kernel) (x_m 42 rfl) dX10_pass_177 (fun H locs hG hS => ?_)
                    obtain ⟨u27, eu27, h⟩ := xlet_of h
                    replace hG : G t u27 H := by rw [eu27]; exact hG
                    obtain ⟨g28, h⟩ := xgd_of h
                    obtain ⟨n29, en29, h⟩ := xlet_of h
                    refine mk_Pick X hG hS hl.1 n29 (by omega) g28.2.2 (fun j9 hj => by have := g28.2.1 j9 hj; omega) ⟨by show ck51 + 0 + 1 ≤ 18; omega, by show cn51 + 0 + 5 ≤ 585; omega⟩ (kk := fun t' H locs hag f30 hG hS => ?_)
                    obtain ⟨u31, eu31, h⟩ := xlet_of h
                    replace hG : G t' u31 H := by rw [eu31]; exact hG
                    rw [← hag.at (k := n11) (by have h9 := sT_16 _ (al_lt (hT.fk (by have h9 := sT_16 _ (al_lt f13.1) f13.2; omega) f13).1) (hT.fk (by have h9 := sT_16 _ (al_lt f13.1) f13.2; omega) f13).2; omega), ← hag.at (k := 264) (by decide)] at hl
                    replace X := X.ag hag (by decide)
                    replace hT : ag 39 293 354 t0 t' := hT.tr hag (by decide)
                    clear hag
                    obtain ⟨t, rfl⟩ : ∃ z, z = t' := ⟨_, rfl⟩
                    have f32 : al t n29 ∧ sT n29 = 15 := ⟨f30, sT_15k (by omega)⟩
                    refine lv_astore_n (lv' := [(3, .ref (t.2.2.1 n29)), (2, .ref (t.2.2.1 n11)), (1, .int (iI x1_5)), (0, .ref (t.2.2.1 264))]) X.1.1 X.1.2.1 dX10_pass_187 rfl hl (by decide) rfl (fun ls hl => ?_)
                    refine lv_aload_n X.1.1 X.1.2.1 dX10_pass_188 rfl (lv_at hl 0 rfl) ?_
                    refine lv_iload_n X.1.1 X.1.2.1 dX10_pass_189 rfl (lv_at hl 2 rfl) ?_
                    refine yN_puti X hG hS 15 0 n29 0 _ tyX11 tyX11_ok nmX11 (inC := iX11) rfl f32.1 f32.2 ⟨by decide, by decide, by decide, rfl, rfl⟩ rfl (by decide +kernel) (x_m 37 rfl) dX10_pass_190 (fun H locs hG hS => ?_)
                    obtain ⟨u33, eu33, h⟩ := xlet_of h
                    replace hG : G t u33 H := by rw [eu33]; exact hG
                    refine lv_aload_n X.1.1 X.1.2.1 dX10_pass_193 rfl (lv_at hl 0 rfl) ?_
                    refine lv_aload_n X.1.1 X.1.2.1 dX10_pass_194 rfl (lv_at hl 3 rfl) ?_
                    refine y_geti X hG 14 9 264 9 (inC := iX10) rfl (hT.fk (by decide) q264).1 (hT.fk (by decide) q264).2 ⟨by decide, by decide, by decide, rfl, rfl⟩ w1 dX10_pass_195 ?_
                    refine yN_puti X hG hS 15 1 n29 1 _ tyX11 tyX11_ok nmX11 (inC := iX11) rfl f32.1 f32.2 ⟨by decide, by decide, by decide, rfl, rfl⟩ rfl (by decide +kernel) (x_m 39 rfl) dX10_pass_198 (fun H locs hG hS => ?_)
                    obtain ⟨u34, eu34, h⟩ := xlet_of h
                    replace hG : G t u34 H := by rw [eu34]; exact hG
                    refine lv_aload_n X.1.1 X.1.2.1 dX10_pass_201 rfl (lv_at hl 0 rfl) ?_
                    refine lv_aload_n X.1.1 X.1.2.1 dX10_pass_202 rfl (lv_at hl 1 rfl) ?_
                    refine yN_geti X hG 16 2 n11 2 (inC := iX12) rfl (hT.fk (by have h9 := sT_16 _ (al_lt f13.1) f13.2; omega) f13).1 (hT.fk (by have h9 := sT_16 _ (al_lt f13.1) f13.2; omega) f13).2 ⟨by decide, by decide, by decide, rfl, rfl⟩ (x_m 40 rfl) dX10_pass_203 ?_
                    refine yN_puti X hG hS 15 2 n29 2 _ tyX11 tyX11_ok nmX11 (inC := iX11) rfl f32.1 f32.2 ⟨by decide, by decide, by decide, rfl, rfl⟩ rfl (by decide +kernel) (x_m 43 rfl) dX10_pass_206 (fun H locs hG hS => ?_)
                    obtain ⟨u35, eu35, h⟩ := xlet_of h
                    replace hG : G t u35 H := by rw [eu35]; exact hG
                    refine lv_aload_n X.1.1 X.1.2.1 dX10_pass_209 rfl (lv_at hl 3 rfl) ?_
                    refine y_getr X hG 14 1 264 2 (inC := iX10) rfl (hT.fk (by decide) q264).1 (hT.fk (by decide) q264).2 ⟨by decide, by decide, by decide, rfl, by decide, by decide⟩ w4 dX10_pass_210 ?_
                    refine lv_aload_n X.1.1 X.1.2.1 dX10_pass_213 rfl (lv_at hl 3 rfl) ?_
                    refine lv_dup X.1.1 X.1.2.1 dX10_pass_214 rfl ?_
                    refine y_geti X hG 14 7 264 7 (inC := iX10) rfl (hT.fk (by decide) q264).1 (hT.fk (by decide) q264).2 ⟨by decide, by decide, by decide, rfl, rfl⟩ w12 dX10_pass_215 ?_
                    refine lv_dup_x1 X.1.1 X.1.2.1 dX10_pass_218 rfl rfl ?_
                    refine x_iconst X dX10_pass_219 ?_
                    refine x_iadd X dX10_pass_220 ?_
                    refine y_puti X hG hS 14 7 264 7 _ tyX10 tyX10_ok nmX10 (inC := iX10) rfl (hT.fk (by decide) q264).1 (hT.fk (by decide) q264).2 ⟨by decide, by decide, by decide, rfl, rfl⟩ rfl (by decide +kernel) w12 dX10_pass_221 (fun H locs hG hS => ?_)
                    obtain ⟨u36, eu36, h⟩ := xlet_of h
                    replace hG : G t u36 H := by rw [eu36]; exact hG
                    refine lv_aload_n X.1.1 X.1.2.1 dX10_pass_224 rfl (lv_at hl 0 rfl) ?_
                    obtain ⟨g37, h⟩ := xgd_of h
                    refine y_aast X hG hS (fy_14_1 hG (hT.fk (by decide) q264)).1 (fy_14_1 hG (hT.fk (by decide) q264)).2.1 f32.1 f32.2 (Or.inr ⟨rfl, rfl⟩) (fy_14_1 hG (hT.fk (by decide) q264)).2.2 g37 (by decide) dX10_pass_225 (fun H locs hG hS => ?_)
                    obtain ⟨u38, eu38, h⟩ := xlet_of h
                    replace hG : G t u38 H := by rw [eu38]; exact hG
                    refine lv_aload_n X.1.1 X.1.2.1 dX10_pass_226 rfl (lv_at hl 3 rfl) ?_
                    refine lv_aload_n X.1.1 X.1.2.1 dX10_pass_227 rfl (lv_at hl 0 rfl) ?_
                    obtain ⟨v39, u40, hf, h⟩ := xbd_of h
                    refine y_callVva X hG hS (c_X10_vote l t _ _ _ _ hf (hT.fk (by decide) q264).1 f32) (cwV 1 X.1.2.2.2.2 gX10_pass_X10_vote rfl rfl rfl hd_X10_vote ⟨Nat.le_of_ble_eq_true rfl, Nat.le_of_ble_eq_true rfl⟩) (hT.fk (by decide) q264).1 (hT.fk (by decide) q264).2 rfl (by decide) (by rfl) hl.1 (Nat.le_of_ble_eq_true rfl) dX10_pass_228 ⟨by show ck51 + 1 + 1 ≤ 18; omega, by show cn51 + 5 + 60 ≤ 585; omega⟩ rfl (fun t' H locs hag hG hS => ?_)
                    rw [← hag.at (k := n29) (by have h9 := sT_15 _ (al_lt f32.1) f32.2; omega), ← hag.at (k := n11) (by have h9 := sT_16 _ (al_lt (hT.fk (by have h9 := sT_16 _ (al_lt f13.1) f13.2; omega) f13).1) (hT.fk (by have h9 := sT_16 _ (al_lt f13.1) f13.2; omega) f13).2; omega), ← hag.at (k := 264) (by decide)] at hl
                    have f42 := hag.fk (by have h9 := sT_15 _ (al_lt f32.1) f32.2; omega) f32
                    replace X := X.ag hag (by decide)
                    replace hT : ag 39 293 354 t0 t' := hT.tr hag (by decide)
                    clear hag
                    obtain ⟨t, rfl⟩ : ∃ z, z = t' := ⟨_, rfl⟩
                    refine lv_iinc (v := (iI (x1_5 + 1))) (lv' := [(1, .int (iI (x1_5 + 1))), (3, .ref (t.2.2.1 n29)), (2, .ref (t.2.2.1 n11)), (0, .ref (t.2.2.1 264))]) X.1.1 X.1.2.1 dX10_pass_231 hl (k := 2) rfl (iI_add _ _) (by decide) rfl (fun ls hl => ?_)
                    refine lv_goto (tgt := 51) X.1.1 X.1.2.1 dX10_pass_234 (by decide) ?_
                    exact igo4 _ _ _ h (ck51 + 2) (cn51 + 65) t hT (by omega) rfl _ _ _ hG hS (lv_sub hl [0, 3] rfl)
          · replace h := xif_f h c15
            refine lv_aload_n X.1.1 X.1.2.1 dX10_pass_73 rfl (lv_at hl 2 rfl) ?_
            refine y_getr X hG 14 1 264 2 (inC := iX10) rfl (hT.fk (by decide) q264).1 (hT.fk (by decide) q264).2 ⟨by decide, by decide, by decide, rfl, by decide, by decide⟩ w4 dX10_pass_74 ?_
            refine lv_aload_n X.1.1 X.1.2.1 dX10_pass_77 rfl (lv_at hl 0 rfl) ?_
            refine yN_geti X hG 16 3 n11 3 (inC := iX12) rfl (hT.fk (by have h9 := sT_16 _ (al_lt f13.1) f13.2; omega) f13).1 (hT.fk (by have h9 := sT_16 _ (al_lt f13.1) f13.2; omega) f13).2 ⟨by decide, by decide, by decide, rfl, rfl⟩ (x_m 42 rfl) dX10_pass_78 ?_
            obtain ⟨g43, h⟩ := xgd_of h
            obtain ⟨g44, h⟩ := xgd_of h
            have f46 := y_qK hG (fy_14_1 hG (hT.fk (by decide) q264)).1 (fy_14_1 hG (hT.fk (by decide) q264)).2.1 (fy_14_1 hG (hT.fk (by decide) q264)).2.2 g43 g44
            obtain ⟨n45, en45, h⟩ := xlet_of h
            refine y_aaldq X hG (fy_14_1 hG (hT.fk (by decide) q264)).1 (fy_14_1 hG (hT.fk (by decide) q264)).2.1 (Or.inr rfl) (fy_14_1 hG (hT.fk (by decide) q264)).2.2 g43 (by decide) g44 dX10_pass_81 ?_
            rw [← en45]
            rw [← en45] at f46
            refine lv_aload_n X.1.1 X.1.2.1 dX10_pass_82 rfl (lv_at hl 2 rfl) ?_
            refine y_getr X hG 14 1 264 2 (inC := iX10) rfl (hT.fk (by decide) q264).1 (hT.fk (by decide) q264).2 ⟨by decide, by decide, by decide, rfl, by decide, by decide⟩ w4 dX10_pass_83 ?_
            refine lv_aload_n X.1.1 X.1.2.1 dX10_pass_86 rfl (lv_at hl 0 rfl) ?_
            refine yN_geti X hG 16 3 n11 3 (inC := iX12) rfl (hT.fk (by have h9 := sT_16 _ (al_lt f13.1) f13.2; omega) f13).1 (hT.fk (by have h9 := sT_16 _ (al_lt f13.1) f13.2; omega) f13).2 ⟨by decide, by decide, by decide, rfl, rfl⟩ (x_m 42 rfl) dX10_pass_87 ?_
            obtain ⟨g47, h⟩ := xgd_of h
            obtain ⟨g48, h⟩ := xgd_of h
            have f50 := y_qK hG (fy_14_1 hG (hT.fk (by decide) q264)).1 (fy_14_1 hG (hT.fk (by decide) q264)).2.1 (fy_14_1 hG (hT.fk (by decide) q264)).2.2 g47 g48
            obtain ⟨n49, en49, h⟩ := xlet_of h
            refine y_aaldq X hG (fy_14_1 hG (hT.fk (by decide) q264)).1 (fy_14_1 hG (hT.fk (by decide) q264)).2.1 (Or.inr rfl) (fy_14_1 hG (hT.fk (by decide) q264)).2.2 g47 (by decide) g48 dX10_pass_90 ?_
            rw [← en49]
            rw [← en49] at f50
            refine yN_geti X hG 15 2 n49 2 (inC := iX11) rfl f50.1 f50.2 ⟨by decide, by decide, by decide, rfl, rfl⟩ (x_m 43 rfl) dX10_pass_91 ?_
            refine lv_aload_n X.1.1 X.1.2.1 dX10_pass_94 rfl (lv_at hl 0 rfl) ?_
            refine yN_geti X hG 16 2 n11 2 (inC := iX12) rfl (hT.fk (by have h9 := sT_16 _ (al_lt f13.1) f13.2; omega) f13).1 (hT.fk (by have h9 := sT_16 _ (al_lt f13.1) f13.2; omega) f13).2 ⟨by decide, by decide, by decide, rfl, rfl⟩ (x_m 40 rfl) dX10_pass_95 ?_
            obtain ⟨g51, h⟩ := xgd_of h
            refine x_mmax (R := rX10_pass) X g51.1 g51.2 hl.1 w5 w6 w7 w8 (by decide) (by decide) dX10_pass_98 (Nat.le_of_ble_eq_true rfl) ⟨by show ck51 + 0 ≤ 18; omega, by show cn51 + 0 ≤ 585; omega⟩ ?_
            refine yN_puti X hG hS 15 2 n45 2 _ tyX11 tyX11_ok nmX11 (inC := iX11) rfl f46.1 f46.2 ⟨by decide, by decide, by decide, rfl, rfl⟩ rfl (by decide +kernel) (x_m 43 rfl) dX10_pass_101 (fun H locs hG hS => ?_)
            obtain ⟨u52, eu52, h⟩ := xlet_of h
            replace hG : G t u52 H := by rw [eu52]; exact hG
            refine lv_aload_n X.1.1 X.1.2.1 dX10_pass_104 rfl (lv_at hl 0 rfl) ?_
            refine lv_aload_n X.1.1 X.1.2.1 dX10_pass_105 rfl (lv_at hl 2 rfl) ?_
            refine lv_aload_n X.1.1 X.1.2.1 dX10_pass_106 rfl (lv_at hl 0 rfl) ?_
            obtain ⟨v53, u54, hf, h⟩ := xbd_of h
            refine y_callVi0 X hG hS (c_X10_ratio l t _ _ _ _ hf (hT.fk (by decide) q264).1 (hT.fk (by have h9 := sT_16 _ (al_lt f13.1) f13.2; omega) f13)) (cwV 1 X.1.2.2.2.2 gX10_pass_X10_ratio rfl rfl rfl hd_X10_ratio ⟨Nat.le_of_ble_eq_true rfl, Nat.le_of_ble_eq_true rfl⟩) (hT.fk (by decide) q264).1 (hT.fk (by decide) q264).2 rfl (by decide) (by rfl) hl.1 (Nat.le_of_ble_eq_true rfl) dX10_pass_107 ⟨by show ck51 + 0 ≤ 18; omega, by show cn51 + 0 ≤ 585; omega⟩ rfl (fun H locs hG hS => ?_)
            refine lv_aload_n X.1.1 X.1.2.1 dX10_pass_110 rfl (lv_at hl 2 rfl) ?_
            refine y_geti X hG 14 20 264 20 (inC := iX10) rfl (hT.fk (by decide) q264).1 (hT.fk (by decide) q264).2 ⟨by decide, by decide, by decide, rfl, rfl⟩ w9 dX10_pass_111 ?_
            obtain ⟨g55, h⟩ := xgd_of h
            obtain ⟨j56, ej56, h⟩ := xlet_of h
            have Jj56 : ∀ (t : gP) (hT : ag 39 293 354 t0 t) (s57 : Int) (u58 : uS), j56 s57 u58 = some (r, u') → xG p l e rX10_pass s m args below meth c t Q 4 (ck51 + 0) (cn51 + 0) 122 u58 [(0, .ref (t.2.2.1 264)), (1, .int (iI x1_5))] [.int (iI s57), .ref (t.2.2.1 n11)] := by
                intro t hT s57 u58 h H locs ls hG hS hl
                replace X := X0.ag hT (by decide)
                replace h := (congrFun (congrFun ej56 s57) u58).symm.trans h
                obtain ⟨g59, h⟩ := xgd_of h
                refine yN_putz X hG hS 16 4 n11 4 _ tyX12 tyX12_ok nmX12 (inC := iX12) rfl (hT.fk (by have h9 := sT_16 _ (al_lt f13.1) f13.2; omega) f13).1 (hT.fk (by have h9 := sT_16 _ (al_lt f13.1) f13.2; omega) f13).2 ⟨by decide, by decide, by decide, rfl, rfl⟩ rfl (by decide +kernel) g59 (x_m 41 rfl) dX10_pass_122 (fun H locs hG hS => ?_)
                obtain ⟨u60, eu60, h⟩ := xlet_of h
                replace hG : G t u60 H := by rw [eu60]; exact hG
                refine lv_goto (tgt := 231) X.1.1 X.1.2.1 dX10_pass_125 (by decide) ?_
                refine lv_iinc (v := (iI (x1_5 + 1))) (lv' := [(1, .int (iI (x1_5 + 1))), (0, .ref (t.2.2.1 264))]) X.1.1 X.1.2.1 dX10_pass_231 hl (k := 1) rfl (iI_add _ _) (by decide) rfl (fun ls hl => ?_)
                refine lv_goto (tgt := 51) X.1.1 X.1.2.1 dX10_pass_234 (by decide) ?_
                refine W.widen (k := ck51 + 2) (n := cn51 + 65) (by omega) (by omega) ?_
                exact igo4 _ _ _ h (ck51 + 2) (cn51 + 65) t hT (by omega) rfl _ _ _ hG hS (lv_sub hl [0, 1] rfl)
            refine x_icmp_lt (tgt := 121) X g55.1 g55.2 dX10_pass_114 (by decide) (fun c61 => ?_) (fun c61 => ?_)
            · replace h := xif_t h c61
              refine x_iconst X dX10_pass_121 ?_
              exact Jj56 t hT _ _ h _ _ _ hG hS (lv_sub hl [2, 1] rfl)
            · replace h := xif_f h c61
              refine x_iconst X dX10_pass_117 ?_
              refine lv_goto (tgt := 122) X.1.1 X.1.2.1 dX10_pass_118 (by decide) ?_
              exact Jj56 t hT _ _ h _ _ _ hG hS (lv_sub hl [2, 1] rfl)
      exact Lgo4 9 _ _ _ h 0 0 t hT ⟨by omega, by omega⟩ rfl _ _ _ hG hS (lv_sub hl [0, 1] rfl)
  have Lgo62 : ∀ (nf : Nat) (x1_63 : Int) (u64 : uS) q, xl2 (s_X10_pass_12 j2) nf x1_63 u64 = some q → ∀ (ck12 cn12 : Nat) (t : gP) (hT : ag 39 293 354 t0 t), (ck12 + nf * 0 ≤ 0 ∧ cn12 + nf * 0 ≤ 0) → q = (r, u') → xG p l e rX10_pass s m args below meth c t Q 4 ck12 cn12 12 u64 [(1, .int (iI x1_63)), (0, .ref (t.2.2.1 264))] [] := by
    refine xl2_N (F := s_X10_pass_12 j2) (fun nf x1_63 u64 q => ∀ (ck12 cn12 : Nat) (t : gP) (hT : ag 39 293 354 t0 t), (ck12 + nf * 0 ≤ 0 ∧ cn12 + nf * 0 ≤ 0) → q = (r, u') → xG p l e rX10_pass s m args below meth c t Q 4 ck12 cn12 12 u64 [(1, .int (iI x1_63)), (0, .ref (t.2.2.1 264))] []) ?_
    intro nf go62 igo62 x1_63 u64 q h ck12 cn12 t hT hck12 hq H locs ls hG hS hl
    subst hq
    replace X := X0.ag hT (by decide)
    unfold s_X10_pass_12 at h
    refine lv_iload_n X.1.1 X.1.2.1 dX10_pass_12 rfl (lv_at hl 0 rfl) ?_
    refine lv_aload_n X.1.1 X.1.2.1 dX10_pass_13 rfl (lv_at hl 1 rfl) ?_
    refine y_geti X hG 14 6 264 6 (inC := iX10) rfl (hT.fk (by decide) q264).1 (hT.fk (by decide) q264).2 ⟨by decide, by decide, by decide, rfl, rfl⟩ w2 dX10_pass_14 ?_
    obtain ⟨g65, h⟩ := xgd_of h
    refine x_icmp_ge (tgt := 49) X g65.1 g65.2 dX10_pass_17 (by decide) (fun c66 => ?_) (fun c66 => ?_)
    · replace h := xif_t h c66
      refine W.widen (k := 0) (n := 0) (by omega) (by omega) ?_
      exact Jj2 t hT _ h _ _ _ hG hS (lv_sub hl [1] rfl)
    · replace h := xif_f h c66
      refine lv_aload_n X.1.1 X.1.2.1 dX10_pass_20 rfl (lv_at hl 1 rfl) ?_
      refine y_getr X hG 14 0 264 1 (inC := iX10) rfl (hT.fk (by decide) q264).1 (hT.fk (by decide) q264).2 ⟨by decide, by decide, by decide, rfl, by decide, by decide⟩ w3 dX10_pass_21 ?_
      refine lv_iload_n X.1.1 X.1.2.1 dX10_pass_24 rfl (lv_at hl 0 rfl) ?_
      obtain ⟨g67, h⟩ := xgd_of h
      obtain ⟨g68, h⟩ := xgd_of h
      have f70 := y_qP hG (fy_14_0 hG (hT.fk (by decide) q264)).1 (fy_14_0 hG (hT.fk (by decide) q264)).2.1 (fy_14_0 hG (hT.fk (by decide) q264)).2.2 g67 g68
      obtain ⟨n69, en69, h⟩ := xlet_of h
      refine y_aaldq X hG (fy_14_0 hG (hT.fk (by decide) q264)).1 (fy_14_0 hG (hT.fk (by decide) q264)).2.1 (Or.inl rfl) (fy_14_0 hG (hT.fk (by decide) q264)).2.2 g67 (by decide) g68 dX10_pass_25 ?_
      rw [← en69]
      rw [← en69] at f70
      have f71 := hT.bk (by have h9 := sT_16 _ (al_lt f70.1) f70.2; omega) f70
      refine yN_getr X hG 16 6 n69 1 (inC := iX12) rfl (hT.fk (by have h9 := sT_16 _ (al_lt f71.1) f71.2; omega) f71).1 (hT.fk (by have h9 := sT_16 _ (al_lt f71.1) f71.2; omega) f71).2 ⟨by decide, by decide, by decide, rfl, by decide, by decide⟩ (x_m 36 rfl) dX10_pass_26 ?_
      refine lv_aload_n X.1.1 X.1.2.1 dX10_pass_29 rfl (lv_at hl 1 rfl) ?_
      refine y_geti X hG 14 9 264 9 (inC := iX10) rfl (hT.fk (by decide) q264).1 (hT.fk (by decide) q264).2 ⟨by decide, by decide, by decide, rfl, rfl⟩ w1 dX10_pass_30 ?_
      refine lv_aload_n X.1.1 X.1.2.1 dX10_pass_33 rfl (lv_at hl 1 rfl) ?_
      refine y_getr X hG 14 0 264 1 (inC := iX10) rfl (hT.fk (by decide) q264).1 (hT.fk (by decide) q264).2 ⟨by decide, by decide, by decide, rfl, by decide, by decide⟩ w3 dX10_pass_34 ?_
      refine lv_iload_n X.1.1 X.1.2.1 dX10_pass_37 rfl (lv_at hl 0 rfl) ?_
      obtain ⟨g72, h⟩ := xgd_of h
      obtain ⟨g73, h⟩ := xgd_of h
      have f75 := y_qP hG (fy_14_0 hG (hT.fk (by decide) q264)).1 (fy_14_0 hG (hT.fk (by decide) q264)).2.1 (fy_14_0 hG (hT.fk (by decide) q264)).2.2 g72 g73
      obtain ⟨n74, en74, h⟩ := xlet_of h
      refine y_aaldq X hG (fy_14_0 hG (hT.fk (by decide) q264)).1 (fy_14_0 hG (hT.fk (by decide) q264)).2.1 (Or.inl rfl) (fy_14_0 hG (hT.fk (by decide) q264)).2.2 g72 (by decide) g73 dX10_pass_38 ?_
      rw [← en74]
      rw [← en74] at f75
      have f76 := hT.bk (by have h9 := sT_16 _ (al_lt f75.1) f75.2; omega) f75
      refine yN_geti X hG 16 2 n74 2 (inC := iX12) rfl (hT.fk (by have h9 := sT_16 _ (al_lt f76.1) f76.2; omega) f76).1 (hT.fk (by have h9 := sT_16 _ (al_lt f76.1) f76.2; omega) f76).2 ⟨by decide, by decide, by decide, rfl, rfl⟩ (x_m 40 rfl) dX10_pass_39 ?_
      obtain ⟨g77, h⟩ := xgd_of h
      refine y_iast X hG hS (fy_16_6 hG (hT.fk (by have h9 := sT_16 _ (al_lt f71.1) f71.2; omega) f71)).1 (fy_16_6 hG (hT.fk (by have h9 := sT_16 _ (al_lt f71.1) f71.2; omega) f71)).2.1 (n := 400) (fy_16_6 hG (hT.fk (by have h9 := sT_16 _ (al_lt f71.1) f71.2; omega) f71)).2.2 g77 (by decide) dX10_pass_42 (fun H locs hG hS => ?_)
      obtain ⟨u78, eu78, h⟩ := xlet_of h
      replace hG : G t u78 H := by rw [eu78]; exact hG
      refine lv_iinc (v := (iI (x1_63 + 1))) (lv' := [(1, .int (iI (x1_63 + 1))), (0, .ref (t.2.2.1 264))]) X.1.1 X.1.2.1 dX10_pass_43 hl (k := 0) rfl (iI_add _ _) (by decide) rfl (fun ls hl => ?_)
      refine lv_goto (tgt := 12) X.1.1 X.1.2.1 dX10_pass_46 (by decide) ?_
      exact igo62 _ _ _ h (ck12 + 0) (cn12 + 0) t hT (by omega) rfl _ _ _ hG hS (lv_sub hl [0, 1] rfl)
  exact Lgo62 20000 _ _ _ h 0 0 t hT ⟨by omega, by omega⟩ rfl _ _ _ hG hS (lv_sub hl [0, 1] rfl)
theorem hd_X10_pass : yX10_pass.cls = RX10 ∧ yX10_pass.cls ≠ "java/lang/invoke/MethodHandle" ∧ yX10_pass.cls ≠ "java/lang/invoke/VarHandle" ∧ (parseMethodDescriptor yX10_pass.desc).map (fun d => d.parameters.length) = some 0 := by decide +kernel
abbrev rX10_mute : Room := { frames := 1, cells := 1, slots := 20, locals := 23 }
set_option maxRecDepth 100000 in
set_option maxHeartbeats 8000000 in
theorem c_X10_mute (l : Launch) (t0 : gP) (x1 : Int) (u : uS) (r : Int) (u' : uS) (h : f_X10_mute x1 u = some (r, u')) (aq264 : al t0 264) : xMia 39 292 293 l yX10_mute wsX10_mute rX10_mute t0 [.ref (t0.2.2.1 264), .int (iI x1)] u r u' 1 20 := by
  refine x_ofWia (cc := cX10_mute) (maxL := 5) (ret := .int) (own := RX10) (by decide) rfl rfl (Nat.le_of_ble_eq_true rfl) ?_
  intro p e s m args below meth c Q X0 hret H locs ls hG hS hl
  replace hl : lv_has ls 5 [(0, .ref (t0.2.2.1 264)), (1, .int (iI x1))] := hl
  have w1 : Cond.fieldLink RX10 9 "TriggerNetworkLaw$Net" "places" "[LTriggerNetworkLaw$Place;" ∈ wsX10_mute := x_w 1 rfl
  have iX10 : ∀ w ∈ wsX100, w ∈ wsX10_mute := by decide +kernel
  have iX12 : ∀ w ∈ wsX120, w ∈ wsX10_mute := by decide +kernel
  have w2 : Cond.arrayClass .boolean ∈ wsX10_mute := x_w 2 rfl
  have w5 : Cond.fieldLink RX10 130 "TriggerNetworkLaw$Net" "events" "I" ∈ wsX10_mute := x_w 5 rfl
  have w6 : Cond.fieldLink RX10 140 "TriggerNetworkLaw$Net" "votes" "I" ∈ wsX10_mute := x_w 6 rfl
  have w3 : Cond.fieldLink RX10 122 "TriggerNetworkLaw$Net" "made" "I" ∈ wsX10_mute := x_w 3 rfl
  have w4 : Cond.fieldLink RX10 17 "TriggerNetworkLaw$Net" "picks" "[LTriggerNetworkLaw$Pick;" ∈ wsX10_mute := x_w 4 rfl
  have iX11 : ∀ w ∈ wsX110, w ∈ wsX10_mute := by decide +kernel
  have q264 : al t0 264 ∧ sT 264 = 14 := ⟨aq264, by decide +kernel⟩
  obtain ⟨t, ht, hT⟩ : ∃ t, t0 = t ∧ ag 39 292 293 t0 t := ⟨t0, rfl, ag.rf⟩
  have X := X0.ag hT (by decide)
  rw [ht] at hG hS hl
  clear ht
  unfold f_X10_mute at h
  refine lv_aload_n X.1.1 X.1.2.1 dX10_mute_0 rfl (lv_at hl 0 rfl) ?_
  refine y_getr X hG 14 0 264 1 (inC := iX10) rfl (hT.fk (by decide) q264).1 (hT.fk (by decide) q264).2 ⟨by decide, by decide, by decide, rfl, by decide, by decide⟩ w1 dX10_mute_1 ?_
  refine lv_iload_n X.1.1 X.1.2.1 dX10_mute_4 rfl (lv_at hl 1 rfl) ?_
  obtain ⟨g1, h⟩ := xgd_of h
  obtain ⟨g2, h⟩ := xgd_of h
  have f4 := y_qP hG (fy_14_0 hG (hT.fk (by decide) q264)).1 (fy_14_0 hG (hT.fk (by decide) q264)).2.1 (fy_14_0 hG (hT.fk (by decide) q264)).2.2 g1 g2
  obtain ⟨n3, en3, h⟩ := xlet_of h
  refine y_aaldq X hG (fy_14_0 hG (hT.fk (by decide) q264)).1 (fy_14_0 hG (hT.fk (by decide) q264)).2.1 (Or.inl rfl) (fy_14_0 hG (hT.fk (by decide) q264)).2.2 g1 (by decide) g2 dX10_mute_5 ?_
  rw [← en3]
  rw [← en3] at f4
  have f5 := hT.bk (by have h9 := sT_16 _ (al_lt f4.1) f4.2; omega) f4
  refine x_iconst X dX10_mute_6 ?_
  refine yN_putz X hG hS 16 5 n3 5 _ tyX12 tyX12_ok nmX12 (inC := iX12) rfl (hT.fk (by have h9 := sT_16 _ (al_lt f5.1) f5.2; omega) f5).1 (hT.fk (by have h9 := sT_16 _ (al_lt f5.1) f5.2; omega) f5).2 ⟨by decide, by decide, by decide, rfl, rfl⟩ rfl (by decide +kernel) (by decide) (x_m 44 rfl) dX10_mute_7 (fun H locs hG hS => ?_)
  obtain ⟨u6, eu6, h⟩ := xlet_of h
  replace hG : G t u6 H := by rw [eu6]; exact hG
  refine lv_aload_n X.1.1 X.1.2.1 dX10_mute_10 rfl (lv_at hl 0 rfl) ?_
  refine y_getr X hG 14 0 264 1 (inC := iX10) rfl (hT.fk (by decide) q264).1 (hT.fk (by decide) q264).2 ⟨by decide, by decide, by decide, rfl, by decide, by decide⟩ w1 dX10_mute_11 ?_
  refine lv_iload_n X.1.1 X.1.2.1 dX10_mute_14 rfl (lv_at hl 1 rfl) ?_
  obtain ⟨g7, h⟩ := xgd_of h
  obtain ⟨g8, h⟩ := xgd_of h
  have f10 := y_qP hG (fy_14_0 hG (hT.fk (by decide) q264)).1 (fy_14_0 hG (hT.fk (by decide) q264)).2.1 (fy_14_0 hG (hT.fk (by decide) q264)).2.2 g7 g8
  obtain ⟨n9, en9, h⟩ := xlet_of h
  refine y_aaldq X hG (fy_14_0 hG (hT.fk (by decide) q264)).1 (fy_14_0 hG (hT.fk (by decide) q264)).2.1 (Or.inl rfl) (fy_14_0 hG (hT.fk (by decide) q264)).2.2 g7 (by decide) g8 dX10_mute_15 ?_
  rw [← en9]
  rw [← en9] at f10
  have f11 := hT.bk (by have h9 := sT_16 _ (al_lt f10.1) f10.2; omega) f10
  refine x_iconst X dX10_mute_16 ?_
  refine yN_putz X hG hS 16 4 n9 4 _ tyX12 tyX12_ok nmX12 (inC := iX12) rfl (hT.fk (by have h9 := sT_16 _ (al_lt f11.1) f11.2; omega) f11).1 (hT.fk (by have h9 := sT_16 _ (al_lt f11.1) f11.2; omega) f11).2 ⟨by decide, by decide, by decide, rfl, rfl⟩ rfl (by decide +kernel) (by decide) (x_m 41 rfl) dX10_mute_17 (fun H locs hG hS => ?_)
  obtain ⟨u12, eu12, h⟩ := xlet_of h
  replace hG : G t u12 H := by rw [eu12]; exact hG
  refine x_bipush X dX10_mute_20 (by decide) ?_
  obtain ⟨g13, h⟩ := xgd_of h
  refine y_newz X hG hS 292 ⟨by decide, by decide⟩ (by decide +kernel) (by decide +kernel) ⟨rfl, by decide⟩ g13 w2 (by decide) (by decide) dX10_mute_22 (fun t' H locs hag f14 hG hS => ?_)
  obtain ⟨u15, eu15, h⟩ := xlet_of h
  replace hG : G t' u15 H := by rw [eu15]; exact hG
  rw [← hag.at (k := 264) (by decide)] at hl
  replace X := X.ag hag (by decide)
  replace hT : ag 39 292 293 t0 t' := hT.tr hag (by decide)
  clear hag
  obtain ⟨t, rfl⟩ : ∃ z, z = t' := ⟨_, rfl⟩
  have f16 : al t 292 ∧ sT 292 = 101 ∧ sN 292 = 20 := ⟨f14, by decide +kernel, by decide +kernel⟩
  refine lv_astore_n (lv' := [(2, .ref (t.2.2.1 292)), (0, .ref (t.2.2.1 264)), (1, .int (iI x1))]) X.1.1 X.1.2.1 dX10_mute_24 rfl hl (by decide) rfl (fun ls hl => ?_)
  refine x_iconst X dX10_mute_25 ?_
  refine lv_istore_n (lv' := [(3, .int (iI 0)), (2, .ref (t.2.2.1 292)), (0, .ref (t.2.2.1 264)), (1, .int (iI x1))]) X.1.1 X.1.2.1 dX10_mute_26 rfl hl (by decide) rfl (fun ls hl => ?_)
  obtain ⟨j17, ej17, h⟩ := xlet_of h
  have Jj17 : ∀ (t : gP) (hT : ag 39 292 293 t0 t) (f19 : al t 292 ∧ sT 292 = 101 ∧ sN 292 = 20) (u18 : uS), j17 u18 = some (r, u') → xG p l e rX10_mute s m args below meth c t Q 5 1 20 101 u18 [(0, .ref (t.2.2.1 264)), (2, .ref (t.2.2.1 292))] [] := by
      intro t hT f19 u18 h H locs ls hG hS hl
      replace X := X0.ag hT (by decide)
      replace h := (congrFun ej17 u18).symm.trans h
      refine x_iconst X dX10_mute_101 ?_
      refine lv_istore_n (lv' := [(3, .int (iI 0)), (0, .ref (t.2.2.1 264)), (2, .ref (t.2.2.1 292))]) X.1.1 X.1.2.1 dX10_mute_102 rfl hl (by decide) rfl (fun ls hl => ?_)
      refine x_iconst X dX10_mute_103 ?_
      refine lv_istore (lv' := [(4, .int (iI 0)), (3, .int (iI 0)), (0, .ref (t.2.2.1 264)), (2, .ref (t.2.2.1 292))]) X.1.1 X.1.2.1 dX10_mute_104 hl (by decide) rfl (fun ls hl => ?_)
      have Lgo20 : ∀ (nf : Nat) (x3_21 : Int) (x4_22 : Int) (u23 : uS) q, xl3 (s_X10_mute_106) nf x3_21 x4_22 u23 = some q → ∀ (ck106 cn106 : Nat) (t : gP) (hT : ag 39 292 293 t0 t) (f24 : al t 292 ∧ sT 292 = 101 ∧ sN 292 = 20), (ck106 + nf * 0 ≤ 1 ∧ cn106 + nf * 0 ≤ 20) → q = (r, u') → xG p l e rX10_mute s m args below meth c t Q 5 ck106 cn106 106 u23 [(3, .int (iI x3_21)), (4, .int (iI x4_22)), (0, .ref (t.2.2.1 264)), (2, .ref (t.2.2.1 292))] [] := by
        refine xl3_N (F := s_X10_mute_106) (fun nf x3_21 x4_22 u23 q => ∀ (ck106 cn106 : Nat) (t : gP) (hT : ag 39 292 293 t0 t) (f24 : al t 292 ∧ sT 292 = 101 ∧ sN 292 = 20), (ck106 + nf * 0 ≤ 1 ∧ cn106 + nf * 0 ≤ 20) → q = (r, u') → xG p l e rX10_mute s m args below meth c t Q 5 ck106 cn106 106 u23 [(3, .int (iI x3_21)), (4, .int (iI x4_22)), (0, .ref (t.2.2.1 264)), (2, .ref (t.2.2.1 292))] []) ?_
        intro nf go20 igo20 x3_21 x4_22 u23 q h ck106 cn106 t hT f24 hck106 hq H locs ls hG hS hl
        subst hq
        replace X := X0.ag hT (by decide)
        unfold s_X10_mute_106 at h
        refine lv_iload X.1.1 X.1.2.1 dX10_mute_106 (lv_at hl 1 rfl) ?_
        refine lv_aload_n X.1.1 X.1.2.1 dX10_mute_108 rfl (lv_at hl 2 rfl) ?_
        refine y_geti X hG 14 8 264 8 (inC := iX10) rfl (hT.fk (by decide) q264).1 (hT.fk (by decide) q264).2 ⟨by decide, by decide, by decide, rfl, rfl⟩ w5 dX10_mute_109 ?_
        obtain ⟨g25, h⟩ := xgd_of h
        refine x_icmp_ge (tgt := 153) X g25.1 g25.2 dX10_mute_112 (by decide) (fun c26 => ?_) (fun c26 => ?_)
        · replace h := xif_t h c26
          refine lv_iload_n X.1.1 X.1.2.1 dX10_mute_153 rfl (lv_at hl 0 rfl) ?_
          cases h
          exact hret _ _ _ _ _ _ _ hT (by omega) (by omega) dX10_mute_154 rfl hG hS
        · replace h := xif_f h c26
          refine lv_aload_n X.1.1 X.1.2.1 dX10_mute_115 rfl (lv_at hl 3 rfl) ?_
          refine lv_iload X.1.1 X.1.2.1 dX10_mute_116 (lv_at hl 1 rfl) ?_
          obtain ⟨g27, h⟩ := xgd_of h
          refine y_zald X hG f24.1 f24.2.1 (n := 20) f24.2.2 g27 (by decide) dX10_mute_118 ?_
          obtain ⟨g28, h⟩ := xgd_of h
          refine x_if_eq (tgt := 147) X g28 dX10_mute_119 (by decide) (fun c29 => ?_) (fun c29 => ?_)
          · replace h := xif_t h c29
            refine lv_iinc (v := (iI (x4_22 + 1))) (lv' := [(4, .int (iI (x4_22 + 1))), (3, .int (iI x3_21)), (0, .ref (t.2.2.1 264)), (2, .ref (t.2.2.1 292))]) X.1.1 X.1.2.1 dX10_mute_147 hl (k := 1) rfl (iI_add _ _) (by decide) rfl (fun ls hl => ?_)
            refine lv_goto (tgt := 106) X.1.1 X.1.2.1 dX10_mute_150 (by decide) ?_
            exact igo20 _ _ _ _ h (ck106 + 0) (cn106 + 0) t hT f24 (by omega) rfl _ _ _ hG hS (lv_sub hl [1, 0, 2, 3] rfl)
          · replace h := xif_f h c29
            refine lv_aload_n X.1.1 X.1.2.1 dX10_mute_122 rfl (lv_at hl 2 rfl) ?_
            refine lv_iload X.1.1 X.1.2.1 dX10_mute_123 (lv_at hl 1 rfl) ?_
            obtain ⟨v30, u31, hf, h⟩ := xbd_of h
            refine y_callVi0 X hG hS (c_X10_size l t _ _ _ _ hf (hT.fk (by decide) q264).1) (cwV 1 X.1.2.2.2.2 gX10_mute_X10_size rfl rfl rfl hd_X10_size ⟨Nat.le_of_ble_eq_true rfl, Nat.le_of_ble_eq_true rfl⟩) (hT.fk (by decide) q264).1 (hT.fk (by decide) q264).2 rfl (by decide) (by rfl) hl.1 (Nat.le_of_ble_eq_true rfl) dX10_mute_125 ⟨by show ck106 + 0 ≤ 1; omega, by show cn106 + 0 ≤ 20; omega⟩ rfl (fun H locs hG hS => ?_)
            refine lv_aload_n X.1.1 X.1.2.1 dX10_mute_128 rfl (lv_at hl 2 rfl) ?_
            refine y_geti X hG 14 21 264 21 (inC := iX10) rfl (hT.fk (by decide) q264).1 (hT.fk (by decide) q264).2 ⟨by decide, by decide, by decide, rfl, rfl⟩ w6 dX10_mute_129 ?_
            obtain ⟨g32, h⟩ := xgd_of h
            refine x_icmp_lt (tgt := 138) X g32.1 g32.2 dX10_mute_132 (by decide) (fun c33 => ?_) (fun c33 => ?_)
            · replace h := xif_t h c33
              refine lv_aload_n X.1.1 X.1.2.1 dX10_mute_138 rfl (lv_at hl 2 rfl) ?_
              refine lv_iload X.1.1 X.1.2.1 dX10_mute_139 (lv_at hl 1 rfl) ?_
              obtain ⟨v34, u35, hf, h⟩ := xbd_of h
              refine y_callVv0 X hG hS (c_X10_retract l t _ _ _ _ hf (hT.fk (by decide) q264).1) (cwV 1 X.1.2.2.2.2 gX10_mute_X10_retract rfl rfl rfl hd_X10_retract ⟨Nat.le_of_ble_eq_true rfl, Nat.le_of_ble_eq_true rfl⟩) (hT.fk (by decide) q264).1 (hT.fk (by decide) q264).2 rfl (by decide) (by rfl) hl.1 (Nat.le_of_ble_eq_true rfl) dX10_mute_141 ⟨by show ck106 + 0 ≤ 1; omega, by show cn106 + 0 ≤ 20; omega⟩ rfl (fun H locs hG hS => ?_)
              refine lv_iinc (v := (iI (x3_21 + 1))) (lv' := [(3, .int (iI (x3_21 + 1))), (4, .int (iI x4_22)), (0, .ref (t.2.2.1 264)), (2, .ref (t.2.2.1 292))]) X.1.1 X.1.2.1 dX10_mute_144 hl (k := 0) rfl (iI_add _ _) (by decide) rfl (fun ls hl => ?_)
              refine lv_iinc (v := (iI (x4_22 + 1))) (lv' := [(4, .int (iI (x4_22 + 1))), (3, .int (iI (x3_21 + 1))), (0, .ref (t.2.2.1 264)), (2, .ref (t.2.2.1 292))]) X.1.1 X.1.2.1 dX10_mute_147 hl (k := 1) rfl (iI_add _ _) (by decide) rfl (fun ls hl => ?_)
              refine lv_goto (tgt := 106) X.1.1 X.1.2.1 dX10_mute_150 (by decide) ?_
              exact igo20 _ _ _ _ h (ck106 + 0) (cn106 + 0) t hT f24 (by omega) rfl _ _ _ hG hS (lv_sub hl [1, 0, 2, 3] rfl)
            · replace h := xif_f h c33
              refine lv_goto (tgt := 147) X.1.1 X.1.2.1 dX10_mute_135 (by decide) ?_
              refine lv_iinc (v := (iI (x4_22 + 1))) (lv' := [(4, .int (iI (x4_22 + 1))), (3, .int (iI x3_21)), (0, .ref (t.2.2.1 264)), (2, .ref (t.2.2.1 292))]) X.1.1 X.1.2.1 dX10_mute_147 hl (k := 1) rfl (iI_add _ _) (by decide) rfl (fun ls hl => ?_)
              refine lv_goto (tgt := 106) X.1.1 X.1.2.1 dX10_mute_150 (by decide) ?_
              exact igo20 _ _ _ _ h (ck106 + 0) (cn106 + 0) t hT f24 (by omega) rfl _ _ _ hG hS (lv_sub hl [1, 0, 2, 3] rfl)
      exact Lgo20 20000 _ _ _ _ h 1 20 t hT f19 ⟨by omega, by omega⟩ rfl _ _ _ hG hS (lv_sub hl [1, 0, 2, 3] rfl)
  have Lgo36 : ∀ (nf : Nat) (x3_37 : Int) (u38 : uS) q, xl2 (s_X10_mute_27 j17 x1) nf x3_37 u38 = some q → ∀ (ck27 cn27 : Nat) (t : gP) (hT : ag 39 292 293 t0 t) (f39 : al t 292 ∧ sT 292 = 101 ∧ sN 292 = 20), (ck27 + nf * 0 ≤ 1 ∧ cn27 + nf * 0 ≤ 20) → q = (r, u') → xG p l e rX10_mute s m args below meth c t Q 5 ck27 cn27 27 u38 [(3, .int (iI x3_37)), (0, .ref (t.2.2.1 264)), (1, .int (iI x1)), (2, .ref (t.2.2.1 292))] [] := by
    refine xl2_N (F := s_X10_mute_27 j17 x1) (fun nf x3_37 u38 q => ∀ (ck27 cn27 : Nat) (t : gP) (hT : ag 39 292 293 t0 t) (f39 : al t 292 ∧ sT 292 = 101 ∧ sN 292 = 20), (ck27 + nf * 0 ≤ 1 ∧ cn27 + nf * 0 ≤ 20) → q = (r, u') → xG p l e rX10_mute s m args below meth c t Q 5 ck27 cn27 27 u38 [(3, .int (iI x3_37)), (0, .ref (t.2.2.1 264)), (1, .int (iI x1)), (2, .ref (t.2.2.1 292))] []) ?_
    intro nf go36 igo36 x3_37 u38 q h ck27 cn27 t hT f39 hck27 hq H locs ls hG hS hl
    subst hq
    replace X := X0.ag hT (by decide)
    unfold s_X10_mute_27 at h
    refine lv_iload_n X.1.1 X.1.2.1 dX10_mute_27 rfl (lv_at hl 0 rfl) ?_
    refine lv_aload_n X.1.1 X.1.2.1 dX10_mute_28 rfl (lv_at hl 1 rfl) ?_
    refine y_geti X hG 14 7 264 7 (inC := iX10) rfl (hT.fk (by decide) q264).1 (hT.fk (by decide) q264).2 ⟨by decide, by decide, by decide, rfl, rfl⟩ w3 dX10_mute_29 ?_
    obtain ⟨g40, h⟩ := xgd_of h
    refine x_icmp_ge (tgt := 101) X g40.1 g40.2 dX10_mute_32 (by decide) (fun c41 => ?_) (fun c41 => ?_)
    · replace h := xif_t h c41
      refine W.widen (k := 1) (n := 20) (by omega) (by omega) ?_
      exact Jj17 t hT f39 _ h _ _ _ hG hS (lv_sub hl [1, 3] rfl)
    · replace h := xif_f h c41
      refine lv_aload_n X.1.1 X.1.2.1 dX10_mute_35 rfl (lv_at hl 1 rfl) ?_
      refine y_getr X hG 14 1 264 2 (inC := iX10) rfl (hT.fk (by decide) q264).1 (hT.fk (by decide) q264).2 ⟨by decide, by decide, by decide, rfl, by decide, by decide⟩ w4 dX10_mute_36 ?_
      refine lv_iload_n X.1.1 X.1.2.1 dX10_mute_39 rfl (lv_at hl 0 rfl) ?_
      obtain ⟨g42, h⟩ := xgd_of h
      obtain ⟨g43, h⟩ := xgd_of h
      have f45 := y_qK hG (fy_14_1 hG (hT.fk (by decide) q264)).1 (fy_14_1 hG (hT.fk (by decide) q264)).2.1 (fy_14_1 hG (hT.fk (by decide) q264)).2.2 g42 g43
      obtain ⟨n44, en44, h⟩ := xlet_of h
      refine y_aaldq X hG (fy_14_1 hG (hT.fk (by decide) q264)).1 (fy_14_1 hG (hT.fk (by decide) q264)).2.1 (Or.inr rfl) (fy_14_1 hG (hT.fk (by decide) q264)).2.2 g42 (by decide) g43 dX10_mute_40 ?_
      rw [← en44]
      rw [← en44] at f45
      have f46 := hT.bk (by have h9 := sT_15 _ (al_lt f45.1) f45.2; omega) f45
      refine yN_geti X hG 15 0 n44 0 (inC := iX11) rfl (hT.fk (by have h9 := sT_15 _ (al_lt f46.1) f46.2; omega) f46).1 (hT.fk (by have h9 := sT_15 _ (al_lt f46.1) f46.2; omega) f46).2 ⟨by decide, by decide, by decide, rfl, rfl⟩ (x_m 37 rfl) dX10_mute_41 ?_
      refine lv_iload_n X.1.1 X.1.2.1 dX10_mute_44 rfl (lv_at hl 2 rfl) ?_
      obtain ⟨g47, h⟩ := xgd_of h
      refine x_icmp_eq (tgt := 51) X g47.1 g47.2 dX10_mute_45 (by decide) (fun c48 => ?_) (fun c48 => ?_)
      · replace h := xif_t h c48
        refine lv_aload_n X.1.1 X.1.2.1 dX10_mute_51 rfl (lv_at hl 1 rfl) ?_
        refine y_getr X hG 14 1 264 2 (inC := iX10) rfl (hT.fk (by decide) q264).1 (hT.fk (by decide) q264).2 ⟨by decide, by decide, by decide, rfl, by decide, by decide⟩ w4 dX10_mute_52 ?_
        refine lv_iload_n X.1.1 X.1.2.1 dX10_mute_55 rfl (lv_at hl 0 rfl) ?_
        obtain ⟨g49, h⟩ := xgd_of h
        obtain ⟨g50, h⟩ := xgd_of h
        have f52 := y_qK hG (fy_14_1 hG (hT.fk (by decide) q264)).1 (fy_14_1 hG (hT.fk (by decide) q264)).2.1 (fy_14_1 hG (hT.fk (by decide) q264)).2.2 g49 g50
        obtain ⟨n51, en51, h⟩ := xlet_of h
        refine y_aaldq X hG (fy_14_1 hG (hT.fk (by decide) q264)).1 (fy_14_1 hG (hT.fk (by decide) q264)).2.1 (Or.inr rfl) (fy_14_1 hG (hT.fk (by decide) q264)).2.2 g49 (by decide) g50 dX10_mute_56 ?_
        rw [← en51]
        rw [← en51] at f52
        have f53 := hT.bk (by have h9 := sT_15 _ (al_lt f52.1) f52.2; omega) f52
        refine yN_geti X hG 15 3 n51 3 (inC := iX11) rfl (hT.fk (by have h9 := sT_15 _ (al_lt f53.1) f53.2; omega) f53).1 (hT.fk (by have h9 := sT_15 _ (al_lt f53.1) f53.2; omega) f53).2 ⟨by decide, by decide, by decide, rfl, rfl⟩ (x_m 45 rfl) dX10_mute_57 ?_
        obtain ⟨g54, h⟩ := xgd_of h
        obtain ⟨j55, ej55, h⟩ := xlet_of h
        have Jj55 : ∀ (t : gP) (hT : ag 39 292 293 t0 t) (f57 : al t 292 ∧ sT 292 = 101 ∧ sN 292 = 20) (u56 : uS), j55 u56 = some (r, u') → xG p l e rX10_mute s m args below meth c t Q 5 (ck27 + 0) (cn27 + 0) 75 u56 [(0, .ref (t.2.2.1 264)), (1, .int (iI x1)), (2, .ref (t.2.2.1 292)), (3, .int (iI x3_37))] [] := by
            intro t hT f57 u56 h H locs ls hG hS hl
            replace X := X0.ag hT (by decide)
            replace h := (congrFun ej55 u56).symm.trans h
            refine lv_aload_n X.1.1 X.1.2.1 dX10_mute_75 rfl (lv_at hl 0 rfl) ?_
            refine y_getr X hG 14 1 264 2 (inC := iX10) rfl (hT.fk (by decide) q264).1 (hT.fk (by decide) q264).2 ⟨by decide, by decide, by decide, rfl, by decide, by decide⟩ w4 dX10_mute_76 ?_
            refine lv_iload_n X.1.1 X.1.2.1 dX10_mute_79 rfl (lv_at hl 3 rfl) ?_
            obtain ⟨g58, h⟩ := xgd_of h
            obtain ⟨g59, h⟩ := xgd_of h
            have f61 := y_qK hG (fy_14_1 hG (hT.fk (by decide) q264)).1 (fy_14_1 hG (hT.fk (by decide) q264)).2.1 (fy_14_1 hG (hT.fk (by decide) q264)).2.2 g58 g59
            obtain ⟨n60, en60, h⟩ := xlet_of h
            refine y_aaldq X hG (fy_14_1 hG (hT.fk (by decide) q264)).1 (fy_14_1 hG (hT.fk (by decide) q264)).2.1 (Or.inr rfl) (fy_14_1 hG (hT.fk (by decide) q264)).2.2 g58 (by decide) g59 dX10_mute_80 ?_
            rw [← en60]
            rw [← en60] at f61
            have f62 := hT.bk (by have h9 := sT_15 _ (al_lt f61.1) f61.2; omega) f61
            refine x_iconst X dX10_mute_81 ?_
            refine yN_puti X hG hS 15 3 n60 3 _ tyX11 tyX11_ok nmX11 (inC := iX11) rfl (hT.fk (by have h9 := sT_15 _ (al_lt f62.1) f62.2; omega) f62).1 (hT.fk (by have h9 := sT_15 _ (al_lt f62.1) f62.2; omega) f62).2 ⟨by decide, by decide, by decide, rfl, rfl⟩ rfl (by decide +kernel) (x_m 45 rfl) dX10_mute_82 (fun H locs hG hS => ?_)
            obtain ⟨u63, eu63, h⟩ := xlet_of h
            replace hG : G t u63 H := by rw [eu63]; exact hG
            refine lv_aload_n X.1.1 X.1.2.1 dX10_mute_85 rfl (lv_at hl 0 rfl) ?_
            refine y_getr X hG 14 1 264 2 (inC := iX10) rfl (hT.fk (by decide) q264).1 (hT.fk (by decide) q264).2 ⟨by decide, by decide, by decide, rfl, by decide, by decide⟩ w4 dX10_mute_86 ?_
            refine lv_iload_n X.1.1 X.1.2.1 dX10_mute_89 rfl (lv_at hl 3 rfl) ?_
            obtain ⟨g64, h⟩ := xgd_of h
            obtain ⟨g65, h⟩ := xgd_of h
            have f67 := y_qK hG (fy_14_1 hG (hT.fk (by decide) q264)).1 (fy_14_1 hG (hT.fk (by decide) q264)).2.1 (fy_14_1 hG (hT.fk (by decide) q264)).2.2 g64 g65
            obtain ⟨n66, en66, h⟩ := xlet_of h
            refine y_aaldq X hG (fy_14_1 hG (hT.fk (by decide) q264)).1 (fy_14_1 hG (hT.fk (by decide) q264)).2.1 (Or.inr rfl) (fy_14_1 hG (hT.fk (by decide) q264)).2.2 g64 (by decide) g65 dX10_mute_90 ?_
            rw [← en66]
            rw [← en66] at f67
            have f68 := hT.bk (by have h9 := sT_15 _ (al_lt f67.1) f67.2; omega) f67
            refine x_iconst X dX10_mute_91 ?_
            refine yN_putz X hG hS 15 4 n66 4 _ tyX11 tyX11_ok nmX11 (inC := iX11) rfl (hT.fk (by have h9 := sT_15 _ (al_lt f68.1) f68.2; omega) f68).1 (hT.fk (by have h9 := sT_15 _ (al_lt f68.1) f68.2; omega) f68).2 ⟨by decide, by decide, by decide, rfl, rfl⟩ rfl (by decide +kernel) (by decide) (x_m 38 rfl) dX10_mute_92 (fun H locs hG hS => ?_)
            obtain ⟨u69, eu69, h⟩ := xlet_of h
            replace hG : G t u69 H := by rw [eu69]; exact hG
            refine lv_iinc (v := (iI (x3_37 + 1))) (lv' := [(3, .int (iI (x3_37 + 1))), (0, .ref (t.2.2.1 264)), (1, .int (iI x1)), (2, .ref (t.2.2.1 292))]) X.1.1 X.1.2.1 dX10_mute_95 hl (k := 3) rfl (iI_add _ _) (by decide) rfl (fun ls hl => ?_)
            refine lv_goto (tgt := 27) X.1.1 X.1.2.1 dX10_mute_98 (by decide) ?_
            exact igo36 _ _ _ h (ck27 + 0) (cn27 + 0) t hT f57 (by omega) rfl _ _ _ hG hS (lv_sub hl [0, 1, 2, 3] rfl)
        refine x_if_lt (tgt := 75) X g54 dX10_mute_60 (by decide) (fun c70 => ?_) (fun c70 => ?_)
        · replace h := xif_t h c70
          exact Jj55 t hT f39 _ h _ _ _ hG hS (lv_sub hl [1, 2, 3, 0] rfl)
        · replace h := xif_f h c70
          refine lv_aload_n X.1.1 X.1.2.1 dX10_mute_63 rfl (lv_at hl 3 rfl) ?_
          refine lv_aload_n X.1.1 X.1.2.1 dX10_mute_64 rfl (lv_at hl 1 rfl) ?_
          refine y_getr X hG 14 1 264 2 (inC := iX10) rfl (hT.fk (by decide) q264).1 (hT.fk (by decide) q264).2 ⟨by decide, by decide, by decide, rfl, by decide, by decide⟩ w4 dX10_mute_65 ?_
          refine lv_iload_n X.1.1 X.1.2.1 dX10_mute_68 rfl (lv_at hl 0 rfl) ?_
          obtain ⟨g71, h⟩ := xgd_of h
          obtain ⟨g72, h⟩ := xgd_of h
          have f74 := y_qK hG (fy_14_1 hG (hT.fk (by decide) q264)).1 (fy_14_1 hG (hT.fk (by decide) q264)).2.1 (fy_14_1 hG (hT.fk (by decide) q264)).2.2 g71 g72
          obtain ⟨n73, en73, h⟩ := xlet_of h
          refine y_aaldq X hG (fy_14_1 hG (hT.fk (by decide) q264)).1 (fy_14_1 hG (hT.fk (by decide) q264)).2.1 (Or.inr rfl) (fy_14_1 hG (hT.fk (by decide) q264)).2.2 g71 (by decide) g72 dX10_mute_69 ?_
          rw [← en73]
          rw [← en73] at f74
          have f75 := hT.bk (by have h9 := sT_15 _ (al_lt f74.1) f74.2; omega) f74
          refine yN_geti X hG 15 3 n73 3 (inC := iX11) rfl (hT.fk (by have h9 := sT_15 _ (al_lt f75.1) f75.2; omega) f75).1 (hT.fk (by have h9 := sT_15 _ (al_lt f75.1) f75.2; omega) f75).2 ⟨by decide, by decide, by decide, rfl, rfl⟩ (x_m 45 rfl) dX10_mute_70 ?_
          refine x_iconst X dX10_mute_73 ?_
          obtain ⟨g76, h⟩ := xgd_of h
          refine y_zast X hG hS f39.1 f39.2.1 (n := 20) f39.2.2 g76 (by decide) (by decide) dX10_mute_74 (fun H locs hG hS => ?_)
          obtain ⟨u77, eu77, h⟩ := xlet_of h
          replace hG : G t u77 H := by rw [eu77]; exact hG
          exact Jj55 t hT f39 _ h _ _ _ hG hS (lv_sub hl [1, 2, 3, 0] rfl)
      · replace h := xif_f h c48
        refine lv_goto (tgt := 95) X.1.1 X.1.2.1 dX10_mute_48 (by decide) ?_
        refine lv_iinc (v := (iI (x3_37 + 1))) (lv' := [(3, .int (iI (x3_37 + 1))), (0, .ref (t.2.2.1 264)), (1, .int (iI x1)), (2, .ref (t.2.2.1 292))]) X.1.1 X.1.2.1 dX10_mute_95 hl (k := 0) rfl (iI_add _ _) (by decide) rfl (fun ls hl => ?_)
        refine lv_goto (tgt := 27) X.1.1 X.1.2.1 dX10_mute_98 (by decide) ?_
        exact igo36 _ _ _ h (ck27 + 0) (cn27 + 0) t hT f39 (by omega) rfl _ _ _ hG hS (lv_sub hl [0, 1, 2, 3] rfl)
  exact Lgo36 20000 _ _ _ h 1 20 t hT f16 ⟨by omega, by omega⟩ rfl _ _ _ hG hS (lv_sub hl [0, 2, 3, 1] rfl)
theorem hd_X10_mute : yX10_mute.cls = RX10 ∧ yX10_mute.cls ≠ "java/lang/invoke/MethodHandle" ∧ yX10_mute.cls ≠ "java/lang/invoke/VarHandle" ∧ (parseMethodDescriptor yX10_mute.desc).map (fun d => d.parameters.length) = some 1 := by decide +kernel
abbrev rX10_fitAt : Room := { frames := 3, cells := 1, slots := 2, locals := 68 }
set_option maxRecDepth 100000 in
set_option maxHeartbeats 8000000 in
theorem c_X10_fitAt (l : Launch) (t0 : gP) (x1 : Int) (x2 : Int) (u : uS) (r : Int) (u' : uS) (h : f_X10_fitAt x1 x2 u = some (r, u')) (aq264 : al t0 264) : xMra 39 354 355 l yX10_fitAt wsX10_fitAt rX10_fitAt t0 [.ref (t0.2.2.1 264), .int (iI x1), .int (iI x2)] u r u' 1 2 := by
  refine x_ofWra (cc := cX10_fitAt) (maxL := 9) (rt := (.array .int)) (own := RX10) (Or.inr ⟨_, rfl⟩) (by decide) rfl rfl (Nat.le_of_ble_eq_true rfl) ?_
  intro p e s m args below meth c Q X0 hret H locs ls hG hS hl
  replace hl : lv_has ls 9 [(0, .ref (t0.2.2.1 264)), (1, .int (iI x1)), (2, .int (iI x2))] := hl
  have w1 : Cond.fieldLink RX10 150 "TriggerNetworkLaw$Net" "gridX" "I" ∈ wsX10_fitAt := x_w 1 rfl
  have iX10 : ∀ w ∈ wsX100, w ∈ wsX10_fitAt := by decide +kernel
  have w2 : Cond.fieldLink RX10 153 "TriggerNetworkLaw$Net" "columns" "I" ∈ wsX10_fitAt := x_w 2 rfl
  have w3 : Cond.fieldLink RX10 156 "TriggerNetworkLaw$Net" "step" "I" ∈ wsX10_fitAt := x_w 3 rfl
  have w4 : Cond.fieldLink RX10 159 "TriggerNetworkLaw$Net" "gridY" "I" ∈ wsX10_fitAt := x_w 4 rfl
  have w12 : Cond.arrayClass .int ∈ wsX10_fitAt := x_w 12 rfl
  have w5 : Cond.fieldLink RX10 122 "TriggerNetworkLaw$Net" "made" "I" ∈ wsX10_fitAt := x_w 5 rfl
  have w6 : Cond.fieldLink RX10 17 "TriggerNetworkLaw$Net" "picks" "[LTriggerNetworkLaw$Pick;" ∈ wsX10_fitAt := x_w 6 rfl
  have iX11 : ∀ w ∈ wsX110, w ∈ wsX10_fitAt := by decide +kernel
  have w7 : Cond.fieldLink RX10 9 "TriggerNetworkLaw$Net" "places" "[LTriggerNetworkLaw$Place;" ∈ wsX10_fitAt := x_w 7 rfl
  have w8 : Cond.methodLink RX10 87 Lib.Math.abs.name ∈ wsX10_fitAt := x_w 8 rfl
  have w9 : Cond.static Lib.Math.abs.name ∈ wsX10_fitAt := x_w 9 rfl
  have w10 : Cond.initialized "java/lang/Math" ∈ wsX10_fitAt := x_w 10 rfl
  have w11 : Cond.code Lib.Math.abs.name Lib.Math.abs.code 1 (some .int) ∈ wsX10_fitAt := x_w 11 rfl
  have q264 : al t0 264 ∧ sT 264 = 14 := ⟨aq264, by decide +kernel⟩
  obtain ⟨t, ht, hT⟩ : ∃ t, t0 = t ∧ ag 39 354 355 t0 t := ⟨t0, rfl, ag.rf⟩
  have X := X0.ag hT (by decide)
  rw [ht] at hG hS hl
  clear ht
  unfold f_X10_fitAt at h
  refine lv_aload_n X.1.1 X.1.2.1 dX10_fitAt_0 rfl (lv_at hl 0 rfl) ?_
  refine y_geti X hG 14 11 264 11 (inC := iX10) rfl (hT.fk (by decide) q264).1 (hT.fk (by decide) q264).2 ⟨by decide, by decide, by decide, rfl, rfl⟩ w1 dX10_fitAt_1 ?_
  refine lv_iload_n X.1.1 X.1.2.1 dX10_fitAt_4 rfl (lv_at hl 1 rfl) ?_
  refine lv_aload_n X.1.1 X.1.2.1 dX10_fitAt_5 rfl (lv_at hl 0 rfl) ?_
  refine y_geti X hG 14 13 264 13 (inC := iX10) rfl (hT.fk (by decide) q264).1 (hT.fk (by decide) q264).2 ⟨by decide, by decide, by decide, rfl, rfl⟩ w2 dX10_fitAt_6 ?_
  obtain ⟨g1, h⟩ := xgd_of h
  refine x_irem X g1.1 g1.2.1 g1.2.2 dX10_fitAt_9 ?_
  refine lv_aload_n X.1.1 X.1.2.1 dX10_fitAt_10 rfl (lv_at hl 0 rfl) ?_
  refine y_geti X hG 14 15 264 15 (inC := iX10) rfl (hT.fk (by decide) q264).1 (hT.fk (by decide) q264).2 ⟨by decide, by decide, by decide, rfl, rfl⟩ w3 dX10_fitAt_11 ?_
  refine x_imul X dX10_fitAt_14 ?_
  refine x_iadd X dX10_fitAt_15 ?_
  refine x_name (fun x3_2 ex3_2 => ?_)
  replace h := xlet_at ex3_2 h
  refine lv_istore_n (lv' := [(3, .int (iI x3_2)), (0, .ref (t.2.2.1 264)), (1, .int (iI x1)), (2, .int (iI x2))]) X.1.1 X.1.2.1 dX10_fitAt_16 rfl hl (by decide) rfl (fun ls hl => ?_)
  refine lv_aload_n X.1.1 X.1.2.1 dX10_fitAt_17 rfl (lv_at hl 1 rfl) ?_
  refine y_geti X hG 14 12 264 12 (inC := iX10) rfl (hT.fk (by decide) q264).1 (hT.fk (by decide) q264).2 ⟨by decide, by decide, by decide, rfl, rfl⟩ w4 dX10_fitAt_18 ?_
  refine lv_iload_n X.1.1 X.1.2.1 dX10_fitAt_21 rfl (lv_at hl 2 rfl) ?_
  refine lv_aload_n X.1.1 X.1.2.1 dX10_fitAt_22 rfl (lv_at hl 1 rfl) ?_
  refine y_geti X hG 14 13 264 13 (inC := iX10) rfl (hT.fk (by decide) q264).1 (hT.fk (by decide) q264).2 ⟨by decide, by decide, by decide, rfl, rfl⟩ w2 dX10_fitAt_23 ?_
  obtain ⟨g3, h⟩ := xgd_of h
  refine x_idiv X g3.1 g3.2.1 g3.2.2 dX10_fitAt_26 ?_
  refine lv_aload_n X.1.1 X.1.2.1 dX10_fitAt_27 rfl (lv_at hl 1 rfl) ?_
  refine y_geti X hG 14 15 264 15 (inC := iX10) rfl (hT.fk (by decide) q264).1 (hT.fk (by decide) q264).2 ⟨by decide, by decide, by decide, rfl, rfl⟩ w3 dX10_fitAt_28 ?_
  refine x_imul X dX10_fitAt_31 ?_
  refine x_iadd X dX10_fitAt_32 ?_
  refine x_name (fun x4_4 ex4_4 => ?_)
  replace h := xlet_at ex4_4 h
  refine lv_istore (lv' := [(4, .int (iI x4_4)), (3, .int (iI x3_2)), (0, .ref (t.2.2.1 264)), (1, .int (iI x1)), (2, .int (iI x2))]) X.1.1 X.1.2.1 dX10_fitAt_33 hl (by decide) rfl (fun ls hl => ?_)
  refine x_iconst X dX10_fitAt_35 ?_
  refine lv_istore (lv' := [(5, .int (iI 0)), (4, .int (iI x4_4)), (3, .int (iI x3_2)), (0, .ref (t.2.2.1 264)), (1, .int (iI x1)), (2, .int (iI x2))]) X.1.1 X.1.2.1 dX10_fitAt_36 hl (by decide) rfl (fun ls hl => ?_)
  refine x_iconst X dX10_fitAt_38 ?_
  refine lv_istore (lv' := [(6, .int (iI 0)), (5, .int (iI 0)), (4, .int (iI x4_4)), (3, .int (iI x3_2)), (0, .ref (t.2.2.1 264)), (1, .int (iI x1)), (2, .int (iI x2))]) X.1.1 X.1.2.1 dX10_fitAt_39 hl (by decide) rfl (fun ls hl => ?_)
  obtain ⟨j5, ej5, h⟩ := xlet_of h
  have Jj5 : ∀ (t : gP) (hT : ag 39 354 355 t0 t) (x5_6 : Int) (u7 : uS), j5 x5_6 u7 = some (r, u') → xG p l e rX10_fitAt s m args below meth c t Q 9 0 0 108 u7 [(0, .ref (t.2.2.1 264)), (2, .int (iI x2)), (3, .int (iI x3_2)), (4, .int (iI x4_4)), (5, .int (iI x5_6))] [] := by
      intro t hT x5_6 u7 h H locs ls hG hS hl
      replace X := X0.ag hT (by decide)
      replace h := (congrFun (congrFun ej5 x5_6) u7).symm.trans h
      refine lv_iload X.1.1 X.1.2.1 dX10_fitAt_108 (lv_at hl 4 rfl) ?_
      refine lv_aload_n X.1.1 X.1.2.1 dX10_fitAt_110 rfl (lv_at hl 0 rfl) ?_
      refine lv_iload_n X.1.1 X.1.2.1 dX10_fitAt_111 rfl (lv_at hl 1 rfl) ?_
      obtain ⟨v8, u9, hf, h⟩ := xbd_of h
      refine y_callVi0 X hG hS (c_X10_size l t _ _ _ _ hf (hT.fk (by decide) q264).1) (cwV 1 X.1.2.2.2.2 gX10_fitAt_X10_size rfl rfl rfl hd_X10_size ⟨Nat.le_of_ble_eq_true rfl, Nat.le_of_ble_eq_true rfl⟩) (hT.fk (by decide) q264).1 (hT.fk (by decide) q264).2 rfl (by decide) (by rfl) hl.1 (Nat.le_of_ble_eq_true rfl) dX10_fitAt_112 ⟨by decide, by decide⟩ rfl (fun H locs hG hS => ?_)
      obtain ⟨g10, h⟩ := xgd_of h
      refine x_idiv X g10.1 g10.2.1 g10.2.2 dX10_fitAt_115 ?_
      refine x_name (fun x6_11 ex6_11 => ?_)
      replace h := xlet_at ex6_11 h
      refine lv_istore (lv' := [(6, .int (iI x6_11)), (0, .ref (t.2.2.1 264)), (2, .int (iI x2)), (3, .int (iI x3_2)), (4, .int (iI x4_4)), (5, .int (iI x5_6))]) X.1.1 X.1.2.1 dX10_fitAt_116 hl (by decide) rfl (fun ls hl => ?_)
      refine x_iconst X dX10_fitAt_118 ?_
      refine lv_istore (lv' := [(7, .int (iI 0)), (6, .int (iI x6_11)), (0, .ref (t.2.2.1 264)), (2, .int (iI x2)), (3, .int (iI x3_2)), (4, .int (iI x4_4)), (5, .int (iI x5_6))]) X.1.1 X.1.2.1 dX10_fitAt_119 hl (by decide) rfl (fun ls hl => ?_)
      refine x_iconst X dX10_fitAt_121 ?_
      refine lv_istore (lv' := [(8, .int (iI 0)), (7, .int (iI 0)), (6, .int (iI x6_11)), (0, .ref (t.2.2.1 264)), (2, .int (iI x2)), (3, .int (iI x3_2)), (4, .int (iI x4_4)), (5, .int (iI x5_6))]) X.1.1 X.1.2.1 dX10_fitAt_122 hl (by decide) rfl (fun ls hl => ?_)
      obtain ⟨j12, ej12, h⟩ := xlet_of h
      have Jj12 : ∀ (t : gP) (hT : ag 39 354 355 t0 t) (x7_13 : Int) (u14 : uS), j12 x7_13 u14 = some (r, u') → xG p l e rX10_fitAt s m args below meth c t Q 9 0 0 197 u14 [(6, .int (iI x6_11)), (7, .int (iI x7_13))] [] := by
          intro t hT x7_13 u14 h H locs ls hG hS hl
          replace X := X0.ag hT (by decide)
          replace h := (congrFun (congrFun ej12 x7_13) u14).symm.trans h
          refine x_iconst X dX10_fitAt_197 ?_
          obtain ⟨g15, h⟩ := xgd_of h
          refine y_newi X hG hS 354 ⟨by decide, by decide⟩ (by decide +kernel) (by decide +kernel) ⟨rfl, by decide⟩ g15 w12 (by decide) (by decide) dX10_fitAt_198 (fun t' H locs hag f16 hG hS => ?_)
          obtain ⟨u17, eu17, h⟩ := xlet_of h
          replace hG : G t' u17 H := by rw [eu17]; exact hG
          replace X := X.ag hag (by decide)
          replace hT : ag 39 354 355 t0 t' := hT.tr hag (by decide)
          clear hag
          obtain ⟨t, rfl⟩ : ∃ z, z = t' := ⟨_, rfl⟩
          have f18 : al t 354 ∧ sT 354 = 100 ∧ sN 354 = 2 := ⟨f16, by decide +kernel, by decide +kernel⟩
          refine lv_dup X.1.1 X.1.2.1 dX10_fitAt_200 rfl ?_
          refine x_iconst X dX10_fitAt_201 ?_
          refine lv_iload X.1.1 X.1.2.1 dX10_fitAt_202 (lv_at hl 0 rfl) ?_
          refine y_iast X hG hS f18.1 f18.2.1 (n := 2) f18.2.2 ⟨by decide, by decide⟩ (by decide) dX10_fitAt_204 (fun H locs hG hS => ?_)
          obtain ⟨u19, eu19, h⟩ := xlet_of h
          replace hG : G t u19 H := by rw [eu19]; exact hG
          refine lv_dup X.1.1 X.1.2.1 dX10_fitAt_205 rfl ?_
          refine x_iconst X dX10_fitAt_206 ?_
          refine lv_iload X.1.1 X.1.2.1 dX10_fitAt_207 (lv_at hl 1 rfl) ?_
          refine y_iast X hG hS f18.1 f18.2.1 (n := 2) f18.2.2 ⟨by decide, by decide⟩ (by decide) dX10_fitAt_209 (fun H locs hG hS => ?_)
          obtain ⟨u20, eu20, h⟩ := xlet_of h
          replace hG : G t u20 H := by rw [eu20]; exact hG
          cases h
          exact hret _ _ _ _ _ _ _ hT (by decide) (by decide) dX10_fitAt_210 f18.1 hG hS
      have Lgo21 : ∀ (nf : Nat) (x7_22 : Int) (x8_23 : Int) (u24 : uS) q, xl3 (s_X10_fitAt_124 j12 x2 x3_2 x4_4 x6_11) nf x7_22 x8_23 u24 = some q → ∀ (ck124 cn124 : Nat) (t : gP) (hT : ag 39 354 355 t0 t), (ck124 + nf * 0 ≤ 0 ∧ cn124 + nf * 0 ≤ 0) → q = (r, u') → xG p l e rX10_fitAt s m args below meth c t Q 9 ck124 cn124 124 u24 [(7, .int (iI x7_22)), (8, .int (iI x8_23)), (0, .ref (t.2.2.1 264)), (2, .int (iI x2)), (3, .int (iI x3_2)), (4, .int (iI x4_4)), (6, .int (iI x6_11))] [] := by
        refine xl3_N (F := s_X10_fitAt_124 j12 x2 x3_2 x4_4 x6_11) (fun nf x7_22 x8_23 u24 q => ∀ (ck124 cn124 : Nat) (t : gP) (hT : ag 39 354 355 t0 t), (ck124 + nf * 0 ≤ 0 ∧ cn124 + nf * 0 ≤ 0) → q = (r, u') → xG p l e rX10_fitAt s m args below meth c t Q 9 ck124 cn124 124 u24 [(7, .int (iI x7_22)), (8, .int (iI x8_23)), (0, .ref (t.2.2.1 264)), (2, .int (iI x2)), (3, .int (iI x3_2)), (4, .int (iI x4_4)), (6, .int (iI x6_11))] []) ?_
        intro nf go21 igo21 x7_22 x8_23 u24 q h ck124 cn124 t hT hck124 hq H locs ls hG hS hl
        subst hq
        replace X := X0.ag hT (by decide)
        unfold s_X10_fitAt_124 at h
        refine lv_iload X.1.1 X.1.2.1 dX10_fitAt_124 (lv_at hl 1 rfl) ?_
        refine lv_aload_n X.1.1 X.1.2.1 dX10_fitAt_126 rfl (lv_at hl 2 rfl) ?_
        refine y_geti X hG 14 7 264 7 (inC := iX10) rfl (hT.fk (by decide) q264).1 (hT.fk (by decide) q264).2 ⟨by decide, by decide, by decide, rfl, rfl⟩ w5 dX10_fitAt_127 ?_
        obtain ⟨g25, h⟩ := xgd_of h
        refine x_icmp_ge (tgt := 197) X g25.1 g25.2 dX10_fitAt_130 (by decide) (fun c26 => ?_) (fun c26 => ?_)
        · replace h := xif_t h c26
          refine W.widen (k := 0) (n := 0) (by omega) (by omega) ?_
          exact Jj12 t hT _ _ h _ _ _ hG hS (lv_sub hl [6, 0] rfl)
        · replace h := xif_f h c26
          refine lv_aload_n X.1.1 X.1.2.1 dX10_fitAt_133 rfl (lv_at hl 2 rfl) ?_
          refine y_getr X hG 14 1 264 2 (inC := iX10) rfl (hT.fk (by decide) q264).1 (hT.fk (by decide) q264).2 ⟨by decide, by decide, by decide, rfl, by decide, by decide⟩ w6 dX10_fitAt_134 ?_
          refine lv_iload X.1.1 X.1.2.1 dX10_fitAt_137 (lv_at hl 1 rfl) ?_
          obtain ⟨g27, h⟩ := xgd_of h
          obtain ⟨g28, h⟩ := xgd_of h
          have f30 := y_qK hG (fy_14_1 hG (hT.fk (by decide) q264)).1 (fy_14_1 hG (hT.fk (by decide) q264)).2.1 (fy_14_1 hG (hT.fk (by decide) q264)).2.2 g27 g28
          obtain ⟨n29, en29, h⟩ := xlet_of h
          refine y_aaldq X hG (fy_14_1 hG (hT.fk (by decide) q264)).1 (fy_14_1 hG (hT.fk (by decide) q264)).2.1 (Or.inr rfl) (fy_14_1 hG (hT.fk (by decide) q264)).2.2 g27 (by decide) g28 dX10_fitAt_139 ?_
          rw [← en29]
          rw [← en29] at f30
          have f31 := hT.bk (by have h9 := sT_15 _ (al_lt f30.1) f30.2; omega) f30
          refine yN_geti X hG 15 3 n29 3 (inC := iX11) rfl (hT.fk (by have h9 := sT_15 _ (al_lt f31.1) f31.2; omega) f31).1 (hT.fk (by have h9 := sT_15 _ (al_lt f31.1) f31.2; omega) f31).2 ⟨by decide, by decide, by decide, rfl, rfl⟩ (x_m 45 rfl) dX10_fitAt_140 ?_
          refine lv_iload_n X.1.1 X.1.2.1 dX10_fitAt_143 rfl (lv_at hl 3 rfl) ?_
          obtain ⟨g32, h⟩ := xgd_of h
          refine x_icmp_ne (tgt := 191) X g32.1 g32.2 dX10_fitAt_144 (by decide) (fun c33 => ?_) (fun c33 => ?_)
          · replace h := xif_f h c33
            refine lv_iinc (v := (iI (x8_23 + 1))) (lv' := [(8, .int (iI (x8_23 + 1))), (7, .int (iI x7_22)), (0, .ref (t.2.2.1 264)), (2, .int (iI x2)), (3, .int (iI x3_2)), (4, .int (iI x4_4)), (6, .int (iI x6_11))]) X.1.1 X.1.2.1 dX10_fitAt_191 hl (k := 1) rfl (iI_add _ _) (by decide) rfl (fun ls hl => ?_)
            refine lv_goto (tgt := 124) X.1.1 X.1.2.1 dX10_fitAt_194 (by decide) ?_
            exact igo21 _ _ _ _ h (ck124 + 0) (cn124 + 0) t hT (by omega) rfl _ _ _ hG hS (lv_sub hl [1, 0, 2, 3, 4, 5, 6] rfl)
          · replace h := xif_t h c33
            refine lv_iload X.1.1 X.1.2.1 dX10_fitAt_147 (lv_at hl 0 rfl) ?_
            refine lv_aload_n X.1.1 X.1.2.1 dX10_fitAt_149 rfl (lv_at hl 2 rfl) ?_
            refine y_getr X hG 14 1 264 2 (inC := iX10) rfl (hT.fk (by decide) q264).1 (hT.fk (by decide) q264).2 ⟨by decide, by decide, by decide, rfl, by decide, by decide⟩ w6 dX10_fitAt_150 ?_
            refine lv_iload X.1.1 X.1.2.1 dX10_fitAt_153 (lv_at hl 1 rfl) ?_
            obtain ⟨g34, h⟩ := xgd_of h
            obtain ⟨g35, h⟩ := xgd_of h
            have f37 := y_qK hG (fy_14_1 hG (hT.fk (by decide) q264)).1 (fy_14_1 hG (hT.fk (by decide) q264)).2.1 (fy_14_1 hG (hT.fk (by decide) q264)).2.2 g34 g35
            obtain ⟨n36, en36, h⟩ := xlet_of h
            refine y_aaldq X hG (fy_14_1 hG (hT.fk (by decide) q264)).1 (fy_14_1 hG (hT.fk (by decide) q264)).2.1 (Or.inr rfl) (fy_14_1 hG (hT.fk (by decide) q264)).2.2 g34 (by decide) g35 dX10_fitAt_155 ?_
            rw [← en36]
            rw [← en36] at f37
            have f38 := hT.bk (by have h9 := sT_15 _ (al_lt f37.1) f37.2; omega) f37
            refine yN_geti X hG 15 1 n36 1 (inC := iX11) rfl (hT.fk (by have h9 := sT_15 _ (al_lt f38.1) f38.2; omega) f38).1 (hT.fk (by have h9 := sT_15 _ (al_lt f38.1) f38.2; omega) f38).2 ⟨by decide, by decide, by decide, rfl, rfl⟩ (x_m 39 rfl) dX10_fitAt_156 ?_
            refine lv_aload_n X.1.1 X.1.2.1 dX10_fitAt_159 rfl (lv_at hl 2 rfl) ?_
            refine lv_iload_n X.1.1 X.1.2.1 dX10_fitAt_160 rfl (lv_at hl 4 rfl) ?_
            refine lv_iload X.1.1 X.1.2.1 dX10_fitAt_161 (lv_at hl 5 rfl) ?_
            refine lv_aload_n X.1.1 X.1.2.1 dX10_fitAt_163 rfl (lv_at hl 2 rfl) ?_
            refine y_getr X hG 14 0 264 1 (inC := iX10) rfl (hT.fk (by decide) q264).1 (hT.fk (by decide) q264).2 ⟨by decide, by decide, by decide, rfl, by decide, by decide⟩ w7 dX10_fitAt_164 ?_
            refine lv_aload_n X.1.1 X.1.2.1 dX10_fitAt_167 rfl (lv_at hl 2 rfl) ?_
            refine y_getr X hG 14 1 264 2 (inC := iX10) rfl (hT.fk (by decide) q264).1 (hT.fk (by decide) q264).2 ⟨by decide, by decide, by decide, rfl, by decide, by decide⟩ w6 dX10_fitAt_168 ?_
            refine lv_iload X.1.1 X.1.2.1 dX10_fitAt_171 (lv_at hl 1 rfl) ?_
            obtain ⟨g39, h⟩ := xgd_of h
            obtain ⟨g40, h⟩ := xgd_of h
            have f42 := y_qK hG (fy_14_1 hG (hT.fk (by decide) q264)).1 (fy_14_1 hG (hT.fk (by decide) q264)).2.1 (fy_14_1 hG (hT.fk (by decide) q264)).2.2 g39 g40
            obtain ⟨n41, en41, h⟩ := xlet_of h
            refine y_aaldq X hG (fy_14_1 hG (hT.fk (by decide) q264)).1 (fy_14_1 hG (hT.fk (by decide) q264)).2.1 (Or.inr rfl) (fy_14_1 hG (hT.fk (by decide) q264)).2.2 g39 (by decide) g40 dX10_fitAt_173 ?_
            rw [← en41]
            rw [← en41] at f42
            have f43 := hT.bk (by have h9 := sT_15 _ (al_lt f42.1) f42.2; omega) f42
            refine yN_geti X hG 15 0 n41 0 (inC := iX11) rfl (hT.fk (by have h9 := sT_15 _ (al_lt f43.1) f43.2; omega) f43).1 (hT.fk (by have h9 := sT_15 _ (al_lt f43.1) f43.2; omega) f43).2 ⟨by decide, by decide, by decide, rfl, rfl⟩ (x_m 37 rfl) dX10_fitAt_174 ?_
            obtain ⟨g44, h⟩ := xgd_of h
            obtain ⟨g45, h⟩ := xgd_of h
            have f47 := y_qP hG (fy_14_0 hG (hT.fk (by decide) q264)).1 (fy_14_0 hG (hT.fk (by decide) q264)).2.1 (fy_14_0 hG (hT.fk (by decide) q264)).2.2 g44 g45
            obtain ⟨n46, en46, h⟩ := xlet_of h
            refine y_aaldq X hG (fy_14_0 hG (hT.fk (by decide) q264)).1 (fy_14_0 hG (hT.fk (by decide) q264)).2.1 (Or.inl rfl) (fy_14_0 hG (hT.fk (by decide) q264)).2.2 g44 (by decide) g45 dX10_fitAt_177 ?_
            rw [← en46]
            rw [← en46] at f47
            have f48 := hT.bk (by have h9 := sT_16 _ (al_lt f47.1) f47.2; omega) f47
            obtain ⟨v49, u50, hf, h⟩ := xbd_of h
            refine y_callVi0 X hG hS (c_X10_time l t _ _ _ _ _ _ hf (hT.fk (by decide) q264).1 (hT.fk (by have h9 := sT_16 _ (al_lt f48.1) f48.2; omega) f48)) (cwV 3 X.1.2.2.2.2 gX10_fitAt_X10_time rfl rfl rfl hd_X10_time ⟨Nat.le_of_ble_eq_true rfl, Nat.le_of_ble_eq_true rfl⟩) (hT.fk (by decide) q264).1 (hT.fk (by decide) q264).2 rfl (by decide) (by rfl) hl.1 (Nat.le_of_ble_eq_true rfl) dX10_fitAt_178 ⟨by show ck124 + 0 ≤ 1; omega, by show cn124 + 0 ≤ 2; omega⟩ rfl (fun H locs hG hS => ?_)
            refine x_isub X dX10_fitAt_181 ?_
            refine lv_iload X.1.1 X.1.2.1 dX10_fitAt_182 (lv_at hl 6 rfl) ?_
            refine x_isub X dX10_fitAt_184 ?_
            obtain ⟨g51, h⟩ := xgd_of h
            refine x_mabs (R := rX10_fitAt) X g51 hl.1 w8 w9 w10 w11 (by decide) (by decide) dX10_fitAt_185 (Nat.le_of_ble_eq_true rfl) ⟨by show ck124 + 0 ≤ 1; omega, by show cn124 + 0 ≤ 2; omega⟩ ?_
            refine x_iadd X dX10_fitAt_188 ?_
            refine x_name (fun x7_52 ex7_52 => ?_)
            replace h := xlet_at ex7_52 h
            refine lv_istore (lv' := [(7, .int (iI x7_52)), (8, .int (iI x8_23)), (0, .ref (t.2.2.1 264)), (2, .int (iI x2)), (3, .int (iI x3_2)), (4, .int (iI x4_4)), (6, .int (iI x6_11))]) X.1.1 X.1.2.1 dX10_fitAt_189 hl (by decide) rfl (fun ls hl => ?_)
            refine lv_iinc (v := (iI (x8_23 + 1))) (lv' := [(8, .int (iI (x8_23 + 1))), (7, .int (iI x7_52)), (0, .ref (t.2.2.1 264)), (2, .int (iI x2)), (3, .int (iI x3_2)), (4, .int (iI x4_4)), (6, .int (iI x6_11))]) X.1.1 X.1.2.1 dX10_fitAt_191 hl (k := 1) rfl (iI_add _ _) (by decide) rfl (fun ls hl => ?_)
            refine lv_goto (tgt := 124) X.1.1 X.1.2.1 dX10_fitAt_194 (by decide) ?_
            exact igo21 _ _ _ _ h (ck124 + 0) (cn124 + 0) t hT (by omega) rfl _ _ _ hG hS (lv_sub hl [1, 0, 2, 3, 4, 5, 6] rfl)
      exact Lgo21 20000 _ _ _ _ h 0 0 t hT ⟨by omega, by omega⟩ rfl _ _ _ hG hS (lv_sub hl [1, 0, 3, 4, 5, 6, 2] rfl)
  have Lgo53 : ∀ (nf : Nat) (x5_54 : Int) (x6_55 : Int) (u56 : uS) q, xl3 (s_X10_fitAt_41 j5 x2 x3_2 x4_4) nf x5_54 x6_55 u56 = some q → ∀ (ck41 cn41 : Nat) (t : gP) (hT : ag 39 354 355 t0 t), (ck41 + nf * 0 ≤ 0 ∧ cn41 + nf * 0 ≤ 0) → q = (r, u') → xG p l e rX10_fitAt s m args below meth c t Q 9 ck41 cn41 41 u56 [(5, .int (iI x5_54)), (6, .int (iI x6_55)), (0, .ref (t.2.2.1 264)), (2, .int (iI x2)), (3, .int (iI x3_2)), (4, .int (iI x4_4))] [] := by
    refine xl3_N (F := s_X10_fitAt_41 j5 x2 x3_2 x4_4) (fun nf x5_54 x6_55 u56 q => ∀ (ck41 cn41 : Nat) (t : gP) (hT : ag 39 354 355 t0 t), (ck41 + nf * 0 ≤ 0 ∧ cn41 + nf * 0 ≤ 0) → q = (r, u') → xG p l e rX10_fitAt s m args below meth c t Q 9 ck41 cn41 41 u56 [(5, .int (iI x5_54)), (6, .int (iI x6_55)), (0, .ref (t.2.2.1 264)), (2, .int (iI x2)), (3, .int (iI x3_2)), (4, .int (iI x4_4))] []) ?_
    intro nf go53 igo53 x5_54 x6_55 u56 q h ck41 cn41 t hT hck41 hq H locs ls hG hS hl
    subst hq
    replace X := X0.ag hT (by decide)
    unfold s_X10_fitAt_41 at h
    refine lv_iload X.1.1 X.1.2.1 dX10_fitAt_41 (lv_at hl 1 rfl) ?_
    refine lv_aload_n X.1.1 X.1.2.1 dX10_fitAt_43 rfl (lv_at hl 2 rfl) ?_
    refine y_geti X hG 14 7 264 7 (inC := iX10) rfl (hT.fk (by decide) q264).1 (hT.fk (by decide) q264).2 ⟨by decide, by decide, by decide, rfl, rfl⟩ w5 dX10_fitAt_44 ?_
    obtain ⟨g57, h⟩ := xgd_of h
    refine x_icmp_ge (tgt := 108) X g57.1 g57.2 dX10_fitAt_47 (by decide) (fun c58 => ?_) (fun c58 => ?_)
    · replace h := xif_t h c58
      refine W.widen (k := 0) (n := 0) (by omega) (by omega) ?_
      exact Jj5 t hT _ _ h _ _ _ hG hS (lv_sub hl [2, 3, 4, 5, 0] rfl)
    · replace h := xif_f h c58
      refine lv_aload_n X.1.1 X.1.2.1 dX10_fitAt_50 rfl (lv_at hl 2 rfl) ?_
      refine y_getr X hG 14 1 264 2 (inC := iX10) rfl (hT.fk (by decide) q264).1 (hT.fk (by decide) q264).2 ⟨by decide, by decide, by decide, rfl, by decide, by decide⟩ w6 dX10_fitAt_51 ?_
      refine lv_iload X.1.1 X.1.2.1 dX10_fitAt_54 (lv_at hl 1 rfl) ?_
      obtain ⟨g59, h⟩ := xgd_of h
      obtain ⟨g60, h⟩ := xgd_of h
      have f62 := y_qK hG (fy_14_1 hG (hT.fk (by decide) q264)).1 (fy_14_1 hG (hT.fk (by decide) q264)).2.1 (fy_14_1 hG (hT.fk (by decide) q264)).2.2 g59 g60
      obtain ⟨n61, en61, h⟩ := xlet_of h
      refine y_aaldq X hG (fy_14_1 hG (hT.fk (by decide) q264)).1 (fy_14_1 hG (hT.fk (by decide) q264)).2.1 (Or.inr rfl) (fy_14_1 hG (hT.fk (by decide) q264)).2.2 g59 (by decide) g60 dX10_fitAt_56 ?_
      rw [← en61]
      rw [← en61] at f62
      have f63 := hT.bk (by have h9 := sT_15 _ (al_lt f62.1) f62.2; omega) f62
      refine yN_geti X hG 15 3 n61 3 (inC := iX11) rfl (hT.fk (by have h9 := sT_15 _ (al_lt f63.1) f63.2; omega) f63).1 (hT.fk (by have h9 := sT_15 _ (al_lt f63.1) f63.2; omega) f63).2 ⟨by decide, by decide, by decide, rfl, rfl⟩ (x_m 45 rfl) dX10_fitAt_57 ?_
      refine lv_iload_n X.1.1 X.1.2.1 dX10_fitAt_60 rfl (lv_at hl 3 rfl) ?_
      obtain ⟨g64, h⟩ := xgd_of h
      refine x_icmp_ne (tgt := 102) X g64.1 g64.2 dX10_fitAt_61 (by decide) (fun c65 => ?_) (fun c65 => ?_)
      · replace h := xif_f h c65
        refine lv_iinc (v := (iI (x6_55 + 1))) (lv' := [(6, .int (iI (x6_55 + 1))), (5, .int (iI x5_54)), (0, .ref (t.2.2.1 264)), (2, .int (iI x2)), (3, .int (iI x3_2)), (4, .int (iI x4_4))]) X.1.1 X.1.2.1 dX10_fitAt_102 hl (k := 1) rfl (iI_add _ _) (by decide) rfl (fun ls hl => ?_)
        refine lv_goto (tgt := 41) X.1.1 X.1.2.1 dX10_fitAt_105 (by decide) ?_
        exact igo53 _ _ _ _ h (ck41 + 0) (cn41 + 0) t hT (by omega) rfl _ _ _ hG hS (lv_sub hl [1, 0, 2, 3, 4, 5] rfl)
      · replace h := xif_t h c65
        refine lv_iload X.1.1 X.1.2.1 dX10_fitAt_64 (lv_at hl 0 rfl) ?_
        refine lv_aload_n X.1.1 X.1.2.1 dX10_fitAt_66 rfl (lv_at hl 2 rfl) ?_
        refine y_getr X hG 14 1 264 2 (inC := iX10) rfl (hT.fk (by decide) q264).1 (hT.fk (by decide) q264).2 ⟨by decide, by decide, by decide, rfl, by decide, by decide⟩ w6 dX10_fitAt_67 ?_
        refine lv_iload X.1.1 X.1.2.1 dX10_fitAt_70 (lv_at hl 1 rfl) ?_
        obtain ⟨g66, h⟩ := xgd_of h
        obtain ⟨g67, h⟩ := xgd_of h
        have f69 := y_qK hG (fy_14_1 hG (hT.fk (by decide) q264)).1 (fy_14_1 hG (hT.fk (by decide) q264)).2.1 (fy_14_1 hG (hT.fk (by decide) q264)).2.2 g66 g67
        obtain ⟨n68, en68, h⟩ := xlet_of h
        refine y_aaldq X hG (fy_14_1 hG (hT.fk (by decide) q264)).1 (fy_14_1 hG (hT.fk (by decide) q264)).2.1 (Or.inr rfl) (fy_14_1 hG (hT.fk (by decide) q264)).2.2 g66 (by decide) g67 dX10_fitAt_72 ?_
        rw [← en68]
        rw [← en68] at f69
        have f70 := hT.bk (by have h9 := sT_15 _ (al_lt f69.1) f69.2; omega) f69
        refine yN_geti X hG 15 1 n68 1 (inC := iX11) rfl (hT.fk (by have h9 := sT_15 _ (al_lt f70.1) f70.2; omega) f70).1 (hT.fk (by have h9 := sT_15 _ (al_lt f70.1) f70.2; omega) f70).2 ⟨by decide, by decide, by decide, rfl, rfl⟩ (x_m 39 rfl) dX10_fitAt_73 ?_
        refine lv_aload_n X.1.1 X.1.2.1 dX10_fitAt_76 rfl (lv_at hl 2 rfl) ?_
        refine lv_iload_n X.1.1 X.1.2.1 dX10_fitAt_77 rfl (lv_at hl 4 rfl) ?_
        refine lv_iload X.1.1 X.1.2.1 dX10_fitAt_78 (lv_at hl 5 rfl) ?_
        refine lv_aload_n X.1.1 X.1.2.1 dX10_fitAt_80 rfl (lv_at hl 2 rfl) ?_
        refine y_getr X hG 14 0 264 1 (inC := iX10) rfl (hT.fk (by decide) q264).1 (hT.fk (by decide) q264).2 ⟨by decide, by decide, by decide, rfl, by decide, by decide⟩ w7 dX10_fitAt_81 ?_
        refine lv_aload_n X.1.1 X.1.2.1 dX10_fitAt_84 rfl (lv_at hl 2 rfl) ?_
        refine y_getr X hG 14 1 264 2 (inC := iX10) rfl (hT.fk (by decide) q264).1 (hT.fk (by decide) q264).2 ⟨by decide, by decide, by decide, rfl, by decide, by decide⟩ w6 dX10_fitAt_85 ?_
        refine lv_iload X.1.1 X.1.2.1 dX10_fitAt_88 (lv_at hl 1 rfl) ?_
        obtain ⟨g71, h⟩ := xgd_of h
        obtain ⟨g72, h⟩ := xgd_of h
        have f74 := y_qK hG (fy_14_1 hG (hT.fk (by decide) q264)).1 (fy_14_1 hG (hT.fk (by decide) q264)).2.1 (fy_14_1 hG (hT.fk (by decide) q264)).2.2 g71 g72
        obtain ⟨n73, en73, h⟩ := xlet_of h
        refine y_aaldq X hG (fy_14_1 hG (hT.fk (by decide) q264)).1 (fy_14_1 hG (hT.fk (by decide) q264)).2.1 (Or.inr rfl) (fy_14_1 hG (hT.fk (by decide) q264)).2.2 g71 (by decide) g72 dX10_fitAt_90 ?_
        rw [← en73]
        rw [← en73] at f74
        have f75 := hT.bk (by have h9 := sT_15 _ (al_lt f74.1) f74.2; omega) f74
        refine yN_geti X hG 15 0 n73 0 (inC := iX11) rfl (hT.fk (by have h9 := sT_15 _ (al_lt f75.1) f75.2; omega) f75).1 (hT.fk (by have h9 := sT_15 _ (al_lt f75.1) f75.2; omega) f75).2 ⟨by decide, by decide, by decide, rfl, rfl⟩ (x_m 37 rfl) dX10_fitAt_91 ?_
        obtain ⟨g76, h⟩ := xgd_of h
        obtain ⟨g77, h⟩ := xgd_of h
        have f79 := y_qP hG (fy_14_0 hG (hT.fk (by decide) q264)).1 (fy_14_0 hG (hT.fk (by decide) q264)).2.1 (fy_14_0 hG (hT.fk (by decide) q264)).2.2 g76 g77
        obtain ⟨n78, en78, h⟩ := xlet_of h
        refine y_aaldq X hG (fy_14_0 hG (hT.fk (by decide) q264)).1 (fy_14_0 hG (hT.fk (by decide) q264)).2.1 (Or.inl rfl) (fy_14_0 hG (hT.fk (by decide) q264)).2.2 g76 (by decide) g77 dX10_fitAt_94 ?_
        rw [← en78]
        rw [← en78] at f79
        have f80 := hT.bk (by have h9 := sT_16 _ (al_lt f79.1) f79.2; omega) f79
        obtain ⟨v81, u82, hf, h⟩ := xbd_of h
        refine y_callVi0 X hG hS (c_X10_time l t _ _ _ _ _ _ hf (hT.fk (by decide) q264).1 (hT.fk (by have h9 := sT_16 _ (al_lt f80.1) f80.2; omega) f80)) (cwV 3 X.1.2.2.2.2 gX10_fitAt_X10_time rfl rfl rfl hd_X10_time ⟨Nat.le_of_ble_eq_true rfl, Nat.le_of_ble_eq_true rfl⟩) (hT.fk (by decide) q264).1 (hT.fk (by decide) q264).2 rfl (by decide) (by rfl) hl.1 (Nat.le_of_ble_eq_true rfl) dX10_fitAt_95 ⟨by show ck41 + 0 ≤ 1; omega, by show cn41 + 0 ≤ 2; omega⟩ rfl (fun H locs hG hS => ?_)
        refine x_isub X dX10_fitAt_98 ?_
        refine x_iadd X dX10_fitAt_99 ?_
        refine x_name (fun x5_83 ex5_83 => ?_)
        replace h := xlet_at ex5_83 h
        refine lv_istore (lv' := [(5, .int (iI x5_83)), (6, .int (iI x6_55)), (0, .ref (t.2.2.1 264)), (2, .int (iI x2)), (3, .int (iI x3_2)), (4, .int (iI x4_4))]) X.1.1 X.1.2.1 dX10_fitAt_100 hl (by decide) rfl (fun ls hl => ?_)
        refine lv_iinc (v := (iI (x6_55 + 1))) (lv' := [(6, .int (iI (x6_55 + 1))), (5, .int (iI x5_83)), (0, .ref (t.2.2.1 264)), (2, .int (iI x2)), (3, .int (iI x3_2)), (4, .int (iI x4_4))]) X.1.1 X.1.2.1 dX10_fitAt_102 hl (k := 1) rfl (iI_add _ _) (by decide) rfl (fun ls hl => ?_)
        refine lv_goto (tgt := 41) X.1.1 X.1.2.1 dX10_fitAt_105 (by decide) ?_
        exact igo53 _ _ _ _ h (ck41 + 0) (cn41 + 0) t hT (by omega) rfl _ _ _ hG hS (lv_sub hl [1, 0, 2, 3, 4, 5] rfl)
  exact Lgo53 20000 _ _ _ _ h 0 0 t hT ⟨by omega, by omega⟩ rfl _ _ _ hG hS (lv_sub hl [1, 0, 4, 6, 3, 2] rfl)
theorem hd_X10_fitAt : yX10_fitAt.cls = RX10 ∧ yX10_fitAt.cls ≠ "java/lang/invoke/MethodHandle" ∧ yX10_fitAt.cls ≠ "java/lang/invoke/VarHandle" ∧ (parseMethodDescriptor yX10_fitAt.desc).map (fun d => d.parameters.length) = some 2 := by decide +kernel
abbrev rX10_node : Room := { frames := 4, cells := 17, slots := 34, locals := 96 }
set_option maxRecDepth 100000 in
set_option maxHeartbeats 8000000 in
theorem c_X10_node (l : Launch) (t0 : gP) (x1 : Int) (u : uS) (r : Int) (u' : uS) (h : f_X10_node x1 u = some (r, u')) (aq264 : al t0 264) : xMia 39 354 355 l yX10_node wsX10_node rX10_node t0 [.ref (t0.2.2.1 264), .int (iI x1)] u r u' 17 34 := by
  refine x_ofWia (cc := cX10_node) (maxL := 6) (ret := .int) (own := RX10) (by decide) rfl rfl (Nat.le_of_ble_eq_true rfl) ?_
  intro p e s m args below meth c Q X0 hret H locs ls hG hS hl
  replace hl : lv_has ls 6 [(0, .ref (t0.2.2.1 264)), (1, .int (iI x1))] := hl
  have w1 : Cond.fieldLink RX10 153 "TriggerNetworkLaw$Net" "columns" "I" ∈ wsX10_node := x_w 1 rfl
  have iX10 : ∀ w ∈ wsX100, w ∈ wsX10_node := by decide +kernel
  have w2 : Cond.fieldLink RX10 166 "TriggerNetworkLaw$Net" "rows" "I" ∈ wsX10_node := x_w 2 rfl
  have q264 : al t0 264 ∧ sT 264 = 14 := ⟨aq264, by decide +kernel⟩
  obtain ⟨t, ht, hT⟩ : ∃ t, t0 = t ∧ ag 39 354 355 t0 t := ⟨t0, rfl, ag.rf⟩
  have X := X0.ag hT (by decide)
  rw [ht] at hG hS hl
  clear ht
  unfold f_X10_node at h
  refine x_iconst X dX10_node_0 ?_
  refine lv_istore_n (lv' := [(2, .int (iI 0)), (0, .ref (t.2.2.1 264)), (1, .int (iI x1))]) X.1.1 X.1.2.1 dX10_node_1 rfl hl (by decide) rfl (fun ls hl => ?_)
  refine lv_aload_n X.1.1 X.1.2.1 dX10_node_2 rfl (lv_at hl 1 rfl) ?_
  refine x_iconst X dX10_node_3 ?_
  refine lv_iload_n X.1.1 X.1.2.1 dX10_node_4 rfl (lv_at hl 2 rfl) ?_
  obtain ⟨v1, u2, hf, h⟩ := xbd_of h
  obtain ⟨g3, h⟩ := xgd_of h
  rw [g3] at hf
  refine y_callVra X hG hS (c_X10_fitAt l t _ _ _ _ _ hf (hT.fk (by decide) q264).1) (cwV 2 X.1.2.2.2.2 gX10_node_X10_fitAt rfl rfl rfl hd_X10_fitAt ⟨Nat.le_of_ble_eq_true rfl, Nat.le_of_ble_eq_true rfl⟩) (hT.fk (by decide) q264).1 (hT.fk (by decide) q264).2 rfl (by decide) (by rfl) hl.1 (Nat.le_of_ble_eq_true rfl) dX10_node_5 ⟨by decide, by decide⟩ rfl (fun t' H locs hag f4 hG hS => ?_)
  rw [← hag.at (k := 264) (by decide)] at hl
  replace X := X.ag hag (by decide)
  replace hT : ag 39 354 355 t0 t' := hT.tr hag (by decide)
  clear hag
  obtain ⟨t, rfl⟩ : ∃ z, z = t' := ⟨_, rfl⟩
  have f5 : al t 354 ∧ sT 354 = 100 ∧ sN 354 = 2 := ⟨f4, by decide +kernel, by decide +kernel⟩
  refine x_iconst X dX10_node_8 ?_
  refine y_iald X hG f5.1 f5.2.1 (n := 2) f5.2.2 ⟨by decide, by decide⟩ (by decide) dX10_node_9 ?_
  refine x_name (fun x3_6 ex3_6 => ?_)
  replace h := xlet_at ex3_6 h
  refine lv_istore_n (lv' := [(3, .int (iI x3_6)), (2, .int (iI 0)), (0, .ref (t.2.2.1 264)), (1, .int (iI x1))]) X.1.1 X.1.2.1 dX10_node_10 rfl hl (by decide) rfl (fun ls hl => ?_)
  refine x_iconst X dX10_node_11 ?_
  refine lv_istore (lv' := [(4, .int (iI 1)), (3, .int (iI x3_6)), (2, .int (iI 0)), (0, .ref (t.2.2.1 264)), (1, .int (iI x1))]) X.1.1 X.1.2.1 dX10_node_12 hl (by decide) rfl (fun ls hl => ?_)
  have Lgo7 : ∀ (nf : Nat) (x2_8 : Int) (x3_9 : Int) (x4_10 : Int) (u11 : uS) q, xl4 (s_X10_node_14 x1) nf x2_8 x3_9 x4_10 u11 = some q → ∀ (ck14 cn14 : Nat) (t : gP) (hT : ag 39 354 355 t0 t), ((ck14 ≤ 17 ∧ cn14 ≤ 34) ∧ (ck14 : Int) + (16 - x4_10) * 1 ≤ ((17 : Nat) : Int) ∧ (cn14 : Int) + (16 - x4_10) * 2 ≤ ((34 : Nat) : Int)) → q = (r, u') → xG p l e rX10_node s m args below meth c t Q 6 ck14 cn14 14 u11 [(2, .int (iI x2_8)), (3, .int (iI x3_9)), (4, .int (iI x4_10)), (0, .ref (t.2.2.1 264)), (1, .int (iI x1))] [] := by
    refine xl4_N (F := s_X10_node_14 x1) (fun nf x2_8 x3_9 x4_10 u11 q => ∀ (ck14 cn14 : Nat) (t : gP) (hT : ag 39 354 355 t0 t), ((ck14 ≤ 17 ∧ cn14 ≤ 34) ∧ (ck14 : Int) + (16 - x4_10) * 1 ≤ ((17 : Nat) : Int) ∧ (cn14 : Int) + (16 - x4_10) * 2 ≤ ((34 : Nat) : Int)) → q = (r, u') → xG p l e rX10_node s m args below meth c t Q 6 ck14 cn14 14 u11 [(2, .int (iI x2_8)), (3, .int (iI x3_9)), (4, .int (iI x4_10)), (0, .ref (t.2.2.1 264)), (1, .int (iI x1))] []) ?_
    intro nf go7 igo7 x2_8 x3_9 x4_10 u11 q h ck14 cn14 t hT hck14 hq H locs ls hG hS hl
    subst hq
    replace X := X0.ag hT (by decide)
    unfold s_X10_node_14 at h
    refine lv_iload X.1.1 X.1.2.1 dX10_node_14 (lv_at hl 2 rfl) ?_
    refine lv_aload_n X.1.1 X.1.2.1 dX10_node_16 rfl (lv_at hl 3 rfl) ?_
    refine y_geti X hG 14 13 264 13 (inC := iX10) rfl (hT.fk (by decide) q264).1 (hT.fk (by decide) q264).2 ⟨by decide, by decide, by decide, rfl, rfl⟩ w1 dX10_node_17 ?_
    refine lv_aload_n X.1.1 X.1.2.1 dX10_node_20 rfl (lv_at hl 3 rfl) ?_
    refine y_geti X hG 14 14 264 14 (inC := iX10) rfl (hT.fk (by decide) q264).1 (hT.fk (by decide) q264).2 ⟨by decide, by decide, by decide, rfl, rfl⟩ w2 dX10_node_21 ?_
    refine x_imul X dX10_node_24 ?_
    obtain ⟨g12, h⟩ := xgd_of h
    refine x_icmp_ge (tgt := 60) X g12.1 g12.2 dX10_node_25 (by decide) (fun c13 => ?_) (fun c13 => ?_)
    · replace h := xif_t h c13
      refine lv_iload_n X.1.1 X.1.2.1 dX10_node_60 rfl (lv_at hl 0 rfl) ?_
      cases h
      exact hret _ _ _ _ _ _ _ hT (by omega) (by omega) dX10_node_61 rfl hG hS
    · replace h := xif_f h c13
      obtain ⟨g14, h⟩ := xgd_of h
      refine lv_aload_n X.1.1 X.1.2.1 dX10_node_28 rfl (lv_at hl 3 rfl) ?_
      refine lv_iload X.1.1 X.1.2.1 dX10_node_29 (lv_at hl 2 rfl) ?_
      refine lv_iload_n X.1.1 X.1.2.1 dX10_node_31 rfl (lv_at hl 4 rfl) ?_
      obtain ⟨v15, u16, hf, h⟩ := xbd_of h
      obtain ⟨g17, h⟩ := xgd_of h
      rw [g17] at hf
      refine y_callVra X hG hS (c_X10_fitAt l t _ _ _ _ _ hf (hT.fk (by decide) q264).1) (cwV 2 X.1.2.2.2.2 gX10_node_X10_fitAt rfl rfl rfl hd_X10_fitAt ⟨Nat.le_of_ble_eq_true rfl, Nat.le_of_ble_eq_true rfl⟩) (hT.fk (by decide) q264).1 (hT.fk (by decide) q264).2 rfl (by decide) (by rfl) hl.1 (Nat.le_of_ble_eq_true rfl) dX10_node_32 ⟨by show ck14 + 0 + 1 ≤ 17; omega, by show cn14 + 0 + 2 ≤ 34; omega⟩ rfl (fun t' H locs hag f18 hG hS => ?_)
      rw [← hag.at (k := 264) (by decide)] at hl
      replace X := X.ag hag (by decide)
      replace hT : ag 39 354 355 t0 t' := hT.tr hag (by decide)
      clear hag
      obtain ⟨t, rfl⟩ : ∃ z, z = t' := ⟨_, rfl⟩
      have f19 : al t 354 ∧ sT 354 = 100 ∧ sN 354 = 2 := ⟨f18, by decide +kernel, by decide +kernel⟩
      refine x_iconst X dX10_node_35 ?_
      refine y_iald X hG f19.1 f19.2.1 (n := 2) f19.2.2 ⟨by decide, by decide⟩ (by decide) dX10_node_36 ?_
      refine x_name (fun x5_20 ex5_20 => ?_)
      replace h := xlet_at ex5_20 h
      refine lv_istore (lv' := [(5, .int (iI x5_20)), (2, .int (iI x2_8)), (3, .int (iI x3_9)), (4, .int (iI x4_10)), (0, .ref (t.2.2.1 264)), (1, .int (iI x1))]) X.1.1 X.1.2.1 dX10_node_37 hl (by decide) rfl (fun ls hl => ?_)
      refine lv_iload X.1.1 X.1.2.1 dX10_node_39 (lv_at hl 0 rfl) ?_
      refine lv_iload_n X.1.1 X.1.2.1 dX10_node_41 rfl (lv_at hl 2 rfl) ?_
      obtain ⟨g21, h⟩ := xgd_of h
      refine x_icmp_lt (tgt := 48) X g21.1 g21.2 dX10_node_42 (by decide) (fun c22 => ?_) (fun c22 => ?_)
      · replace h := xif_t h c22
        refine lv_iload X.1.1 X.1.2.1 dX10_node_48 (lv_at hl 3 rfl) ?_
        refine lv_istore_n (lv' := [(2, .int (iI x4_10)), (5, .int (iI x5_20)), (3, .int (iI x3_9)), (4, .int (iI x4_10)), (0, .ref (t.2.2.1 264)), (1, .int (iI x1))]) X.1.1 X.1.2.1 dX10_node_50 rfl hl (by decide) rfl (fun ls hl => ?_)
        refine lv_iload X.1.1 X.1.2.1 dX10_node_51 (lv_at hl 1 rfl) ?_
        refine lv_istore_n (lv' := [(3, .int (iI x5_20)), (2, .int (iI x4_10)), (5, .int (iI x5_20)), (4, .int (iI x4_10)), (0, .ref (t.2.2.1 264)), (1, .int (iI x1))]) X.1.1 X.1.2.1 dX10_node_53 rfl hl (by decide) rfl (fun ls hl => ?_)
        refine lv_iinc (v := (iI (x4_10 + 1))) (lv' := [(4, .int (iI (x4_10 + 1))), (3, .int (iI x5_20)), (2, .int (iI x4_10)), (5, .int (iI x5_20)), (0, .ref (t.2.2.1 264)), (1, .int (iI x1))]) X.1.1 X.1.2.1 dX10_node_54 hl (k := 3) rfl (iI_add _ _) (by decide) rfl (fun ls hl => ?_)
        refine lv_goto (tgt := 14) X.1.1 X.1.2.1 dX10_node_57 (by decide) ?_
        exact igo7 _ _ _ _ _ h (ck14 + 1) (cn14 + 2) t hT (by omega) rfl _ _ _ hG hS (lv_sub hl [2, 1, 0, 4, 5] rfl)
      · replace h := xif_f h c22
        refine lv_goto (tgt := 54) X.1.1 X.1.2.1 dX10_node_45 (by decide) ?_
        refine lv_iinc (v := (iI (x4_10 + 1))) (lv' := [(4, .int (iI (x4_10 + 1))), (5, .int (iI x5_20)), (2, .int (iI x2_8)), (3, .int (iI x3_9)), (0, .ref (t.2.2.1 264)), (1, .int (iI x1))]) X.1.1 X.1.2.1 dX10_node_54 hl (k := 3) rfl (iI_add _ _) (by decide) rfl (fun ls hl => ?_)
        refine lv_goto (tgt := 14) X.1.1 X.1.2.1 dX10_node_57 (by decide) ?_
        exact igo7 _ _ _ _ _ h (ck14 + 1) (cn14 + 2) t hT (by omega) rfl _ _ _ hG hS (lv_sub hl [2, 3, 0, 4, 5] rfl)
  exact Lgo7 17 _ _ _ _ _ h 1 2 t hT (by omega) rfl _ _ _ hG hS (lv_sub hl [2, 1, 0, 3, 4] rfl)
theorem hd_X10_node : yX10_node.cls = RX10 ∧ yX10_node.cls ≠ "java/lang/invoke/MethodHandle" ∧ yX10_node.cls ≠ "java/lang/invoke/VarHandle" ∧ (parseMethodDescriptor yX10_node.desc).map (fun d => d.parameters.length) = some 1 := by decide +kernel
abbrev rX10_magnitude : Room := { frames := 2, cells := 1, slots := 60, locals := 45 }
set_option maxRecDepth 100000 in
set_option maxHeartbeats 8000000 in
theorem c_X10_magnitude (l : Launch) (t0 : gP) (x1 : Int) (x2 : Int) (u : uS) (r : Int) (u' : uS) (h : f_X10_magnitude x1 x2 u = some (r, u')) (aq264 : al t0 264) : xMia 39 355 356 l yX10_magnitude wsX10_magnitude rX10_magnitude t0 [.ref (t0.2.2.1 264), .int (iI x1), .int (iI x2)] u r u' 1 60 := by
  refine x_ofWia (cc := cX10_magnitude) (maxL := 10) (ret := .int) (own := RX10) (by decide) rfl rfl (Nat.le_of_ble_eq_true rfl) ?_
  intro p e s m args below meth c Q X0 hret H locs ls hG hS hl
  replace hl : lv_has ls 10 [(0, .ref (t0.2.2.1 264)), (1, .int (iI x1)), (2, .int (iI x2))] := hl
  have w1 : Cond.fieldLink RX10 150 "TriggerNetworkLaw$Net" "gridX" "I" ∈ wsX10_magnitude := x_w 1 rfl
  have iX10 : ∀ w ∈ wsX100, w ∈ wsX10_magnitude := by decide +kernel
  have w2 : Cond.fieldLink RX10 153 "TriggerNetworkLaw$Net" "columns" "I" ∈ wsX10_magnitude := x_w 2 rfl
  have w3 : Cond.fieldLink RX10 156 "TriggerNetworkLaw$Net" "step" "I" ∈ wsX10_magnitude := x_w 3 rfl
  have w4 : Cond.fieldLink RX10 159 "TriggerNetworkLaw$Net" "gridY" "I" ∈ wsX10_magnitude := x_w 4 rfl
  have w5 : Cond.arrayClass .int ∈ wsX10_magnitude := x_w 5 rfl
  have w6 : Cond.fieldLink RX10 122 "TriggerNetworkLaw$Net" "made" "I" ∈ wsX10_magnitude := x_w 6 rfl
  have w7 : Cond.fieldLink RX10 17 "TriggerNetworkLaw$Net" "picks" "[LTriggerNetworkLaw$Pick;" ∈ wsX10_magnitude := x_w 7 rfl
  have iX11 : ∀ w ∈ wsX110, w ∈ wsX10_magnitude := by decide +kernel
  have w8 : Cond.fieldLink RX10 172 "TriggerNetworkLaw$Net" "decay" "I" ∈ wsX10_magnitude := x_w 8 rfl
  have w9 : Cond.fieldLink RX10 9 "TriggerNetworkLaw$Net" "places" "[LTriggerNetworkLaw$Place;" ∈ wsX10_magnitude := x_w 9 rfl
  have q264 : al t0 264 ∧ sT 264 = 14 := ⟨aq264, by decide +kernel⟩
  obtain ⟨t, ht, hT⟩ : ∃ t, t0 = t ∧ ag 39 355 356 t0 t := ⟨t0, rfl, ag.rf⟩
  have X := X0.ag hT (by decide)
  rw [ht] at hG hS hl
  clear ht
  unfold f_X10_magnitude at h
  refine lv_aload_n X.1.1 X.1.2.1 dX10_magnitude_0 rfl (lv_at hl 0 rfl) ?_
  refine y_geti X hG 14 11 264 11 (inC := iX10) rfl (hT.fk (by decide) q264).1 (hT.fk (by decide) q264).2 ⟨by decide, by decide, by decide, rfl, rfl⟩ w1 dX10_magnitude_1 ?_
  refine lv_iload_n X.1.1 X.1.2.1 dX10_magnitude_4 rfl (lv_at hl 2 rfl) ?_
  refine lv_aload_n X.1.1 X.1.2.1 dX10_magnitude_5 rfl (lv_at hl 0 rfl) ?_
  refine y_geti X hG 14 13 264 13 (inC := iX10) rfl (hT.fk (by decide) q264).1 (hT.fk (by decide) q264).2 ⟨by decide, by decide, by decide, rfl, rfl⟩ w2 dX10_magnitude_6 ?_
  obtain ⟨g1, h⟩ := xgd_of h
  refine x_irem X g1.1 g1.2.1 g1.2.2 dX10_magnitude_9 ?_
  refine lv_aload_n X.1.1 X.1.2.1 dX10_magnitude_10 rfl (lv_at hl 0 rfl) ?_
  refine y_geti X hG 14 15 264 15 (inC := iX10) rfl (hT.fk (by decide) q264).1 (hT.fk (by decide) q264).2 ⟨by decide, by decide, by decide, rfl, rfl⟩ w3 dX10_magnitude_11 ?_
  refine x_imul X dX10_magnitude_14 ?_
  refine x_iadd X dX10_magnitude_15 ?_
  refine x_name (fun x3_2 ex3_2 => ?_)
  replace h := xlet_at ex3_2 h
  refine lv_istore_n (lv' := [(3, .int (iI x3_2)), (0, .ref (t.2.2.1 264)), (1, .int (iI x1)), (2, .int (iI x2))]) X.1.1 X.1.2.1 dX10_magnitude_16 rfl hl (by decide) rfl (fun ls hl => ?_)
  refine lv_aload_n X.1.1 X.1.2.1 dX10_magnitude_17 rfl (lv_at hl 1 rfl) ?_
  refine y_geti X hG 14 12 264 12 (inC := iX10) rfl (hT.fk (by decide) q264).1 (hT.fk (by decide) q264).2 ⟨by decide, by decide, by decide, rfl, rfl⟩ w4 dX10_magnitude_18 ?_
  refine lv_iload_n X.1.1 X.1.2.1 dX10_magnitude_21 rfl (lv_at hl 3 rfl) ?_
  refine lv_aload_n X.1.1 X.1.2.1 dX10_magnitude_22 rfl (lv_at hl 1 rfl) ?_
  refine y_geti X hG 14 13 264 13 (inC := iX10) rfl (hT.fk (by decide) q264).1 (hT.fk (by decide) q264).2 ⟨by decide, by decide, by decide, rfl, rfl⟩ w2 dX10_magnitude_23 ?_
  obtain ⟨g3, h⟩ := xgd_of h
  refine x_idiv X g3.1 g3.2.1 g3.2.2 dX10_magnitude_26 ?_
  refine lv_aload_n X.1.1 X.1.2.1 dX10_magnitude_27 rfl (lv_at hl 1 rfl) ?_
  refine y_geti X hG 14 15 264 15 (inC := iX10) rfl (hT.fk (by decide) q264).1 (hT.fk (by decide) q264).2 ⟨by decide, by decide, by decide, rfl, rfl⟩ w3 dX10_magnitude_28 ?_
  refine x_imul X dX10_magnitude_31 ?_
  refine x_iadd X dX10_magnitude_32 ?_
  refine x_name (fun x4_4 ex4_4 => ?_)
  replace h := xlet_at ex4_4 h
  refine lv_istore (lv' := [(4, .int (iI x4_4)), (3, .int (iI x3_2)), (0, .ref (t.2.2.1 264)), (1, .int (iI x1)), (2, .int (iI x2))]) X.1.1 X.1.2.1 dX10_magnitude_33 hl (by decide) rfl (fun ls hl => ?_)
  refine x_bipush X dX10_magnitude_35 (by decide) ?_
  obtain ⟨g5, h⟩ := xgd_of h
  refine y_newi X hG hS 355 ⟨by decide, by decide⟩ (by decide +kernel) (by decide +kernel) ⟨rfl, by decide⟩ g5 w5 (by decide) (by decide) dX10_magnitude_37 (fun t' H locs hag f6 hG hS => ?_)
  obtain ⟨u7, eu7, h⟩ := xlet_of h
  replace hG : G t' u7 H := by rw [eu7]; exact hG
  rw [← hag.at (k := 264) (by decide)] at hl
  replace X := X.ag hag (by decide)
  replace hT : ag 39 355 356 t0 t' := hT.tr hag (by decide)
  clear hag
  obtain ⟨t, rfl⟩ : ∃ z, z = t' := ⟨_, rfl⟩
  have f8 : al t 355 ∧ sT 355 = 100 ∧ sN 355 = 60 := ⟨f6, by decide +kernel, by decide +kernel⟩
  refine lv_astore (lv' := [(5, .ref (t.2.2.1 355)), (4, .int (iI x4_4)), (3, .int (iI x3_2)), (0, .ref (t.2.2.1 264)), (1, .int (iI x1)), (2, .int (iI x2))]) X.1.1 X.1.2.1 dX10_magnitude_39 hl (by decide) rfl (fun ls hl => ?_)
  refine x_iconst X dX10_magnitude_41 ?_
  refine lv_istore (lv' := [(6, .int (iI 0)), (5, .ref (t.2.2.1 355)), (4, .int (iI x4_4)), (3, .int (iI x3_2)), (0, .ref (t.2.2.1 264)), (1, .int (iI x1)), (2, .int (iI x2))]) X.1.1 X.1.2.1 dX10_magnitude_42 hl (by decide) rfl (fun ls hl => ?_)
  refine x_iconst X dX10_magnitude_44 ?_
  refine lv_istore (lv' := [(7, .int (iI 0)), (6, .int (iI 0)), (5, .ref (t.2.2.1 355)), (4, .int (iI x4_4)), (3, .int (iI x3_2)), (0, .ref (t.2.2.1 264)), (1, .int (iI x1)), (2, .int (iI x2))]) X.1.1 X.1.2.1 dX10_magnitude_45 hl (by decide) rfl (fun ls hl => ?_)
  obtain ⟨j9, ej9, h⟩ := xlet_of h
  have Jj9 : ∀ (t : gP) (hT : ag 39 355 356 t0 t) (f12 : al t 355 ∧ sT 355 = 100 ∧ sN 355 = 60) (x6_10 : Int) (u11 : uS), j9 x6_10 u11 = some (r, u') → xG p l e rX10_magnitude s m args below meth c t Q 10 1 60 171 u11 [(5, .ref (t.2.2.1 355)), (6, .int (iI x6_10))] [] := by
      intro t hT f12 x6_10 u11 h H locs ls hG hS hl
      replace X := X0.ag hT (by decide)
      replace h := (congrFun (congrFun ej9 x6_10) u11).symm.trans h
      refine lv_aload X.1.1 X.1.2.1 dX10_magnitude_171 (lv_at hl 0 rfl) ?_
      refine lv_iload X.1.1 X.1.2.1 dX10_magnitude_173 (lv_at hl 1 rfl) ?_
      refine x_iconst X dX10_magnitude_175 ?_
      refine x_isub X dX10_magnitude_176 ?_
      refine x_iconst X dX10_magnitude_177 ?_
      obtain ⟨g13, h⟩ := xgd_of h
      refine x_idiv X g13 ⟨by decide, by decide⟩ (by decide) dX10_magnitude_178 ?_
      obtain ⟨g14, h⟩ := xgd_of h
      refine y_iald X hG f12.1 f12.2.1 (n := 60) f12.2.2 g14 (by decide) dX10_magnitude_179 ?_
      cases h
      exact hret _ _ _ _ _ _ _ hT (by decide) (by decide) dX10_magnitude_180 rfl hG hS
  have Lgo15 : ∀ (nf : Nat) (x6_16 : Int) (x7_17 : Int) (u18 : uS) q, xl3 (s_X10_magnitude_47 j9 x1 x3_2 x4_4) nf x6_16 x7_17 u18 = some q → ∀ (ck47 cn47 : Nat) (t : gP) (hT : ag 39 355 356 t0 t) (f19 : al t 355 ∧ sT 355 = 100 ∧ sN 355 = 60), (ck47 + nf * 0 ≤ 1 ∧ cn47 + nf * 0 ≤ 60) → q = (r, u') → xG p l e rX10_magnitude s m args below meth c t Q 10 ck47 cn47 47 u18 [(6, .int (iI x6_16)), (7, .int (iI x7_17)), (0, .ref (t.2.2.1 264)), (1, .int (iI x1)), (3, .int (iI x3_2)), (4, .int (iI x4_4)), (5, .ref (t.2.2.1 355))] [] := by
    refine xl3_N (F := s_X10_magnitude_47 j9 x1 x3_2 x4_4) (fun nf x6_16 x7_17 u18 q => ∀ (ck47 cn47 : Nat) (t : gP) (hT : ag 39 355 356 t0 t) (f19 : al t 355 ∧ sT 355 = 100 ∧ sN 355 = 60), (ck47 + nf * 0 ≤ 1 ∧ cn47 + nf * 0 ≤ 60) → q = (r, u') → xG p l e rX10_magnitude s m args below meth c t Q 10 ck47 cn47 47 u18 [(6, .int (iI x6_16)), (7, .int (iI x7_17)), (0, .ref (t.2.2.1 264)), (1, .int (iI x1)), (3, .int (iI x3_2)), (4, .int (iI x4_4)), (5, .ref (t.2.2.1 355))] []) ?_
    intro nf go15 igo15 x6_16 x7_17 u18 q h ck47 cn47 t hT f19 hck47 hq H locs ls hG hS hl
    subst hq
    replace X := X0.ag hT (by decide)
    unfold s_X10_magnitude_47 at h
    refine lv_iload X.1.1 X.1.2.1 dX10_magnitude_47 (lv_at hl 1 rfl) ?_
    refine lv_aload_n X.1.1 X.1.2.1 dX10_magnitude_49 rfl (lv_at hl 2 rfl) ?_
    refine y_geti X hG 14 7 264 7 (inC := iX10) rfl (hT.fk (by decide) q264).1 (hT.fk (by decide) q264).2 ⟨by decide, by decide, by decide, rfl, rfl⟩ w6 dX10_magnitude_50 ?_
    obtain ⟨g20, h⟩ := xgd_of h
    refine x_icmp_ge (tgt := 171) X g20.1 g20.2 dX10_magnitude_53 (by decide) (fun c21 => ?_) (fun c21 => ?_)
    · replace h := xif_t h c21
      refine W.widen (k := 1) (n := 60) (by omega) (by omega) ?_
      exact Jj9 t hT f19 _ _ h _ _ _ hG hS (lv_sub hl [6, 0] rfl)
    · replace h := xif_f h c21
      refine lv_aload_n X.1.1 X.1.2.1 dX10_magnitude_56 rfl (lv_at hl 2 rfl) ?_
      refine y_getr X hG 14 1 264 2 (inC := iX10) rfl (hT.fk (by decide) q264).1 (hT.fk (by decide) q264).2 ⟨by decide, by decide, by decide, rfl, by decide, by decide⟩ w7 dX10_magnitude_57 ?_
      refine lv_iload X.1.1 X.1.2.1 dX10_magnitude_60 (lv_at hl 1 rfl) ?_
      obtain ⟨g22, h⟩ := xgd_of h
      obtain ⟨g23, h⟩ := xgd_of h
      have f25 := y_qK hG (fy_14_1 hG (hT.fk (by decide) q264)).1 (fy_14_1 hG (hT.fk (by decide) q264)).2.1 (fy_14_1 hG (hT.fk (by decide) q264)).2.2 g22 g23
      obtain ⟨n24, en24, h⟩ := xlet_of h
      refine y_aaldq X hG (fy_14_1 hG (hT.fk (by decide) q264)).1 (fy_14_1 hG (hT.fk (by decide) q264)).2.1 (Or.inr rfl) (fy_14_1 hG (hT.fk (by decide) q264)).2.2 g22 (by decide) g23 dX10_magnitude_62 ?_
      rw [← en24]
      rw [← en24] at f25
      have f26 := hT.bk (by have h9 := sT_15 _ (al_lt f25.1) f25.2; omega) f25
      refine yN_geti X hG 15 3 n24 3 (inC := iX11) rfl (hT.fk (by have h9 := sT_15 _ (al_lt f26.1) f26.2; omega) f26).1 (hT.fk (by have h9 := sT_15 _ (al_lt f26.1) f26.2; omega) f26).2 ⟨by decide, by decide, by decide, rfl, rfl⟩ (x_m 45 rfl) dX10_magnitude_63 ?_
      refine lv_iload_n X.1.1 X.1.2.1 dX10_magnitude_66 rfl (lv_at hl 3 rfl) ?_
      obtain ⟨g27, h⟩ := xgd_of h
      refine x_icmp_eq (tgt := 73) X g27.1 g27.2 dX10_magnitude_67 (by decide) (fun c28 => ?_) (fun c28 => ?_)
      · replace h := xif_t h c28
        refine lv_aload_n X.1.1 X.1.2.1 dX10_magnitude_73 rfl (lv_at hl 2 rfl) ?_
        refine lv_aload_n X.1.1 X.1.2.1 dX10_magnitude_74 rfl (lv_at hl 2 rfl) ?_
        refine y_getr X hG 14 1 264 2 (inC := iX10) rfl (hT.fk (by decide) q264).1 (hT.fk (by decide) q264).2 ⟨by decide, by decide, by decide, rfl, by decide, by decide⟩ w7 dX10_magnitude_75 ?_
        refine lv_iload X.1.1 X.1.2.1 dX10_magnitude_78 (lv_at hl 1 rfl) ?_
        obtain ⟨g29, h⟩ := xgd_of h
        obtain ⟨g30, h⟩ := xgd_of h
        have f32 := y_qK hG (fy_14_1 hG (hT.fk (by decide) q264)).1 (fy_14_1 hG (hT.fk (by decide) q264)).2.1 (fy_14_1 hG (hT.fk (by decide) q264)).2.2 g29 g30
        obtain ⟨n31, en31, h⟩ := xlet_of h
        refine y_aaldq X hG (fy_14_1 hG (hT.fk (by decide) q264)).1 (fy_14_1 hG (hT.fk (by decide) q264)).2.1 (Or.inr rfl) (fy_14_1 hG (hT.fk (by decide) q264)).2.2 g29 (by decide) g30 dX10_magnitude_80 ?_
        rw [← en31]
        rw [← en31] at f32
        have f33 := hT.bk (by have h9 := sT_15 _ (al_lt f32.1) f32.2; omega) f32
        refine yN_geti X hG 15 2 n31 2 (inC := iX11) rfl (hT.fk (by have h9 := sT_15 _ (al_lt f33.1) f33.2; omega) f33).1 (hT.fk (by have h9 := sT_15 _ (al_lt f33.1) f33.2; omega) f33).2 ⟨by decide, by decide, by decide, rfl, rfl⟩ (x_m 43 rfl) dX10_magnitude_81 ?_
        refine lv_aload_n X.1.1 X.1.2.1 dX10_magnitude_84 rfl (lv_at hl 2 rfl) ?_
        refine y_geti X hG 14 23 264 23 (inC := iX10) rfl (hT.fk (by decide) q264).1 (hT.fk (by decide) q264).2 ⟨by decide, by decide, by decide, rfl, rfl⟩ w8 dX10_magnitude_85 ?_
        refine lv_iload_n X.1.1 X.1.2.1 dX10_magnitude_88 rfl (lv_at hl 4 rfl) ?_
        refine lv_iload X.1.1 X.1.2.1 dX10_magnitude_89 (lv_at hl 5 rfl) ?_
        refine lv_aload_n X.1.1 X.1.2.1 dX10_magnitude_91 rfl (lv_at hl 2 rfl) ?_
        refine y_getr X hG 14 0 264 1 (inC := iX10) rfl (hT.fk (by decide) q264).1 (hT.fk (by decide) q264).2 ⟨by decide, by decide, by decide, rfl, by decide, by decide⟩ w9 dX10_magnitude_92 ?_
        refine lv_aload_n X.1.1 X.1.2.1 dX10_magnitude_95 rfl (lv_at hl 2 rfl) ?_
        refine y_getr X hG 14 1 264 2 (inC := iX10) rfl (hT.fk (by decide) q264).1 (hT.fk (by decide) q264).2 ⟨by decide, by decide, by decide, rfl, by decide, by decide⟩ w7 dX10_magnitude_96 ?_
        refine lv_iload X.1.1 X.1.2.1 dX10_magnitude_99 (lv_at hl 1 rfl) ?_
        obtain ⟨g34, h⟩ := xgd_of h
        obtain ⟨g35, h⟩ := xgd_of h
        have f37 := y_qK hG (fy_14_1 hG (hT.fk (by decide) q264)).1 (fy_14_1 hG (hT.fk (by decide) q264)).2.1 (fy_14_1 hG (hT.fk (by decide) q264)).2.2 g34 g35
        obtain ⟨n36, en36, h⟩ := xlet_of h
        refine y_aaldq X hG (fy_14_1 hG (hT.fk (by decide) q264)).1 (fy_14_1 hG (hT.fk (by decide) q264)).2.1 (Or.inr rfl) (fy_14_1 hG (hT.fk (by decide) q264)).2.2 g34 (by decide) g35 dX10_magnitude_101 ?_
        rw [← en36]
        rw [← en36] at f37
        have f38 := hT.bk (by have h9 := sT_15 _ (al_lt f37.1) f37.2; omega) f37
        refine yN_geti X hG 15 0 n36 0 (inC := iX11) rfl (hT.fk (by have h9 := sT_15 _ (al_lt f38.1) f38.2; omega) f38).1 (hT.fk (by have h9 := sT_15 _ (al_lt f38.1) f38.2; omega) f38).2 ⟨by decide, by decide, by decide, rfl, rfl⟩ (x_m 37 rfl) dX10_magnitude_102 ?_
        obtain ⟨g39, h⟩ := xgd_of h
        obtain ⟨g40, h⟩ := xgd_of h
        have f42 := y_qP hG (fy_14_0 hG (hT.fk (by decide) q264)).1 (fy_14_0 hG (hT.fk (by decide) q264)).2.1 (fy_14_0 hG (hT.fk (by decide) q264)).2.2 g39 g40
        obtain ⟨n41, en41, h⟩ := xlet_of h
        refine y_aaldq X hG (fy_14_0 hG (hT.fk (by decide) q264)).1 (fy_14_0 hG (hT.fk (by decide) q264)).2.1 (Or.inl rfl) (fy_14_0 hG (hT.fk (by decide) q264)).2.2 g39 (by decide) g40 dX10_magnitude_105 ?_
        rw [← en41]
        rw [← en41] at f42
        have f43 := hT.bk (by have h9 := sT_16 _ (al_lt f42.1) f42.2; omega) f42
        obtain ⟨v44, u45, hf, h⟩ := xbd_of h
        refine x_callSi0 X hG hS (c_X10_far l t _ _ _ _ _ _ hf (hT.fk (by have h9 := sT_16 _ (al_lt f43.1) f43.2; omega) f43)) (va_cwS 3 X.1.2.2.2.2 gX10_magnitude_X10_far rfl rfl rfl hds_X10_far ⟨Nat.le_of_ble_eq_true rfl, Nat.le_of_ble_eq_true rfl⟩) (by rfl) hl.1 (Nat.le_of_ble_eq_true rfl) dX10_magnitude_106 ⟨by show ck47 + 0 ≤ 1; omega, by show cn47 + 0 ≤ 60; omega⟩ rfl (fun H locs hG hS => ?_)
        refine x_imul X dX10_magnitude_109 ?_
        refine x_iadd X dX10_magnitude_110 ?_
        obtain ⟨v46, u47, hf, h⟩ := xbd_of h
        refine y_callVi0 X hG hS (c_X10_rung l t _ _ _ _ hf (hT.fk (by decide) q264).1) (cwV 1 X.1.2.2.2.2 gX10_magnitude_X10_rung rfl rfl rfl hd_X10_rung ⟨Nat.le_of_ble_eq_true rfl, Nat.le_of_ble_eq_true rfl⟩) (hT.fk (by decide) q264).1 (hT.fk (by decide) q264).2 rfl (by decide) (by rfl) hl.1 (Nat.le_of_ble_eq_true rfl) dX10_magnitude_111 ⟨by show ck47 + 0 ≤ 1; omega, by show cn47 + 0 ≤ 60; omega⟩ rfl (fun H locs hG hS => ?_)
        refine lv_istore (lv' := [(8, .int (iI v46)), (6, .int (iI x6_16)), (7, .int (iI x7_17)), (0, .ref (t.2.2.1 264)), (1, .int (iI x1)), (3, .int (iI x3_2)), (4, .int (iI x4_4)), (5, .ref (t.2.2.1 355))]) X.1.1 X.1.2.1 dX10_magnitude_114 hl (by decide) rfl (fun ls hl => ?_)
        refine lv_iload X.1.1 X.1.2.1 dX10_magnitude_116 (lv_at hl 1 rfl) ?_
        refine lv_iinc (v := (iI (x6_16 + 1))) (lv' := [(6, .int (iI (x6_16 + 1))), (8, .int (iI v46)), (7, .int (iI x7_17)), (0, .ref (t.2.2.1 264)), (1, .int (iI x1)), (3, .int (iI x3_2)), (4, .int (iI x4_4)), (5, .ref (t.2.2.1 355))]) X.1.1 X.1.2.1 dX10_magnitude_118 hl (k := 1) rfl (iI_add _ _) (by decide) rfl (fun ls hl => ?_)
        refine lv_istore (lv' := [(9, .int (iI x6_16)), (6, .int (iI (x6_16 + 1))), (8, .int (iI v46)), (7, .int (iI x7_17)), (0, .ref (t.2.2.1 264)), (1, .int (iI x1)), (3, .int (iI x3_2)), (4, .int (iI x4_4)), (5, .ref (t.2.2.1 355))]) X.1.1 X.1.2.1 dX10_magnitude_121 hl (by decide) rfl (fun ls hl => ?_)
        obtain ⟨j48, ej48, h⟩ := xlet_of h
        have Jj48 : ∀ (t : gP) (hT : ag 39 355 356 t0 t) (f51 : al t 355 ∧ sT 355 = 100 ∧ sN 355 = 60) (x9_49 : Int) (u50 : uS), j48 x9_49 u50 = some (r, u') → xG p l e rX10_magnitude s m args below meth c t Q 10 (ck47 + 0) (cn47 + 0) 158 u50 [(0, .ref (t.2.2.1 264)), (1, .int (iI x1)), (3, .int (iI x3_2)), (4, .int (iI x4_4)), (5, .ref (t.2.2.1 355)), (6, .int (iI (x6_16 + 1))), (7, .int (iI x7_17)), (8, .int (iI v46)), (9, .int (iI x9_49))] [] := by
            intro t hT f51 x9_49 u50 h H locs ls hG hS hl
            replace X := X0.ag hT (by decide)
            replace h := (congrFun (congrFun ej48 x9_49) u50).symm.trans h
            refine lv_aload X.1.1 X.1.2.1 dX10_magnitude_158 (lv_at hl 4 rfl) ?_
            refine lv_iload X.1.1 X.1.2.1 dX10_magnitude_160 (lv_at hl 8 rfl) ?_
            refine lv_iload X.1.1 X.1.2.1 dX10_magnitude_162 (lv_at hl 7 rfl) ?_
            obtain ⟨g52, h⟩ := xgd_of h
            refine y_iast X hG hS f51.1 f51.2.1 (n := 60) f51.2.2 g52 (by decide) dX10_magnitude_164 (fun H locs hG hS => ?_)
            obtain ⟨u53, eu53, h⟩ := xlet_of h
            replace hG : G t u53 H := by rw [eu53]; exact hG
            refine lv_iinc (v := (iI (x7_17 + 1))) (lv' := [(7, .int (iI (x7_17 + 1))), (0, .ref (t.2.2.1 264)), (1, .int (iI x1)), (3, .int (iI x3_2)), (4, .int (iI x4_4)), (5, .ref (t.2.2.1 355)), (6, .int (iI (x6_16 + 1))), (8, .int (iI v46)), (9, .int (iI x9_49))]) X.1.1 X.1.2.1 dX10_magnitude_165 hl (k := 6) rfl (iI_add _ _) (by decide) rfl (fun ls hl => ?_)
            refine lv_goto (tgt := 47) X.1.1 X.1.2.1 dX10_magnitude_168 (by decide) ?_
            exact igo15 _ _ _ _ h (ck47 + 0) (cn47 + 0) t hT f51 (by omega) rfl _ _ _ hG hS (lv_sub hl [6, 0, 1, 2, 3, 4, 5] rfl)
        have Lgo54 : ∀ (nf : Nat) (x9_55 : Int) (u56 : uS) q, xl2 (s_X10_magnitude_123 j48 v46) nf x9_55 u56 = some q → ∀ (ck123 cn123 : Nat) (t : gP) (hT : ag 39 355 356 t0 t) (f57 : al t 355 ∧ sT 355 = 100 ∧ sN 355 = 60), (ck123 + nf * 0 ≤ ck47 + 0 ∧ cn123 + nf * 0 ≤ cn47 + 0) → q = (r, u') → xG p l e rX10_magnitude s m args below meth c t Q 10 ck123 cn123 123 u56 [(9, .int (iI x9_55)), (0, .ref (t.2.2.1 264)), (1, .int (iI x1)), (3, .int (iI x3_2)), (4, .int (iI x4_4)), (5, .ref (t.2.2.1 355)), (6, .int (iI (x6_16 + 1))), (7, .int (iI x7_17)), (8, .int (iI v46))] [] := by
          refine xl2_N (F := s_X10_magnitude_123 j48 v46) (fun nf x9_55 u56 q => ∀ (ck123 cn123 : Nat) (t : gP) (hT : ag 39 355 356 t0 t) (f57 : al t 355 ∧ sT 355 = 100 ∧ sN 355 = 60), (ck123 + nf * 0 ≤ ck47 + 0 ∧ cn123 + nf * 0 ≤ cn47 + 0) → q = (r, u') → xG p l e rX10_magnitude s m args below meth c t Q 10 ck123 cn123 123 u56 [(9, .int (iI x9_55)), (0, .ref (t.2.2.1 264)), (1, .int (iI x1)), (3, .int (iI x3_2)), (4, .int (iI x4_4)), (5, .ref (t.2.2.1 355)), (6, .int (iI (x6_16 + 1))), (7, .int (iI x7_17)), (8, .int (iI v46))] []) ?_
          intro nf go54 igo54 x9_55 u56 q h ck123 cn123 t hT f57 hck123 hq H locs ls hG hS hl
          subst hq
          replace X := X0.ag hT (by decide)
          unfold s_X10_magnitude_123 at h
          refine lv_iload X.1.1 X.1.2.1 dX10_magnitude_123 (lv_at hl 0 rfl) ?_
          obtain ⟨g58, h⟩ := xgd_of h
          refine x_if_le (tgt := 158) X g58 dX10_magnitude_125 (by decide) (fun c59 => ?_) (fun c59 => ?_)
          · replace h := xif_t h c59
            refine W.widen (k := (ck47 + 0)) (n := (cn47 + 0)) (by omega) (by omega) ?_
            exact Jj48 t hT f57 _ _ h _ _ _ hG hS (lv_sub hl [1, 2, 3, 4, 5, 6, 7, 8, 0] rfl)
          · replace h := xif_f h c59
            refine lv_aload X.1.1 X.1.2.1 dX10_magnitude_128 (lv_at hl 5 rfl) ?_
            refine lv_iload X.1.1 X.1.2.1 dX10_magnitude_130 (lv_at hl 0 rfl) ?_
            refine x_iconst X dX10_magnitude_132 ?_
            refine x_isub X dX10_magnitude_133 ?_
            obtain ⟨g60, h⟩ := xgd_of h
            refine y_iald X hG f57.1 f57.2.1 (n := 60) f57.2.2 g60 (by decide) dX10_magnitude_134 ?_
            refine lv_iload X.1.1 X.1.2.1 dX10_magnitude_135 (lv_at hl 8 rfl) ?_
            obtain ⟨g61, h⟩ := xgd_of h
            refine x_icmp_le (tgt := 158) X g61.1 g61.2 dX10_magnitude_137 (by decide) (fun c62 => ?_) (fun c62 => ?_)
            · replace h := xif_t h c62
              refine W.widen (k := (ck47 + 0)) (n := (cn47 + 0)) (by omega) (by omega) ?_
              exact Jj48 t hT f57 _ _ h _ _ _ hG hS (lv_sub hl [1, 2, 3, 4, 5, 6, 7, 8, 0] rfl)
            · replace h := xif_f h c62
              refine lv_aload X.1.1 X.1.2.1 dX10_magnitude_140 (lv_at hl 5 rfl) ?_
              refine lv_iload X.1.1 X.1.2.1 dX10_magnitude_142 (lv_at hl 0 rfl) ?_
              refine lv_aload X.1.1 X.1.2.1 dX10_magnitude_144 (lv_at hl 5 rfl) ?_
              refine lv_iload X.1.1 X.1.2.1 dX10_magnitude_146 (lv_at hl 0 rfl) ?_
              refine x_iconst X dX10_magnitude_148 ?_
              refine x_isub X dX10_magnitude_149 ?_
              obtain ⟨g63, h⟩ := xgd_of h
              refine y_iald X hG f57.1 f57.2.1 (n := 60) f57.2.2 g63 (by decide) dX10_magnitude_150 ?_
              obtain ⟨g64, h⟩ := xgd_of h
              refine y_iast X hG hS f57.1 f57.2.1 (n := 60) f57.2.2 g64 (by decide) dX10_magnitude_151 (fun H locs hG hS => ?_)
              obtain ⟨u65, eu65, h⟩ := xlet_of h
              replace hG : G t u65 H := by rw [eu65]; exact hG
              refine lv_iinc (v := (iI (x9_55 + (-1)))) (lv' := [(9, .int (iI (x9_55 + (-1)))), (0, .ref (t.2.2.1 264)), (1, .int (iI x1)), (3, .int (iI x3_2)), (4, .int (iI x4_4)), (5, .ref (t.2.2.1 355)), (6, .int (iI (x6_16 + 1))), (7, .int (iI x7_17)), (8, .int (iI v46))]) X.1.1 X.1.2.1 dX10_magnitude_152 hl (k := 0) rfl (iI_add _ _) (by decide) rfl (fun ls hl => ?_)
              refine lv_goto (tgt := 123) X.1.1 X.1.2.1 dX10_magnitude_155 (by decide) ?_
              exact igo54 _ _ _ h (ck123 + 0) (cn123 + 0) t hT f57 (by omega) rfl _ _ _ hG hS (lv_sub hl [0, 1, 2, 3, 4, 5, 6, 7, 8] rfl)
        exact Lgo54 20000 _ _ _ h (ck47 + 0) (cn47 + 0) t hT f19 ⟨by omega, by omega⟩ rfl _ _ _ hG hS (lv_sub hl [0, 4, 5, 6, 7, 8, 1, 3, 2] rfl)
      · replace h := xif_f h c28
        refine lv_goto (tgt := 165) X.1.1 X.1.2.1 dX10_magnitude_70 (by decide) ?_
        refine lv_iinc (v := (iI (x7_17 + 1))) (lv' := [(7, .int (iI (x7_17 + 1))), (6, .int (iI x6_16)), (0, .ref (t.2.2.1 264)), (1, .int (iI x1)), (3, .int (iI x3_2)), (4, .int (iI x4_4)), (5, .ref (t.2.2.1 355))]) X.1.1 X.1.2.1 dX10_magnitude_165 hl (k := 1) rfl (iI_add _ _) (by decide) rfl (fun ls hl => ?_)
        refine lv_goto (tgt := 47) X.1.1 X.1.2.1 dX10_magnitude_168 (by decide) ?_
        exact igo15 _ _ _ _ h (ck47 + 0) (cn47 + 0) t hT f19 (by omega) rfl _ _ _ hG hS (lv_sub hl [1, 0, 2, 3, 4, 5, 6] rfl)
  exact Lgo15 20000 _ _ _ _ h 1 60 t hT f8 ⟨by omega, by omega⟩ rfl _ _ _ hG hS (lv_sub hl [1, 0, 5, 6, 4, 3, 2] rfl)
theorem hd_X10_magnitude : yX10_magnitude.cls = RX10 ∧ yX10_magnitude.cls ≠ "java/lang/invoke/MethodHandle" ∧ yX10_magnitude.cls ≠ "java/lang/invoke/VarHandle" ∧ (parseMethodDescriptor yX10_magnitude.desc).map (fun d => d.parameters.length) = some 2 := by decide +kernel
