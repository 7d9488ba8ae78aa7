/-! pure part, 29: the reference's descriptions and trials; bytes on both sides -/
section ME
variable {u N V : uS} {U S : Int → uS} {f : Int → Int} {c L E : Int} {B : Int → Int} {D : List Int}
theorem MI.tx {w : uS} {D2 : List Int} (h : MI N V U S f c L E B D u) (hw : ∀ d, d ≠ 40 → d ≠ 48 → d ≠ 49 → w d = u d) (h40 : ∀ j, j ≠ 0 → j ≠ 20 → w 40 j = u 40 j) (ht : TXm w D2) : MI N V U S f c L E B D2 w := by
  obtain ⟨h1, h2, h3, h4, h5, h6, h7⟩ := h
  refine ⟨h1.row (fun c a b => hw c (by omega) (by omega) (by omega)), h2.row (hw _ (by decide) (by decide) (by decide)), h3.row (h40 _ (by decide) (by decide)) (hw _ (by decide) (by decide) (by decide)), h4.row (hw _ (by decide) (by decide) (by decide)) (hw _ (by decide) (by decide) (by decide)), by rw [h40 8 (by decide) (by decide), h40 15 (by decide) (by decide)]; exact h5, ?_, ht⟩
  rw [hw 47 (by decide) (by decide) (by decide)]; exact h6
theorem mDescribeN {e : Int} (hM : MI N V U S f c L E B D u) (hP : PW N V U S f c L E B D) (he : InR e) (h1 : ¬ (0 ≤ e ∧ e < V 0 2)) : f_X10_describe e u = some (0, up (up u 40 0 0) 40 0 1) := by
  have z0 : up u 40 0 0 40 0 = 0 := up_s _ _ _ _
  refine wp_eq ?_
  unfold f_X10_describe
  refine wp_L ?_
  refine wp_ei (enoEvent (hM.t 0) hP.2.1.1.1 z0 he) (fun h => absurd h h1) (fun h => ?_)
  repeat (first | (with_reducible refine wp_L ?_) | (with_reducible refine wp_g ?_ ?_; · omega) | (with_reducible refine wp_f ?_ ?_; · omega) | (with_reducible refine wp_t ?_ ?_; · omega) | (with_reducible refine wp_e (eof _ _ _) ?_) | (with_reducible refine wp_e (eat _ _ _) ?_) | (with_reducible refine wp_e (enodes _) ?_))
  exact wp_s rfl
theorem mDescribe {e : Int} (hM : MI N V U S f c L E B D u) (hP : PW N V U S f c L E B D) (h1 : 0 ≤ e ∧ e < V 0 2) : wp (f_X10_describe e u) (fun q => q.2 40 0 = 0 ∧ q.1 = ((dsc N V e).length : Int) ∧ FM u q.2 ∧ MI N V U S f c L E B (dsc N V e) q.2) := by
  have hN := hP.1
  have hV := hP.2.1.1
  have hVb := hV.1
  have b2 := hVb.2.2.1
  have z0 : up u 40 0 0 40 0 = 0 := up_s _ _ _ _
  have le := dg_l2 (x := e) (by omega)
  unfold f_X10_describe
  refine wp_L ?_
  refine wp_ei (enoEvent (hM.t 0) hVb z0 (x := e) (by omega)) (fun h => ?_) (fun h => absurd h1 h)
  refine wp_g (by omega) ?_
  refine wp_t (by omega) ?_
  refine wp_l (fun w gw => ?_)
  have hw : ∀ d, d ≠ 40 → w d = u d := fun d hd => by rw [gw, up_c hd, up_c hd]
  have hw40 : ∀ j, j ≠ 0 → j ≠ 20 → w 40 j = u 40 j := fun j j0 j1 => by rw [gw, up_j j1, up_j j0]
  have hw0 : w 40 0 = 0 := by rw [gw, up_j (by decide), up_s]
  have tw : TXm w [] := ⟨by rw [gw, up_s]; rfl, fun j hj => absurd hj (Nat.not_lt_zero j)⟩
  -- how a text that has been laid ends the call
  have inv : ∀ x : uS, FrT w x → ∀ T, TXm x T → MI N V U S f c L E B T x := fun x hx T hT => hM.tx (fun d d0 _ d2 => (hx.1 d d0 d2).trans (hw d d0)) (fun j j0 j1 => (hx.2 j j1).trans (hw40 j j0 j1)) hT
  refine wp_b (wsaysWord (k := 2009) (by decide) tw (by rw [sl9]; decide)) (fun r v2 hv => ?_)
  obtain ⟨f2, t2⟩ := hv
  have f2 : FrT w v2 := f2
  have t2 : TXm v2 (strL 2009) := t2
  refine wp_b (wsaysNumber (x := e) (by omega) t2 (by rw [sl9]; decide)) (fun r v3 hv => ?_)
  obtain ⟨f3, t3⟩ := hv
  have f3 : FrT w v3 := f2.tr f3
  have t3 : TXm v3 (strL 2009 ++ dg e) := t3
  have l3 : (strL 2009 ++ dg e).length ≤ 8 := by rw [List.length_append, sl9]; omega
  have hM3 := inv v3 f3 _ t3
  refine wp_e (eisRetracted hVb hM3.2.1 h1) ?_
  have fin : ∀ (x : uS), FrT w x → TXm x (dsc N V e) → ∀ z : uS, (∀ d, d ≠ 48 → z d = x d) → wp (some (z 40 20, z)) (fun q => q.2 40 0 = 0 ∧ q.1 = ((dsc N V e).length : Int) ∧ FM u q.2 ∧ MI N V U S f c L E B (dsc N V e) q.2) := by
    intro x hx hT z hz
    have hzT : TXm z (dsc N V e) := hT.row (by rw [hz 40 (by decide)]) (hz 49 (by decide))
    refine wp_s ⟨?_, hzT.1, fun d hd => (hz d (by omega)).trans ((hx.1 d (by omega) (by omega)).trans (hw d (by omega))), hM.tx (fun d d0 d1 d2 => (hz d d1).trans ((hx.1 d d0 d2).trans (hw d d0))) (fun j j0 j1 => (congrFun (hz 40 (by decide)) j).trans ((hx.2 j j1).trans (hw40 j j0 j1))) hzT⟩
    show z 40 0 = 0
    rw [hz 40 (by decide)]; exact (hx.2 0 (by decide)).trans hw0
  by_cases h14 : V 14 e = 1
  · rw [if_pos h14]
    refine wp_g (by decide) ?_
    refine wp_f (by decide) ?_
    refine wp_b (wsaysWord (k := 2010) (by decide) t3 (by rw [sl10]; omega)) (fun r v4 hv => ?_)
    obtain ⟨f4, t4⟩ := hv
    refine fin v4 (f3.tr f4) ?_ v4 (fun _ _ => rfl)
    unfold dsc
    rw [if_pos h14]; exact t4
  · rw [if_neg h14]
    have hpk := pk_1 hN hV h1 h14
    have pb := pk_b V e hVb.2.1.1
    have pb2 := hVb.2.1
    have nb := nde_b (V := V) hN e
    have nd := nds_b hN
    have xb := ndX_b hN nb.1
    have yb := ndY_b hN nb.1 nb.2
    refine wp_g (by decide) ?_
    refine wp_t rfl ?_
    refine wp_e (enodeOf hN hM3.1 hVb hM3.2.1 (by omega) hpk) ?_
    refine wp_b (wsaysWord (k := 2011) (by decide) t3 (by rw [sl11]; omega)) (fun r v6 hv => ?_)
    obtain ⟨f6, t6⟩ := hv
    have f6 : FrT w v6 := f3.tr f6
    have t6 : TXm v6 ((strL 2009 ++ dg e) ++ strL 2011) := t6
    have l6 : ((strL 2009 ++ dg e) ++ strL 2011).length ≤ 12 := by rw [List.length_append, sl11]; omega
    have hM6 := inv v6 f6 _ t6
    refine wp_e (enodeX hN hM6.1 (by omega)) ?_
    refine wp_b (wsaysNumber (x := ndX N (nde N V e)) (by omega) t6 (by omega)) (fun r v7 hv => ?_)
    obtain ⟨f7, t7⟩ := hv
    have f7 : FrT w v7 := f6.tr f7
    have t7 : TXm v7 (((strL 2009 ++ dg e) ++ strL 2011) ++ dg (ndX N (nde N V e))) := t7
    have l7 : (((strL 2009 ++ dg e) ++ strL 2011) ++ dg (ndX N (nde N V e))).length ≤ 16 := by rw [List.length_append]; have := dg_l4 (ndX N (nde N V e)); omega
    refine wp_b (wsaysWord (k := 2012) (by decide) t7 (by rw [sl12]; show _ + 1 ≤ 80; omega)) (fun r v8 hv => ?_)
    obtain ⟨f8, t8⟩ := hv
    have f8 : FrT w v8 := f7.tr f8
    have t8 : TXm v8 ((((strL 2009 ++ dg e) ++ strL 2011) ++ dg (ndX N (nde N V e))) ++ [44]) := by rw [← sl12]; exact t8
    have l8 : ((((strL 2009 ++ dg e) ++ strL 2011) ++ dg (ndX N (nde N V e))) ++ [44]).length ≤ 17 := by rw [List.length_append]; show _ + 1 ≤ 17; omega
    have hM8 := inv v8 f8 _ t8
    refine wp_e (enodeY hN hM8.1 (by omega)) ?_
    refine wp_b (wsaysNumber (x := ndY N (nde N V e)) (by omega) t8 (by omega)) (fun r v9 hv => ?_)
    obtain ⟨f9, t9⟩ := hv
    have f9 : FrT w v9 := f8.tr f9
    have t9 : TXm v9 (((((strL 2009 ++ dg e) ++ strL 2011) ++ dg (ndX N (nde N V e))) ++ [44]) ++ dg (ndY N (nde N V e))) := t9
    have l9 : (((((strL 2009 ++ dg e) ++ strL 2011) ++ dg (ndX N (nde N V e))) ++ [44]) ++ dg (ndY N (nde N V e))).length ≤ 21 := by rw [List.length_append]; have := dg_l4 (ndY N (nde N V e)); omega
    refine wp_b (wsaysWord (k := 2013) (by decide) t9 (by rw [sl13]; omega)) (fun r v10 hv => ?_)
    obtain ⟨f10, t10⟩ := hv
    have f10 : FrT w v10 := f9.tr f10
    have t10 : TXm v10 ((((((strL 2009 ++ dg e) ++ strL 2011) ++ dg (ndX N (nde N V e))) ++ [44]) ++ dg (ndY N (nde N V e))) ++ strL 2013) := t10
    have l10 : ((((((strL 2009 ++ dg e) ++ strL 2011) ++ dg (ndX N (nde N V e))) ++ [44]) ++ dg (ndY N (nde N V e))) ++ strL 2013).length ≤ 27 := by rw [List.length_append, sl13]; omega
    have hM10 := inv v10 f10 _ t10
    refine wp_e (epicksOf hVb hM10.2.1 (by omega)) ?_
    refine wp_b (wsaysNumber (x := pk V e) (by omega) t10 (by omega)) (fun r v11 hv => ?_)
    obtain ⟨f11, t11⟩ := hv
    have f11 : FrT w v11 := f10.tr f11
    have t11 : TXm v11 (((((((strL 2009 ++ dg e) ++ strL 2011) ++ dg (ndX N (nde N V e))) ++ [44]) ++ dg (ndY N (nde N V e))) ++ strL 2013) ++ dg (pk V e)) := t11
    have l11 : (((((((strL 2009 ++ dg e) ++ strL 2011) ++ dg (ndX N (nde N V e))) ++ [44]) ++ dg (ndY N (nde N V e))) ++ strL 2013) ++ dg (pk V e)).length ≤ 29 := by rw [List.length_append]; have := dg_l2 (x := pk V e) (by omega); omega
    refine wp_b (wsaysWord (k := 2014) (by decide) t11 (by rw [sl14]; omega)) (fun r v12 hv => ?_)
    obtain ⟨f12, t12⟩ := hv
    have f12 : FrT w v12 := f11.tr f12
    have t12 : TXm v12 ((((((((strL 2009 ++ dg e) ++ strL 2011) ++ dg (ndX N (nde N V e))) ++ [44]) ++ dg (ndY N (nde N V e))) ++ strL 2013) ++ dg (pk V e)) ++ strL 2014) := t12
    have l12 : ((((((((strL 2009 ++ dg e) ++ strL 2011) ++ dg (ndX N (nde N V e))) ++ [44]) ++ dg (ndY N (nde N V e))) ++ strL 2013) ++ dg (pk V e)) ++ strL 2014).length ≤ 35 := by rw [List.length_append, sl14]; omega
    have hM12 := inv v12 f12 _ t12
    refine wp_b (wmagnitudeOf hN hM12.1 hVb hM12.2.1 nb (by omega) hpk) (fun m v13 hv => ?_)
    obtain ⟨g1, g2, g3, g4⟩ := hv
    have g1 : ∀ c, c ≠ 48 → v13 c = v12 c := g1
    have g3 : -1 ≤ m := g3
    have g4 : m ≤ 99 := g4
    have hmed : med N V (nde N V e) e = m := med_eq g2
    refine wp_g (by omega) ?_
    refine wp_i (fun cc => ?_) (fun cc => ?_)
    · refine fin v12 f12 ?_ v13 g1
      unfold dsc
      rw [if_neg h14, if_pos (by rw [hmed]; assumption)]; exact t12
    · have t13 : TXm v13 ((((((((strL 2009 ++ dg e) ++ strL 2011) ++ dg (ndX N (nde N V e))) ++ [44]) ++ dg (ndY N (nde N V e))) ++ strL 2013) ++ dg (pk V e)) ++ strL 2014) := t12.row (by rw [g1 40 (by decide)]) (g1 49 (by decide))
      refine wp_b (wsaysWord (k := 2015) (by decide) t13 (by rw [sl15]; omega)) (fun r v14 hv => ?_)
      obtain ⟨f14, t14⟩ := hv
      have f14 : FrT v13 v14 := f14
      refine wp_b (wsaysNumber (x := m) (by omega) t14 (by rw [List.length_append, sl15]; omega)) (fun r v15 hv => ?_)
      obtain ⟨f15, t15⟩ := hv
      have f15 : FrT v13 v15 := f14.tr f15
      have hT : TXm v15 (dsc N V e) := by
        unfold dsc
        rw [if_neg h14, if_neg (by rw [hmed]; assumption), hmed]; exact t15
      refine wp_s ⟨?_, hT.1, fun d hd => (f15.1 d (by omega) (by omega)).trans ((g1 d (by omega)).trans ((f12.1 d (by omega) (by omega)).trans (hw d (by omega)))), hM.tx (fun d d0 d1 d2 => (f15.1 d d0 d2).trans ((g1 d d1).trans ((f12.1 d d0 d2).trans (hw d d0)))) (fun j j0 j1 => (f15.2 j j1).trans ((congrFun (g1 40 (by decide)) j).trans ((f12.2 j j1).trans (hw40 j j0 j1)))) hT⟩
      exact (f15.2 0 (by decide)).trans ((congrFun (g1 40 (by decide)) 0).trans ((f12.2 0 (by decide)).trans hw0))
theorem mWithout {s t : Int} (hM : MI N V U S f c L E B D u) (hP : PW N V U S f c L E B D) (hs : InR s) (ht : InR t) : wp (f_X10_eventsWithout s t u) (fun q => q.2 40 0 = ((rWithout N V s t).1 : Int) ∧ (((rWithout N V s t).1 : Int) = 0 → q.1 = (rWithout N V s t).2) ∧ FM u q.2 ∧ MI N V U S f c L E B D q.2) := by
  have hN := hP.1
  have n0 := hN.1
  have hV := hP.2.1.1
  have hV9 := hP.2.1.2
  have hVb := hV.1
  have hM1 := hM.t 0
  have z0 : up u 40 0 0 40 0 = 0 := up_s _ _ _ _
  unfold f_X10_eventsWithout
  refine wp_ei (enoStation hM hN hs) (fun h1 => ?_) (fun h1 => ?_)
  · have no : rWithout N V s t = (if 0 ≤ t ∧ t ≤ 200 then (if V 6 s = 0 then (0, lv (tks N t.toNat (mt N V s))) else (3, 0)) else (2, 0)) := if_pos h1
    repeat (first | (with_reducible refine wp_L ?_) | (with_reducible refine wp_g ?_ ?_; · omega) | (with_reducible refine wp_f ?_ ?_; · omega) | (with_reducible refine wp_t ?_ ?_; · omega) | (with_reducible refine wp_e (eof _ _ _) ?_) | (with_reducible refine wp_e (eat _ _ _) ?_) | (with_reducible refine wp_e (enodes _) ?_))
    refine wp_e (ewithin _ ht (by decide) (by decide)) ?_
    by_cases h2 : 0 ≤ t ∧ t ≤ 200
    · rw [if_pos h2]
      have r6 := hM1.2.1.mu (s := s) h1.1 (by omega)
      have b6 := (hVb.2.2.2.1 s h1.1 (by omega)).2.2
      repeat (first | (with_reducible refine wp_L ?_) | (with_reducible refine wp_g ?_ ?_; · omega) | (with_reducible refine wp_f ?_ ?_; · omega) | (with_reducible refine wp_t ?_ ?_; · omega) | (with_reducible refine wp_e (eof _ _ _) ?_) | (with_reducible refine wp_e (eat _ _ _) ?_) | (with_reducible refine wp_e (enodes _) ?_))
      refine wp_e (ethrowsIf0 _ (by decide) z0 (by decide)) ?_
      repeat (first | (with_reducible refine wp_L ?_) | (with_reducible refine wp_g ?_ ?_; · omega) | (with_reducible refine wp_f ?_ ?_; · omega) | (with_reducible refine wp_t ?_ ?_; · omega) | (with_reducible refine wp_e (eof _ _ _) ?_) | (with_reducible refine wp_e (eat _ _ _) ?_) | (with_reducible refine wp_e (enodes _) ?_))
      by_cases h3 : V 6 s = 0
      · rw [no.trans ((if_pos h2).trans (if_pos h3))]
        repeat (first | (with_reducible refine wp_L ?_) | (with_reducible refine wp_g ?_ ?_; · omega) | (with_reducible refine wp_f ?_ ?_; · omega) | (with_reducible refine wp_t ?_ ?_; · omega) | (with_reducible refine wp_e (eof _ _ _) ?_) | (with_reducible refine wp_e (eat _ _ _) ?_) | (with_reducible refine wp_e (enodes _) ?_))
        refine wp_e (ethrowsIf0 _ (by decide) z0 (by decide)) ?_
        repeat (first | (with_reducible refine wp_L ?_) | (with_reducible refine wp_g ?_ ?_; · omega) | (with_reducible refine wp_f ?_ ?_; · omega) | (with_reducible refine wp_t ?_ ?_; · omega) | (with_reducible refine wp_e (eof _ _ _) ?_) | (with_reducible refine wp_e (eat _ _ _) ?_) | (with_reducible refine wp_e (enodes _) ?_))
        refine wp_b (waside hVb hM1.2.1) (fun r v hv => ?_)
        obtain ⟨v1, v2⟩ := hv
        have v1 : ∀ e, e ≠ 50 → v e = up u 40 0 0 e := v1
        have v2 : MSo v 50 0 V := v2
        have mv : MI N V U S f c L E B D v := hM1.sc (fun d d0 d1 d2 => v1 d d2) (fun j hj => by rw [v1 40 (by decide)])
        refine wp_b (wmutes hN mv.1 hV mv.2.1 h1) (fun g w hw => ?_)
        obtain ⟨w0, w1, w2⟩ := hw
        have w0 : g = mtn N (mt1 V s) (V 0 2) := w0
        have w1 : ∀ c, c ≠ 41 → w c = v c := w1
        have w2 : MS w (mt N V s) := w2
        have gb := @sg_le (fun e => if mt1 V s 14 e = 0 ∧ pk (mt1 V s) e < N 0 12 then 1 else 0) 1 (V 0 2).toNat (fun i _ _ => by
          show 0 ≤ (if mt1 V s 14 i = 0 ∧ pk (mt1 V s) i < N 0 12 then (1 : Int) else 0) ∧ (if mt1 V s 14 i = 0 ∧ pk (mt1 V s) i < N 0 12 then (1 : Int) else 0) ≤ 1
          split <;> omega)
        have gb2 : 0 ≤ g ∧ g ≤ 20 := by
          have := hVb.2.2.1
          have e : g = sg (fun e => if mt1 V s 14 e = 0 ∧ pk (mt1 V s) e < N 0 12 then 1 else 0) (V 0 2).toNat := w0
          omega
        have wfm := wf_mt hN hV (s := s) (by omega)
        have mt0 : mt N V s 0 0 = V 0 0 := mt_q (by decide) (by decide) (by decide) (by decide) (by decide)
        refine wp_L ?_
        refine mticks hN _ (fun go i v => rfl) h2 (mv.1.row (fun c h3 h4 => w1 c (by omega))) w2 wfm (by rw [mt0]; exact hV9) (fun x hx hx2 => ?_)
        have wfx := wf_tks hN (n := t.toNat) wfm (by rw [mt0]; omega)
        have xv : ∀ d, d ≠ 41 → x d = v d := fun d hd => (hx d hd).trans (w1 d hd)
        repeat (first | (with_reducible refine wp_L ?_) | (with_reducible refine wp_g ?_ ?_; · omega) | (with_reducible refine wp_f ?_ ?_; · omega) | (with_reducible refine wp_t ?_ ?_; · omega) | (with_reducible refine wp_e (eof _ _ _) ?_) | (with_reducible refine wp_e (eat _ _ _) ?_) | (with_reducible refine wp_e (enodes _) ?_))
        refine wp_e (elive wfx.1 hx2) ?_
        refine wp_b (wagain hVb (v2.row (xv 50 (by decide)))) (fun r y hy => ?_)
        obtain ⟨y1, y2⟩ := hy
        have y1 : ∀ e, e ≠ 41 → y e = x e := y1
        have yv : ∀ d, d ≠ 41 → y d = v d := fun d hd => (y1 d hd).trans (xv d hd)
        refine mq (mv.now yv y2) (fun d hd => (yv d (by omega)).trans ((v1 d (by omega)).trans (FM.t 0 d hd))) ?_ (fun _ => rfl)
        rw [yv 40 (by decide), v1 40 (by decide)]; exact z0
      · rw [no.trans ((if_pos h2).trans (if_neg h3))]
        repeat (first | (with_reducible refine wp_L ?_) | (with_reducible refine wp_g ?_ ?_; · omega) | (with_reducible refine wp_f ?_ ?_; · omega) | (with_reducible refine wp_t ?_ ?_; · omega) | (with_reducible refine wp_e (eof _ _ _) ?_) | (with_reducible refine wp_e (eat _ _ _) ?_) | (with_reducible refine wp_e (enodes _) ?_))
        refine wp_e (ethrowsIf0 _ (by decide) z0 (by decide)) ?_
        repeat (first | (with_reducible refine wp_L ?_) | (with_reducible refine wp_g ?_ ?_; · omega) | (with_reducible refine wp_f ?_ ?_; · omega) | (with_reducible refine wp_t ?_ ?_; · omega) | (with_reducible refine wp_e (eof _ _ _) ?_) | (with_reducible refine wp_e (eat _ _ _) ?_) | (with_reducible refine wp_e (enodes _) ?_))
        exact mq (hM1.t 3) ((FM.t 0).tr (FM.t 3)) (up_s _ _ _ _) (fun h => absurd h (by decide))
    · rw [if_neg h2, no.trans (if_neg h2)]
      repeat (first | (with_reducible refine wp_L ?_) | (with_reducible refine wp_g ?_ ?_; · omega) | (with_reducible refine wp_f ?_ ?_; · omega) | (with_reducible refine wp_t ?_ ?_; · omega) | (with_reducible refine wp_e (eof _ _ _) ?_) | (with_reducible refine wp_e (eat _ _ _) ?_) | (with_reducible refine wp_e (enodes _) ?_))
      refine wp_e (ethrowsIf0 _ (by decide) z0 (by decide)) ?_
      repeat (first | (with_reducible refine wp_L ?_) | (with_reducible refine wp_g ?_ ?_; · omega) | (with_reducible refine wp_f ?_ ?_; · omega) | (with_reducible refine wp_t ?_ ?_; · omega) | (with_reducible refine wp_e (eof _ _ _) ?_) | (with_reducible refine wp_e (eat _ _ _) ?_) | (with_reducible refine wp_e (enodes _) ?_))
      exact mq (hM1.t 2) ((FM.t 0).tr (FM.t 2)) (up_s _ _ _ _) (fun h => absurd h (by decide))
  · have hr : rWithout N V s t = (1, 0) := if_neg h1
    rw [hr]
    repeat (first | (with_reducible refine wp_L ?_) | (with_reducible refine wp_g ?_ ?_; · omega) | (with_reducible refine wp_f ?_ ?_; · omega) | (with_reducible refine wp_t ?_ ?_; · omega) | (with_reducible refine wp_e (eof _ _ _) ?_) | (with_reducible refine wp_e (eat _ _ _) ?_) | (with_reducible refine wp_e (enodes _) ?_))
    exact mq (hM1.t 1) ((FM.t 0).tr (FM.t 1)) (up_s _ _ _ _) (fun h => absurd h (by decide))
theorem mTte (hM : MI N V U S f c L E B D u) (hP : PW N V U S f c L E B D) : wp (f_X10_ticksToEvent u) (fun q => q.1 = tte N (V 0 2) 200 0 V ∧ FM u q.2 ∧ MI N V U S f c L E B D q.2) := by
  have hN := hP.1
  have hV := hP.2.1.1
  have hV9 := hP.2.1.2
  have hVb := hV.1
  have hM1 := hM.t 0
  unfold f_X10_ticksToEvent
  refine wp_L ?_
  refine wp_b (waside hVb hM1.2.1) (fun r v hv => ?_)
  obtain ⟨v1, v2⟩ := hv
  have v1 : ∀ e, e ≠ 50 → v e = up u 40 0 0 e := v1
  have v2 : MSo v 50 0 V := v2
  have mv : MI N V U S f c L E B D v := hM1.sc (fun d d0 d1 d2 => v1 d d2) (fun j hj => by rw [v1 40 (by decide)])
  have b2 := hVb.2.2.1
  refine wp_L ?_
  refine wl2 (fun i w => (∀ d, d ≠ 41 → w d = v d) ∧ (0 ≤ i ∧ i ≤ 200) ∧ ∃ W, MS w W ∧ WFc N W ∧ W 0 0 = V 0 0 + i ∧ ((W 0 2 = V 0 2 ∧ tte N (V 0 2) (200 - i).toNat i W = tte N (V 0 2) 200 0 V) ∨ (V 0 2 < W 0 2 ∧ i = tte N (V 0 2) 200 0 V ∧ 1 ≤ i))) (fun i _ => (200 - i).toNat) (fun go i w hI hg => ?_) FU _ _ ⟨fun _ _ => rfl, by omega, V, mv.2.1, hV, by omega, Or.inl ⟨rfl, rfl⟩⟩ (FU_l (by decide))
  obtain ⟨hf, hi, W, hW, hWf, hW0, hr⟩ := hI
  have e2 := hW.e
  have m50 : MSo w 50 0 V := v2.row (hf 50 (by decide))
  have e50 : w 50 (0 + 2) = V 0 2 := m50.e
  have e50 : w 50 2 = V 0 2 := e50
  have c2 := hWf.1.2.2.1
  have done : ∀ (s : Int) (R : Int), (s = 0 ∨ s = 1) → R = tte N (V 0 2) 200 0 V → R = (if s = 0 then -1 else i) → wp (xbd (f_X10_copies 50 0 41 0 1167 w) fun _ u12 => xgd (InR s) <| if s = 0 then some ((-1 : Int), u12) else some (i, u12)) (fun q => q.1 = tte N (V 0 2) 200 0 V ∧ FM u q.2 ∧ MI N V U S f c L E B D q.2) := by
    intro s R hs hR hR2
    refine wp_b (wagain hVb m50) (fun r y hy => ?_)
    obtain ⟨y1, y2⟩ := hy
    have y1 : ∀ e, e ≠ 41 → y e = w e := y1
    have yv : ∀ d, d ≠ 41 → y d = v d := fun d hd => (y1 d hd).trans (hf d hd)
    have fm : FM u y := fun d hd => (yv d (by omega)).trans ((v1 d (by omega)).trans (FM.t 0 d hd))
    refine wp_g (by omega) ?_
    refine wp_i (fun cc => ?_) (fun cc => ?_)
    · rw [if_pos (by assumption)] at hR2
      exact wp_s ⟨by rw [← hR, hR2], fm, mv.now yv y2⟩
    · rw [if_neg (by assumption)] at hR2
      exact wp_s ⟨by rw [← hR, hR2], fm, mv.now yv y2⟩
  unfold s_X10_ticksToEvent_23
  refine wp_g (by omega) ?_
  refine wp_i (fun cc => ?_) (fun cc => ?_)
  · have hi2 : i = 200 := by omega
    repeat (first | (with_reducible refine wp_L ?_) | (with_reducible refine wp_g ?_ ?_; · omega) | (with_reducible refine wp_f ?_ ?_; · omega) | (with_reducible refine wp_t ?_ ?_; · omega))
    rcases hr with ⟨h1, h2⟩ | ⟨h1, h2, h3⟩
    · refine wp_t (by omega) ?_
      rw [hi2] at h2
      refine done 0 (-1) (Or.inl rfl) ?_ rfl
      rw [← h2]; rfl
    · refine wp_f (by omega) ?_
      refine done 1 i (Or.inr rfl) h2 ?_
      rw [if_neg (by decide)]
  · repeat (first | (with_reducible refine wp_L ?_) | (with_reducible refine wp_g ?_ ?_; · omega) | (with_reducible refine wp_f ?_ ?_; · omega) | (with_reducible refine wp_t ?_ ?_; · omega))
    rcases hr with ⟨h1, h2⟩ | ⟨h1, h2, h3⟩
    · refine wp_t (by omega) ?_
      refine wp_b (wpasses hN (mv.1.row (fun c h3 h4 => hf c (by omega))) hWf hW (by omega)) (fun r x hx => ?_)
      obtain ⟨x1, x2⟩ := hx
      have x1 : ∀ c, c ≠ 41 → x c = w c := x1
      have wfx := wf_tk hN hWf (by omega)
      have mono := @tk_e2 N W
      rw [show (200 - i).toNat = (200 - (i + 1)).toNat + 1 by omega] at h2
      have hr2 : (if V 0 2 < (tk N W) 0 2 then i + 1 else tte N (V 0 2) (200 - (i + 1)).toNat (i + 1) (tk N W)) = tte N (V 0 2) 200 0 V := h2
      refine hg _ _ ⟨fun d hd => (x1 d hd).trans (hf d hd), by omega, tk N W, x2, wfx, by rw [tk_t]; omega, ?_⟩ (by omega)
      by_cases h : V 0 2 < (tk N W) 0 2
      · rw [if_pos h] at hr2
        exact Or.inr ⟨h, hr2, by omega⟩
      · rw [if_neg h] at hr2
        exact Or.inl ⟨by omega, hr2⟩
    · refine wp_f (by omega) ?_
      repeat (first | (with_reducible refine wp_L ?_) | (with_reducible refine wp_g ?_ ?_; · omega) | (with_reducible refine wp_f ?_ ?_; · omega) | (with_reducible refine wp_t ?_ ?_; · omega))
      refine done 1 i (Or.inr rfl) h2 ?_
      rw [if_neg (by decide)]
end ME
