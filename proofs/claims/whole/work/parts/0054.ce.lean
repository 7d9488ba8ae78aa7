/-! pure part, 24: the class's events, descriptions, changes -/
/-- what is said of an event -/
noncomputable def dsc (N V : uS) (e : Int) : List Int :=
  if V 14 e = 1 then (strL 2009 ++ dg e) ++ strL 2010
  else if med N V (nde N V e) e = -1 then ((((((strL 2009 ++ dg e) ++ strL 2011) ++ dg (ndX N (nde N V e))) ++ [44]) ++ dg (ndY N (nde N V e))) ++ strL 2013 ++ dg (pk V e)) ++ strL 2014
  else (((((((strL 2009 ++ dg e) ++ strL 2011) ++ dg (ndX N (nde N V e))) ++ [44]) ++ dg (ndY N (nde N V e))) ++ strL 2013 ++ dg (pk V e)) ++ strL 2014) ++ strL 2015 ++ dg (med N V (nde N V e) e)
theorem dg_l4 (x : Int) : 1 ≤ (dg x).length ∧ (dg x).length ≤ 4 := by
  rw [dg_len]
  split
  · decide
  · split
    · decide
    · split <;> decide
theorem dg_l2 {x : Int} (h : x < 100) : (dg x).length ≤ 2 := by
  rw [dg_len]
  (repeat' split) <;> omega
theorem sl9 : (strL 2009).length = 6 := by decide +kernel
theorem sl10 : (strL 2010).length = 10 := by decide +kernel
theorem sl11 : (strL 2011).length = 4 := by decide +kernel
theorem sl12 : strL 2012 = [44] := by decide +kernel
theorem sl13 : (strL 2013).length = 6 := by decide +kernel
theorem sl14 : (strL 2014).length = 6 := by decide +kernel
theorem sl15 : (strL 2015).length = 11 := by decide +kernel
section CE
variable {u N V : uS} {U S : Int → uS} {f : Int → Int} {c L E : Int} {B : Int → Int} {D : List Int}
/-- a standing event has a pick -/
theorem pk_1 (hN : NWF N) (hV : WFc N V) {e : Int} (he : 0 ≤ e ∧ e < V 0 2) (h : ¬ V 14 e = 1) : 1 ≤ pk V e := by
  have be := hV.1.2.2.2.2.2.2 e he.1 he.2
  have := hV.2.2.2 e he.1 he.2 (by omega)
  have := hN.2.2.2.2.2.2.2.2.2.2.2.2.1
  omega
theorem cEvent {e x : Int} (hC : CI N V U S f c L E B D u) (hP : PW N V U S f c L E B D) (he : InR e) (hx : InR x) : wp (f_X9_event e x u) (fun q => (q.1, q.2.1) = rEvent N V e x ∧ FC u q.2.2 ∧ CI N V U S f c L E B D q.2.2) := by
  have hN := hP.1
  have hV := hP.2.1.1
  have hVb := hV.1
  have b2 := hVb.2.2.1
  have hM := hC.2.2.1.2.1
  unfold f_X9_event
  refine wp_bt_if (cneedEvent hC hVb he) (by decide) (fun h1 => ?_) (fun h1 => cq0 hC (by unfold rEvent; rw [if_neg h1]))
  have be := hVb.2.2.2.2.2.2 e h1.1 h1.2
  have r14 : u 68 e = V 14 e := hM.re h1.1 h1.2
  refine wp_g (by omega) ?_
  have no : rEvent N V e x = (if x = 0 then (0, V 14 e) else if x = 1 then (0, pk V e) else if x = 2 then (0, V 13 e) else if x < 0 ∨ 6 < x then (2, 0) else if V 14 e = 1 then (0, -1) else if x = 3 then (0, nde N V e) else if x = 4 then (0, org N V (nde N V e) e) else if x = 5 then (0, msf N V (nde N V e) e) else (0, med N V (nde N V e) e)) := if_pos h1
  rw [no]
  -- where an event is located
  have loc : ∀ y : Int, 3 ≤ y → y ≤ 6 → ¬ V 14 e = 1 → ∀ R : Nat × Int, R = (if y = 3 then (0, nde N V e) else if y = 4 then (0, org N V (nde N V e) e) else if y = 5 then (0, msf N V (nde N V e) e) else (0, med N V (nde N V e) e)) → wp (xbd (f_X9_located e y u) fun v w => some ((0 : Nat), v, w)) (fun q => (q.1, q.2.1) = R ∧ FC u q.2.2 ∧ CI N V U S f c L E B D q.2.2) := by
    intro y y0 y1 h14 R hR
    have hpk := pk_1 hN hV h1 h14
    have nn := net_at hC.net
    have main : wp (f_X9_located e y u) (fun q => ((0 : Nat), q.1) = R ∧ ∀ d, d ≠ 30 → d ≠ 31 → d ≠ 32 → q.2 d = u d) := by
      unfold f_X9_located
      refine wp_L ?_
      refine wp_g hC.net ?_
      refine wp_b (clocate hN hC.2.1 hVb hC.2.2.1.1 hM he hpk) (fun r v hv => ?_)
      obtain ⟨v1, v2, v3, v4, v5⟩ := hv
      have v1 : ∀ c, c ≠ 30 → c ≠ 31 → v c = u c := v1
      have v2 : Gat V v e := v2
      have v3 : v 30 1 = nde N V e := v3
      have hC2 : CI N V U S f c L E B D v := hC.sc (fun d hd => v1 d (by unfold Scr at hd; omega) (by unfold Scr at hd; omega))
      refine wp_g (by omega) ?_
      have hy : y = 3 ∨ y = 4 ∨ y = 5 ∨ y = 6 := by omega
      rcases hy with rfl | rfl | rfl | rfl
      · refine wp_f (by omega) ?_
        refine wp_t (by omega) ?_
        exact wp_s ⟨by rw [hR, show v 30 1 = nde N V e from v3]; rfl, fun d d0 d1 d2 => v1 d d0 d1⟩
      · refine wp_f (by omega) ?_
        refine wp_f (by omega) ?_
        refine wp_t (by omega) ?_
        exact wp_s ⟨by rw [hR, show v 30 2 = org N V (nde N V e) e from v4]; rfl, fun d d0 d1 d2 => v1 d d0 d1⟩
      · refine wp_f (by omega) ?_
        refine wp_f (by omega) ?_
        refine wp_f (by omega) ?_
        refine wp_t (by omega) ?_
        exact wp_s ⟨by rw [hR, show v 30 3 = msf N V (nde N V e) e from v5]; rfl, fun d d0 d1 d2 => v1 d d0 d1⟩
      · refine wp_t (by omega) ?_
        refine wp_L ?_
        refine wp_g hC2.net ?_
        refine wp_b (cmagnitude hN hC2.2.1 hVb hC2.2.2.1.1 hC2.2.2.1.2.1 v2 (by rw [v3]; exact nde_b hN e) hpk) (fun r w hw => wp_s ⟨?_, fun d d0 d1 d2 => (hw.1 d d2).trans (v1 d d0 d1)⟩)
        have hm := hw.2.1
        rw [v3] at hm
        show (0, r) = R
        rw [hR, med_eq hm]; rfl
    refine wp_b main (fun r w hw => ?_)
    exact cq1 hC hw.1 hw.2
  refine wp_i (fun cc => ?_) (fun cc => ?_)
  · refine cq0 hC ?_
    rw [if_neg (by omega), if_neg (by omega), if_neg (by omega), if_pos (by omega)]
  · have h7 : x = 0 ∨ x = 1 ∨ x = 2 ∨ x = 3 ∨ x = 4 ∨ x = 5 ∨ x = 6 := by omega
    rcases h7 with rfl | rfl | rfl | rfl | rfl | rfl | rfl
    · refine wp_t (by omega) ?_
      refine wp_g (by omega) ?_
      exact cq0 hC (by rw [r14]; rfl)
    · refine wp_f (by omega) ?_
      refine wp_t (by omega) ?_
      refine wp_e (cpicksOf hVb hC.2.2.1.1 hM he) ?_
      exact cq0 hC rfl
    · refine wp_f (by omega) ?_
      refine wp_f (by omega) ?_
      refine wp_t (by omega) ?_
      refine wp_g (by omega) ?_
      exact cq0 hC (by rw [show u 67 e = V 13 e from hM.dc h1.1 h1.2]; rfl)
    · refine wp_f (by omega) ?_
      refine wp_f (by omega) ?_
      refine wp_f (by omega) ?_
      refine wp_t (by omega) ?_
      refine wp_g (by omega) ?_
      refine wp_g (by omega) ?_
      rw [r14]
      by_cases h14 : V 14 e = 1
      · rw [if_pos h14]
        exact cq0 hC (by rw [if_pos h14]; rfl)
      · rw [if_neg h14]
        exact loc 3 (by decide) (by decide) h14 _ (by rw [if_neg h14]; rfl)
    · refine wp_f (by omega) ?_
      refine wp_f (by omega) ?_
      refine wp_f (by omega) ?_
      refine wp_f (by omega) ?_
      refine wp_t (by omega) ?_
      refine wp_g (by omega) ?_
      refine wp_g (by omega) ?_
      rw [r14]
      by_cases h14 : V 14 e = 1
      · rw [if_pos h14]
        exact cq0 hC (by rw [if_pos h14]; rfl)
      · rw [if_neg h14]
        exact loc 4 (by decide) (by decide) h14 _ (by rw [if_neg h14]; rfl)
    · refine wp_f (by omega) ?_
      refine wp_f (by omega) ?_
      refine wp_f (by omega) ?_
      refine wp_f (by omega) ?_
      refine wp_f (by omega) ?_
      refine wp_t (by omega) ?_
      refine wp_g (by omega) ?_
      refine wp_g (by omega) ?_
      rw [r14]
      by_cases h14 : V 14 e = 1
      · rw [if_pos h14]
        exact cq0 hC (by rw [if_pos h14]; rfl)
      · rw [if_neg h14]
        exact loc 5 (by decide) (by decide) h14 _ (by rw [if_neg h14]; rfl)
    · refine wp_f (by omega) ?_
      refine wp_f (by omega) ?_
      refine wp_f (by omega) ?_
      refine wp_f (by omega) ?_
      refine wp_f (by omega) ?_
      refine wp_f (by omega) ?_
      refine wp_t (by omega) ?_
      refine wp_g (by omega) ?_
      refine wp_g (by omega) ?_
      rw [r14]
      by_cases h14 : V 14 e = 1
      · rw [if_pos h14]
        exact cq0 hC (by rw [if_pos h14]; rfl)
      · rw [if_neg h14]
        exact loc 6 (by decide) (by decide) h14 _ (by rw [if_neg h14]; rfl)
theorem csetLength0 (h : TXc u D) (hD : D.length ≤ 60) : wp (f_J4_setLength_d00df 0 u) (fun q => FrB u q.2 ∧ TXc q.2 []) := by
  have h3 := h.2.1
  have main : wp (f_J5_setLength_d00df 0 u) (fun q => FrB u q.2 ∧ TXc q.2 []) := by
    unfold f_J5_setLength_d00df
    refine wp_g (by decide) ?_
    refine wp_t (by decide) ?_
    refine wp_b (censure (x := 0) h (by omega)) (fun r v hv => ?_)
    obtain ⟨f1, t1, c1, q37⟩ := hv
    have f1 : FrB u v := f1
    have t1 : TXc v D := t1
    have t3 := t1.2.1
    have fin : ∀ w, (∀ c, c ≠ 37 → w c = v c) → w 37 1 = 0 → wp (xlet (up w 37 3 0) fun u8 => some ((0 : Int), u8)) (fun q => FrB u q.2 ∧ TXc q.2 []) := by
      intro w hw h1
      refine wp_L ?_
      obtain ⟨a1, a2, a3, a4, a5, a6, a7, a8⟩ := t1
      refine wp_s ⟨fun c c0 c1 c2 => (up_c c0).trans ((hw c c0).trans (f1 c c0 c1 c2)), (show up w 37 3 0 37 1 = 0 from (up_j (by decide)).trans h1), (up_s w 37 3 0 : up w 37 3 0 37 3 = 0), ?_, ?_, ?_, fun j hj => absurd hj (Nat.not_lt_zero j), ?_, ?_⟩
      · show up w 37 3 0 1000 1 = 16 ∨ up w 37 3 0 1000 1 = 34 ∨ up w 37 3 0 1000 1 = 70
        rw [up_k (by decide), hw 1000 (by decide)]; exact a3
      · show (0 : Int) ≤ up w 37 3 0 1000 1
        rw [up_k (by decide), hw 1000 (by decide)]; omega
      · intro j hj
        show -128 ≤ up w 37 3 0 38 (j : Int) ∧ up w 37 3 0 38 (j : Int) < 128
        have hj2 : j < (up w 37 3 0 1000 1).toNat := hj
        rw [up_k (by decide), hw 1000 (by decide)] at hj2
        rw [up_k (by decide), hw 38 (by decide)]
        exact a5 j hj2
      · show (up w 37 3 0 0 4).toNat ≠ 38
        rw [up_k (by decide), hw 0 (by decide)]; exact a7
      · show (up w 37 3 0 0 5).toNat ≠ 38
        rw [up_k (by decide), hw 0 (by decide)]; exact a8
    refine wp_g (by omega) ?_
    refine wp_L ?_
    refine wp_t (by omega) ?_
    refine wp_g (by omega) ?_
    refine wp_i (fun cc => ?_) (fun cc => ?_)
    · exact fin v (fun _ _ => rfl) t1.1
    · refine wp_L ?_
      exact fin _ (fun c hc => up_c hc) ((up_j (show (1 : Int) ≠ 2 by decide)).trans t1.1)
  unfold f_J4_setLength_d00df
  exact wp_b main (fun r v hv => wp_s hv)
theorem CI.tx {w : uS} {D2 : List Int} (h : CI N V U S f c L E B D u) (hw : ∀ d, ¬ Scr d → d ≠ 37 → d ≠ 38 → d ≠ 1000 → w d = u d) (ht : TXc w D2) : CI N V U S f c L E B D2 w := by
  obtain ⟨h1, h2, h3, h4, h5, h6, h7, h8⟩ := h
  have n1 := net_at h2.1
  unfold Scr at hw
  unfold CI
  rw [hw 0 (by omega) (by omega) (by omega) (by omega)]
  refine ⟨h1, h2.row (fun j hj => hw _ (by omega) (by omega) (by omega) (by omega)), h3.row (fun j hj => hw _ (by omega) (by omega) (by omega) (by omega)), h4.row (hw _ (by omega) (by omega) (by omega) (by omega)) (fun d d0 d1 => hw _ (by omega) (by omega) (by omega) (by omega)), h5.row (hw _ (by omega) (by omega) (by omega) (by omega)) (fun d d0 d1 => hw _ (by omega) (by omega) (by omega) (by omega)), h6, ?_, ht⟩
  rw [hw 1 (by omega) (by omega) (by omega) (by omega)]; exact h7
theorem cDescribeN {e : Int} (hC : CI N V U S f c L E B D u) (hP : PW N V U S f c L E B D) (he : InR e) (h1 : ¬ (0 ≤ e ∧ e < V 0 2)) : f_X9_describe e u = some (1, 0, u) := by
  have hs := cneedEvent hC hP.2.1.1.1 he
  rw [if_neg h1] at hs
  unfold f_X9_describe
  rw [hs]; rfl
theorem cDescribe {e : Int} (hC : CI N V U S f c L E B D u) (hP : PW N V U S f c L E B D) (he : InR e) (h1 : 0 ≤ e ∧ e < V 0 2) : wp (f_X9_describe e u) (fun q => (q.1, q.2.1) = (0, ((dsc N V e).length : Int)) ∧ FC u q.2.2 ∧ CI N V U S f c L E B (dsc N V e) q.2.2) := by
  have hN := hP.1
  have hV := hP.2.1.1
  have hVb := hV.1
  have b2 := hVb.2.2.1
  have hDl := hP.2.2.2.2.2.2.2.1
  have hM := hC.2.2.1.2.1
  have hs := cneedEvent hC hVb he
  rw [if_pos h1] at hs
  unfold f_X9_describe
  refine wp_bt0 hs ?_
  have be := hVb.2.2.2.2.2.2 e h1.1 h1.2
  have le := dg_l2 (x := e) (by omega)
  refine wp_b (csetLength0 hC.2.2.2.2.2.2.2 hDl) (fun r v hv => ?_)
  obtain ⟨f1, t1⟩ := hv
  have f1 : FrB u v := f1
  have t1 : TXc v [] := t1
  refine wp_b (cappendS (k := 2009) (by decide) t1 (by rw [sl9]; decide) (by rw [sl9]; decide)) (fun r2 v2 hv => ?_)
  obtain ⟨e2, f2, t2⟩ := hv
  have f2 : FrB u v2 := f1.tr f2
  have t2 : TXc v2 (strL 2009) := t2
  refine wp_g e2 ?_
  refine wp_b (cappendI (x := e) (by omega) t2 (by rw [sl9]; decide)) (fun r3 v3 hv => ?_)
  obtain ⟨e3, f3, t3⟩ := hv
  have f3 : FrB u v3 := f2.tr f3
  have t3 : TXc v3 (strL 2009 ++ dg e) := t3
  refine wp_g e3 ?_
  have r14 : v3 68 e = V 14 e := by rw [f3 68 (by decide) (by decide) (by decide)]; exact hM.re h1.1 h1.2
  refine wp_g (by omega) ?_
  refine wp_g (by omega) ?_
  refine wp_L ?_
  rw [r14]
  have fin : ∀ (w : uS), TXc w (dsc N V e) → (∀ d, ¬ Scr d → d ≠ 37 → d ≠ 38 → d ≠ 1000 → w d = u d) → (∀ d, 40 ≤ d → d < 54 → w d = u d) → wp (xbd (f_J4_length_8abf5 w) fun v16 u17 => some ((0 : Nat), v16, u17)) (fun q => (q.1, q.2.1) = (0, ((dsc N V e).length : Int)) ∧ FC u q.2.2 ∧ CI N V U S f c L E B (dsc N V e) q.2.2) := by
    intro w ht hw hw2
    have el : f_J4_length_8abf5 w = some (((dsc N V e).length : Int), w) := by
      unfold f_J4_length_8abf5 f_J5_length_8abf5
      rw [ht.2.1]; rfl
    refine wp_e el (wp_s ⟨rfl, hw2, hC.tx hw ht⟩)
  have l1 : (strL 2009 ++ dg e).length ≤ 8 := by rw [List.length_append, sl9]; omega
  by_cases h14 : V 14 e = 1
  · rw [if_pos h14]
    refine wp_b (cappendS (k := 2010) (by decide) t3 (by rw [sl10]; omega) (by rw [sl10]; decide)) (fun r4 v4 hv => ?_)
    obtain ⟨e4, f4, t4⟩ := hv
    have f4 : FrB u v4 := f3.tr f4
    refine wp_g e4 ?_
    refine fin v4 ?_ (fun d _ d1 d2 d3 => f4 d d1 d2 d3) (fun d d0 d1 => f4 d (by omega) (by omega) (by omega))
    unfold dsc
    rw [if_pos h14]; exact t4
  · rw [if_neg h14]
    have hpk := pk_1 hN hV h1 h14
    have pb := pk_b V e hVb.2.1.1
    have pb2 := hVb.2.1
    have nb := nde_b (V := V) hN e
    have xb := ndX_b hN nb.1
    have yb := ndY_b hN nb.1 nb.2
    have hC3 : CI N V U S f c L E B (strL 2009 ++ dg e) v3 := hC.tx (fun d _ d1 d2 d3 => f3 d d1 d2 d3) t3
    have main : wp (f_X9_describeStanding e v3) (fun q => TXc q.2 (dsc N V e) ∧ ∀ d, d ≠ 30 → d ≠ 31 → d ≠ 32 → d ≠ 37 → d ≠ 38 → d ≠ 1000 → q.2 d = u d) := by
      unfold f_X9_describeStanding
      refine wp_L ?_
      refine wp_g hC3.net ?_
      refine wp_b (clocate hN hC3.2.1 hVb hC3.2.2.1.1 hC3.2.2.1.2.1 he hpk) (fun r4 v4 hv => ?_)
      obtain ⟨g1, g2, g3, g4, g5⟩ := hv
      have g1 : ∀ c, c ≠ 30 → c ≠ 31 → v4 c = v3 c := g1
      have g2 : Gat V v4 e := g2
      have g3 : v4 30 1 = nde N V e := g3
      have hC4 : CI N V U S f c L E B (strL 2009 ++ dg e) v4 := hC3.sc (fun d hd => g1 d (by unfold Scr at hd; omega) (by unfold Scr at hd; omega))
      refine wp_L ?_
      refine wp_g hC4.net ?_
      refine wp_b (cmagnitude hN hC4.2.1 hVb hC4.2.2.1.1 hC4.2.2.1.2.1 g2 (by rw [g3]; exact nb) hpk) (fun m v5 hv => ?_)
      obtain ⟨k1, k2, k3⟩ := hv
      have k1 : ∀ c, c ≠ 32 → v5 c = v4 c := k1
      have k3 : InR m := k3
      rw [g3] at k2
      have hmed : med N V (nde N V e) e = m := med_eq k2
      have hC5 : CI N V U S f c L E B (strL 2009 ++ dg e) v5 := hC4.sc (fun d hd => k1 d (by unfold Scr at hd; omega))
      have q5 : ∀ d, d ≠ 30 → d ≠ 31 → d ≠ 32 → v5 d = v3 d := fun d d0 d1 d2 => (k1 d d2).trans (g1 d d0 d1)
      have n5 : v5 30 1 = nde N V e := by rw [k1 30 (by decide)]; exact g3
      have n50 : v5 30 0 = pk V e := by rw [k1 30 (by decide)]; exact g2.1
      -- the parts, one behind another
      refine wp_b (cappendS (k := 2011) (by decide) hC5.2.2.2.2.2.2.2 (by rw [sl11]; omega) (by rw [sl11]; decide)) (fun r6 v6 hv => ?_)
      obtain ⟨e6, f6, t6⟩ := hv
      have f6 : FrB v5 v6 := f6
      have t6 : TXc v6 ((strL 2009 ++ dg e) ++ strL 2011) := t6
      have l6 : ((strL 2009 ++ dg e) ++ strL 2011).length ≤ 12 := by rw [List.length_append, sl11]; omega
      have hC6 := hC5.tx (fun d _ d1 d2 d3 => f6 d d1 d2 d3) t6
      have n6 : v6 30 1 = nde N V e := by rw [f6 30 (by decide) (by decide) (by decide)]; exact n5
      refine wp_g e6 ?_
      refine wp_L ?_
      refine wp_g hC6.net ?_
      rw [n6]
      refine wp_e (cnodeX hN hC6.2.1 (by have := nds_b hN; omega)) ?_
      refine wp_b (cappendI (x := ndX N (nde N V e)) (by omega) t6 (by omega)) (fun r7 v7 hv => ?_)
      obtain ⟨e7, f7, t7⟩ := hv
      have f7 : FrB v5 v7 := f6.tr f7
      have t7 : TXc v7 (((strL 2009 ++ dg e) ++ strL 2011) ++ dg (ndX N (nde N V e))) := t7
      have l7 : (((strL 2009 ++ dg e) ++ strL 2011) ++ dg (ndX N (nde N V e))).length ≤ 16 := by rw [List.length_append]; have := dg_l4 (ndX N (nde N V e)); omega
      refine wp_g e7 ?_
      refine wp_b (cappendC (x := 44) (by decide) t7 (by omega)) (fun r8 v8 hv => ?_)
      obtain ⟨e8, f8, t8⟩ := hv
      have f8 : FrB v5 v8 := f7.tr f8
      have t8 : TXc v8 ((((strL 2009 ++ dg e) ++ strL 2011) ++ dg (ndX N (nde N V e))) ++ [44]) := t8
      have l8 : ((((strL 2009 ++ dg e) ++ strL 2011) ++ dg (ndX N (nde N V e))) ++ [44]).length ≤ 17 := by rw [List.length_append]; show _ + 1 ≤ 17; omega
      have hC8 := hC5.tx (fun d _ d1 d2 d3 => f8 d d1 d2 d3) t8
      have n8 : v8 30 1 = nde N V e := by rw [f8 30 (by decide) (by decide) (by decide)]; exact n5
      refine wp_g e8 ?_
      refine wp_L ?_
      refine wp_g hC8.net ?_
      rw [n8]
      refine wp_e (cnodeY hN hC8.2.1 (by have := nds_b hN; omega)) ?_
      refine wp_b (cappendI (x := ndY N (nde N V e)) (by omega) t8 (by omega)) (fun r9 v9 hv => ?_)
      obtain ⟨e9, f9, t9⟩ := hv
      have f9 : FrB v5 v9 := f8.tr f9
      have t9 : TXc v9 (((((strL 2009 ++ dg e) ++ strL 2011) ++ dg (ndX N (nde N V e))) ++ [44]) ++ dg (ndY N (nde N V e))) := t9
      have l9 : (((((strL 2009 ++ dg e) ++ strL 2011) ++ dg (ndX N (nde N V e))) ++ [44]) ++ dg (ndY N (nde N V e))).length ≤ 21 := by rw [List.length_append]; have := dg_l4 (ndY N (nde N V e)); omega
      refine wp_g e9 ?_
      refine wp_b (cappendS (k := 2013) (by decide) t9 (by rw [sl13]; omega) (by rw [sl13]; decide)) (fun r10 v10 hv => ?_)
      obtain ⟨e10, f10, t10⟩ := hv
      have f10 : FrB v5 v10 := f9.tr f10
      have t10 : TXc v10 ((((((strL 2009 ++ dg e) ++ strL 2011) ++ dg (ndX N (nde N V e))) ++ [44]) ++ dg (ndY N (nde N V e))) ++ strL 2013) := t10
      have l10 : ((((((strL 2009 ++ dg e) ++ strL 2011) ++ dg (ndX N (nde N V e))) ++ [44]) ++ dg (ndY N (nde N V e))) ++ strL 2013).length ≤ 27 := by rw [List.length_append, sl13]; omega
      have n10 : v10 30 0 = pk V e := by rw [f10 30 (by decide) (by decide) (by decide)]; exact n50
      refine wp_g e10 ?_
      rw [n10]
      refine wp_b (cappendI (x := pk V e) (by omega) t10 (by omega)) (fun r11 v11 hv => ?_)
      obtain ⟨e11, f11, t11⟩ := hv
      have f11 : FrB v5 v11 := f10.tr f11
      have t11 : TXc v11 (((((((strL 2009 ++ dg e) ++ strL 2011) ++ dg (ndX N (nde N V e))) ++ [44]) ++ dg (ndY N (nde N V e))) ++ strL 2013) ++ dg (pk V e)) := t11
      have l11 : (((((((strL 2009 ++ dg e) ++ strL 2011) ++ dg (ndX N (nde N V e))) ++ [44]) ++ dg (ndY N (nde N V e))) ++ strL 2013) ++ dg (pk V e)).length ≤ 29 := by rw [List.length_append]; have := dg_l2 (x := pk V e) (by omega); omega
      refine wp_g e11 ?_
      refine wp_b (cappendS (k := 2014) (by decide) t11 (by rw [sl14]; omega) (by rw [sl14]; decide)) (fun r12 v12 hv => ?_)
      obtain ⟨e12, f12, t12⟩ := hv
      have f12 : FrB v5 v12 := f11.tr f12
      have t12 : TXc v12 ((((((((strL 2009 ++ dg e) ++ strL 2011) ++ dg (ndX N (nde N V e))) ++ [44]) ++ dg (ndY N (nde N V e))) ++ strL 2013) ++ dg (pk V e)) ++ strL 2014) := t12
      have l12 : ((((((((strL 2009 ++ dg e) ++ strL 2011) ++ dg (ndX N (nde N V e))) ++ [44]) ++ dg (ndY N (nde N V e))) ++ strL 2013) ++ dg (pk V e)) ++ strL 2014).length ≤ 35 := by rw [List.length_append, sl14]; omega
      refine wp_g e12 ?_
      refine wp_g (by omega) ?_
      refine wp_i (fun cc => ?_) (fun cc => ?_)
      · refine wp_s ⟨?_, fun d d0 d1 d2 d3 d4 d5 => (f12 d d3 d4 d5).trans ((q5 d d0 d1 d2).trans (f3 d d3 d4 d5))⟩
        unfold dsc
        rw [if_neg h14, if_pos (by rw [hmed]; assumption)]; exact t12
      · have mb : 0 ≤ m ∧ m ≤ 99 := by
          have h2 : mc N V (nde N V e) e (m - 1) ≤ (pk V e - 1).tdiv 2 ∧ (pk V e - 1).tdiv 2 < mc N V (nde N V e) e m := k2
          have a1 := mc_lo (V := V) hN (n := nde N V e) (e := e)
          have a2 := mc_hi (V := V) hN (n := nde N V e) (e := e)
          have hq : (pk V e - 1).tdiv 2 = (pk V e - 1) / 2 := Int.tdiv_eq_ediv_of_nonneg (by omega)
          have lo : -1 ≤ m := by
            by_cases h : m ≤ -2
            · have := @mc_mono N V (nde N V e) e m (-2) h; omega
            · omega
          have hi : m ≤ 99 := by
            by_cases h : 100 ≤ m
            · have := @mc_mono N V (nde N V e) e 99 (m - 1) (by omega); omega
            · omega
          omega
        refine wp_b (cappendS (k := 2015) (by decide) t12 (by rw [sl15]; omega) (by rw [sl15]; decide)) (fun r13 v13 hv => ?_)
        obtain ⟨e13, f13, t13⟩ := hv
        have f13 : FrB v5 v13 := f12.tr f13
        refine wp_g e13 ?_
        refine wp_b (cappendI (x := m) (by omega) t13 (by rw [List.length_append, sl15]; omega)) (fun r14 v14 hv => ?_)
        obtain ⟨e14, f14, t14⟩ := hv
        have f14 : FrB v5 v14 := f13.tr f14
        refine wp_g e14 ?_
        refine wp_s ⟨?_, fun d d0 d1 d2 d3 d4 d5 => (f14 d d3 d4 d5).trans ((q5 d d0 d1 d2).trans (f3 d d3 d4 d5))⟩
        unfold dsc
        rw [if_neg h14, if_neg (by rw [hmed]; assumption), hmed]; exact t14
    refine wp_b main (fun r w hw => ?_)
    exact fin w hw.1 (fun d d0 d1 d2 d3 => hw.2 d (by unfold Scr at d0; omega) (by unfold Scr at d0; omega) (by unfold Scr at d0; omega) d1 d2 d3) (fun d d0 d1 => hw.2 d (by omega) (by omega) (by omega) (by omega) (by omega) (by omega))
end CE
