/-! pure part, 24: the class's events, descriptions, changes -/
/-- what is said of an event -/
noncomputable def dsc (N V : uS) (e : Int) : List Int :=
  if V 14 e = 1 then (strL 2009 ++ dg e) ++ strL 2010
  else if med N V (nde N V e) e = -1 then ((((((strL 2009 ++ dg e) ++ strL 2011) ++ dg (ndX N (nde N V e))) ++ [44]) ++ dg (ndY N (nde N V e))) ++ strL 2013 ++ dg (pk V e)) ++ strL 2014
  else (((((((strL 2009 ++ dg e) ++ strL 2011) ++ dg (ndX N (nde N V e))) ++ [44]) ++ dg (ndY N (nde N V e))) ++ strL 2013 ++ dg (pk V e)) ++ strL 2014) ++ strL 2015 ++ dg (med N V (nde N V e) e)
theorem dg_l4 (x : Int) : 1 ≤ (dg x).length ∧ (dg x).length ≤ 4 := by
  rw [dg_len]
  split
  · decide
  · split
    · decide
    · split <;> decide
theorem dg_l2 {x : Int} (h : x < 100) : (dg x).length ≤ 2 := by
  rw [dg_len]
  (repeat' split) <;> omega
section CE
variable {u N V : uS} {U S : Int → uS} {f : Int → Int} {c L E : Int} {B : Int → Int} {D : List Int}
/-- a standing event has a pick -/
theorem pk_1 (hN : NWF N) (hV : WFc N V) {e : Int} (he : 0 ≤ e ∧ e < V 0 2) (h : ¬ V 14 e = 1) : 1 ≤ pk V e := by
  have be := hV.1.2.2.2.2.2.2 e he.1 he.2
  have := hV.2.2.2 e he.1 he.2 (by omega)
  have := hN.2.2.2.2.2.2.2.2.2.2.2.2.1
  omega
theorem cEvent {e x : Int} (hC : CI N V U S f c L E B D u) (hP : PW N V U S f c L E B D) (he : InR e) (hx : InR x) : wp (f_X9_event e x u) (fun q => (q.1, q.2.1) = rEvent N V e x ∧ FC u q.2.2 ∧ CI N V U S f c L E B D q.2.2) := by
  have hN := hP.1
  have hV := hP.2.1.1
  have hVb := hV.1
  have b2 := hVb.2.2.1
  have hM := hC.2.2.1.2.1
  unfold f_X9_event
  refine wp_bt_if (cneedEvent hC hVb he) (by decide) (fun h1 => ?_) (fun h1 => cq0 hC (by unfold rEvent; rw [if_neg h1]))
  have be := hVb.2.2.2.2.2.2 e h1.1 h1.2
  have r14 : u 68 e = V 14 e := hM.re h1.1 h1.2
  refine wp_g (by omega) ?_
  have no : rEvent N V e x = (if x = 0 then (0, V 14 e) else if x = 1 then (0, pk V e) else if x = 2 then (0, V 13 e) else if x < 0 ∨ 6 < x then (2, 0) else if V 14 e = 1 then (0, -1) else if x = 3 then (0, nde N V e) else if x = 4 then (0, org N V (nde N V e) e) else if x = 5 then (0, msf N V (nde N V e) e) else (0, med N V (nde N V e) e)) := if_pos h1
  rw [no]
  -- where an event is located
  have loc : ∀ y : Int, 3 ≤ y → y ≤ 6 → ¬ V 14 e = 1 → ∀ R : Nat × Int, R = (if y = 3 then (0, nde N V e) else if y = 4 then (0, org N V (nde N V e) e) else if y = 5 then (0, msf N V (nde N V e) e) else (0, med N V (nde N V e) e)) → wp (xbd (f_X9_located e y u) fun v w => some ((0 : Nat), v, w)) (fun q => (q.1, q.2.1) = R ∧ FC u q.2.2 ∧ CI N V U S f c L E B D q.2.2) := by
    intro y y0 y1 h14 R hR
    have hpk := pk_1 hN hV h1 h14
    have nn := net_at hC.net
    have main : wp (f_X9_located e y u) (fun q => ((0 : Nat), q.1) = R ∧ ∀ d, d ≠ 30 → d ≠ 31 → d ≠ 32 → q.2 d = u d) := by
      unfold f_X9_located
      refine wp_L ?_
      refine wp_g hC.net ?_
      refine wp_b (clocate hN hC.2.1 hVb hC.2.2.1.1 hM he hpk) (fun r v hv => ?_)
      obtain ⟨v1, v2, v3, v4, v5⟩ := hv
      have v1 : ∀ c, c ≠ 30 → c ≠ 31 → v c = u c := v1
      have v2 : Gat V v e := v2
      have v3 : v 30 1 = nde N V e := v3
      have hC2 : CI N V U S f c L E B D v := hC.sc (fun d hd => v1 d (by unfold Scr at hd; omega) (by unfold Scr at hd; omega))
      refine wp_g (by omega) ?_
      have hy : y = 3 ∨ y = 4 ∨ y = 5 ∨ y = 6 := by omega
      rcases hy with rfl | rfl | rfl | rfl
      · refine wp_f (by omega) ?_
        refine wp_t (by omega) ?_
        exact wp_s ⟨by rw [hR, show v 30 1 = nde N V e from v3]; rfl, fun d d0 d1 d2 => v1 d d0 d1⟩
      · refine wp_f (by omega) ?_
        refine wp_f (by omega) ?_
        refine wp_t (by omega) ?_
        exact wp_s ⟨by rw [hR, show v 30 2 = org N V (nde N V e) e from v4]; rfl, fun d d0 d1 d2 => v1 d d0 d1⟩
      · refine wp_f (by omega) ?_
        refine wp_f (by omega) ?_
        refine wp_f (by omega) ?_
        refine wp_t (by omega) ?_
        exact wp_s ⟨by rw [hR, show v 30 3 = msf N V (nde N V e) e from v5]; rfl, fun d d0 d1 d2 => v1 d d0 d1⟩
      · refine wp_t (by omega) ?_
        refine wp_L ?_
        refine wp_g hC2.net ?_
        refine wp_b (cmagnitude hN hC2.2.1 hVb hC2.2.2.1.1 hC2.2.2.1.2.1 v2 (by rw [v3]; exact nde_b hN e) hpk) (fun r w hw => wp_s ⟨?_, fun d d0 d1 d2 => (hw.1 d d2).trans (v1 d d0 d1)⟩)
        have hm := hw.2.1
        rw [v3] at hm
        show (0, r) = R
        rw [hR, med_eq hm]; rfl
    refine wp_b main (fun r w hw => ?_)
    exact cq1 hC hw.1 hw.2
  refine wp_i (fun cc => ?_) (fun cc => ?_)
  · refine cq0 hC ?_
    rw [if_neg (by omega), if_neg (by omega), if_neg (by omega), if_pos (by omega)]
  · have h7 : x = 0 ∨ x = 1 ∨ x = 2 ∨ x = 3 ∨ x = 4 ∨ x = 5 ∨ x = 6 := by omega
    rcases h7 with rfl | rfl | rfl | rfl | rfl | rfl | rfl
    · refine wp_t (by omega) ?_
      refine wp_g (by omega) ?_
      exact cq0 hC (by rw [r14]; rfl)
    · refine wp_f (by omega) ?_
      refine wp_t (by omega) ?_
      refine wp_e (cpicksOf hVb hC.2.2.1.1 hM he) ?_
      exact cq0 hC rfl
    · refine wp_f (by omega) ?_
      refine wp_f (by omega) ?_
      refine wp_t (by omega) ?_
      refine wp_g (by omega) ?_
      exact cq0 hC (by rw [show u 67 e = V 13 e from hM.dc h1.1 h1.2]; rfl)
    · refine wp_f (by omega) ?_
      refine wp_f (by omega) ?_
      refine wp_f (by omega) ?_
      refine wp_t (by omega) ?_
      refine wp_g (by omega) ?_
      refine wp_g (by omega) ?_
      rw [r14]
      by_cases h14 : V 14 e = 1
      · rw [if_pos h14]
        exact cq0 hC (by rw [if_pos h14]; rfl)
      · rw [if_neg h14]
        exact loc 3 (by decide) (by decide) h14 _ (by rw [if_neg h14]; rfl)
    · refine wp_f (by omega) ?_
      refine wp_f (by omega) ?_
      refine wp_f (by omega) ?_
      refine wp_f (by omega) ?_
      refine wp_t (by omega) ?_
      refine wp_g (by omega) ?_
      refine wp_g (by omega) ?_
      rw [r14]
      by_cases h14 : V 14 e = 1
      · rw [if_pos h14]
        exact cq0 hC (by rw [if_pos h14]; rfl)
      · rw [if_neg h14]
        exact loc 4 (by decide) (by decide) h14 _ (by rw [if_neg h14]; rfl)
    · refine wp_f (by omega) ?_
      refine wp_f (by omega) ?_
      refine wp_f (by omega) ?_
      refine wp_f (by omega) ?_
      refine wp_f (by omega) ?_
      refine wp_t (by omega) ?_
      refine wp_g (by omega) ?_
      refine wp_g (by omega) ?_
      rw [r14]
      by_cases h14 : V 14 e = 1
      · rw [if_pos h14]
        exact cq0 hC (by rw [if_pos h14]; rfl)
      · rw [if_neg h14]
        exact loc 5 (by decide) (by decide) h14 _ (by rw [if_neg h14]; rfl)
    · refine wp_f (by omega) ?_
      refine wp_f (by omega) ?_
      refine wp_f (by omega) ?_
      refine wp_f (by omega) ?_
      refine wp_f (by omega) ?_
      refine wp_f (by omega) ?_
      refine wp_t (by omega) ?_
      refine wp_g (by omega) ?_
      refine wp_g (by omega) ?_
      rw [r14]
      by_cases h14 : V 14 e = 1
      · rw [if_pos h14]
        exact cq0 hC (by rw [if_pos h14]; rfl)
      · rw [if_neg h14]
        exact loc 6 (by decide) (by decide) h14 _ (by rw [if_neg h14]; rfl)
theorem CI.tx {w : uS} {D2 : List Int} (h : CI N V U S f c L E B D u) (hw : ∀ d, ¬ Scr d → d ≠ 37 → d ≠ 38 → d ≠ 1000 → w d = u d) : CI N V U S f c L E B D2 w := by
  obtain ⟨h1, h2, h3, h4, h5, h6, h7, h8⟩ := h
  have n1 := net_at h2.1
  unfold Scr at hw
  unfold CI
  rw [hw 0 (by omega) (by omega) (by omega) (by omega)]
  refine ⟨h1, h2.row (fun j hj => hw _ (by omega) (by omega) (by omega) (by omega)), h3.row (fun j hj => hw _ (by omega) (by omega) (by omega) (by omega)), h4.row (hw _ (by omega) (by omega) (by omega) (by omega)) (fun d d0 d1 => hw _ (by omega) (by omega) (by omega) (by omega)), h5.row (hw _ (by omega) (by omega) (by omega) (by omega)) (fun d d0 d1 => hw _ (by omega) (by omega) (by omega) (by omega)), h6, ?_, rfl⟩
  rw [hw 1 (by omega) (by omega) (by omega) (by omega)]; exact h7
end CE
