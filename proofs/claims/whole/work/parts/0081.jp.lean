/-! pure part, 51: class and reference side by side: append, parse, describe; a call in one -/
section JP
variable {u N V : uS} {U S : Int → uS} {f : Int → Int} {c L E : Int} {B : Int → Int} {D : List Int}
theorem wb5_b {x1 x2 x3 x4 x5 : Int} (h : ∀ j, 0 ≤ j → j < L → 0 ≤ B j ∧ B j < 256) (hL : 0 ≤ L) : ∀ j, 0 ≤ j → j < L + 20 → 0 ≤ wb5 B L x1 x2 x3 x4 x5 j ∧ wb5 B L x1 x2 x3 x4 x5 j < 256 := by
  have a1 := @wbk_b B L x1 4 h
  have a2 := @wbk_b (wbk B L x1 4) (L + 4) x2 4 (fun j j0 j1 => a1 j j0 (by omega))
  have a3 := @wbk_b (wbk (wbk B L x1 4) (L + 4) x2 4) (L + 8) x3 4 (fun j j0 j1 => a2 j j0 (by omega))
  have a4 := @wbk_b (wbk (wbk (wbk B L x1 4) (L + 4) x2 4) (L + 8) x3 4) (L + 12) x4 4 (fun j j0 j1 => a3 j j0 (by omega))
  have a5 := @wbk_b (wbk (wbk (wbk (wbk B L x1 4) (L + 4) x2 4) (L + 8) x3 4) (L + 12) x4 4) (L + 16) x5 4 (fun j j0 j1 => a4 j j0 (by omega))
  intro j j0 j1
  exact a5 j j0 (by omega)
theorem pw_buf {L2 : Int} {B2 : Int → Int} {E2 : Int} (hP : PW N V U S f c L E B D) (hL : 0 ≤ L2 ∧ L2 ≤ 500) (hB : ∀ j, 0 ≤ j → j < L2 → 0 ≤ B2 j ∧ B2 j < 256) (hE : -1 ≤ E2 ∧ E2 ≤ 500) : PW N V U S f c L2 E2 B2 D := by
  obtain ⟨a, b, d, e, -, -, -, g⟩ := hP
  exact ⟨a, b, d, e, hL, hB, hE, g⟩
theorem jAppend {x1 x2 x3 x4 x5 : Int} (h : JI u) (h1 : InR x1) (h2 : InR x2) (h3 : InR x3) (h4 : InR x4) (h5 : InR x5) : JS0 (f_X9_append x1 x2 x3 x4 x5 u) (f_X10_append x1 x2 x3 x4 x5) := by
  obtain ⟨N, V, U, S, f, c, L, E, B, D, hC, hM, hP⟩ := h
  have hL := hP.2.2.2.2.1
  by_cases hl : L + 20 ≤ 500
  · exact jg0 (R := L + 20) hM (pw_buf hP (L2 := L + 20) (B2 := wb5 B L x1 x2 x3 x4 x5) (E2 := E) (by omega) (wb5_b hP.2.2.2.2.2.1 hL.1) hP.2.2.2.2.2.2.1) (cAppend hC hP h1 h2 h3 h4 h5 hl) (fun w hw => mAppend hw hP h1 h2 h3 h4 h5 hl)
  · exact jg0 (R := -1) hM hP (eq_wp (cAppendN hC hP hl) ⟨rfl, FC.rf, hC⟩) (fun w hw => eq_wp (mAppendN hw hP hl) ⟨rfl, FM.t 0, hw.t 0⟩)
/-- signs -/
def AC (l : List Int) : Prop := ∀ x ∈ l, 0 ≤ x ∧ x < 128
theorem AC.app {a b : List Int} (h : AC a) (h2 : AC b) : AC (a ++ b) := fun x hx => by
  rcases List.mem_append.mp hx with h3 | h3
  · exact h x h3
  · exact h2 x h3
theorem AC.str {k : Nat} (hk : k < 16) : AC (strL (2000 + k)) := fun x hx => strL_b k hk x (by
  have e : strL (2000 + k) = gStr.getD k [] := by unfold strL; rw [show 2000 + k - 2000 = k by omega]
  rw [e] at hx; exact hx)
theorem dsc_b {e : Int} (hM : MI N V U S f c L E B D u) (hP : PW N V U S f c L E B D) (he : 0 ≤ e ∧ e < V 0 2) : (dsc N V e).length ≤ 60 ∧ AC (dsc N V e) := by
  have hN := hP.1
  have hVb := hP.2.1.1.1
  have b2 := hVb.2.2.1
  have b1 := hVb.2.1
  have le := dg_l2 (x := e) (by omega)
  have ae : AC (dg e) := dg_b (by omega)
  unfold dsc
  by_cases h14 : V 14 e = 1
  · rw [if_pos h14]
    refine ⟨?_, (AC.str (k := 9) (by decide)).app ae |>.app (AC.str (k := 10) (by decide))⟩
    rw [List.length_append, List.length_append, sl9, sl10]; omega
  · rw [if_neg h14]
    have nb := nde_b (V := V) hN e
    have xb := ndX_b hN nb.1
    have yb := ndY_b hN nb.1 nb.2
    have hpk := pk_1 hN hP.2.1.1 he h14
    have pb := pk_b V e (by omega)
    have lx := dg_l4 (ndX N (nde N V e))
    have ly := dg_l4 (ndY N (nde N V e))
    have lp := dg_l2 (x := pk V e) (by omega)
    have ax : AC (dg (ndX N (nde N V e))) := dg_b (by omega)
    have ay : AC (dg (ndY N (nde N V e))) := dg_b (by omega)
    have ap : AC (dg (pk V e)) := dg_b (by omega)
    have ac : AC [44] := fun x hx => by
      have : x = 44 := List.mem_singleton.mp hx
      omega
    have base : AC (((((((strL 2009 ++ dg e) ++ strL 2011) ++ dg (ndX N (nde N V e))) ++ [44]) ++ dg (ndY N (nde N V e))) ++ strL 2013 ++ dg (pk V e)) ++ strL 2014) :=
      (((((((AC.str (k := 9) (by decide)).app ae).app (AC.str (k := 11) (by decide))).app ax).app ac).app ay).app (AC.str (k := 13) (by decide))).app ap |>.app (AC.str (k := 14) (by decide))
    have lb : (((((((strL 2009 ++ dg e) ++ strL 2011) ++ dg (ndX N (nde N V e))) ++ [44]) ++ dg (ndY N (nde N V e))) ++ strL 2013 ++ dg (pk V e)) ++ strL 2014).length ≤ 40 := by
      simp only [List.length_append, sl9, sl11, sl13, sl14, List.length_singleton]; omega
    by_cases hm : med N V (nde N V e) e = -1
    · rw [if_pos hm]
      exact ⟨by omega, base⟩
    · rw [if_neg hm]
      obtain ⟨⟨r, w⟩, -, -, hr, r1, r2⟩ := wmagnitudeOf (u := u) (n := nde N V e) (e := e) hN hM.1 hVb hM.2.1 nb (by omega) hpk
      have r1 : -1 ≤ r := r1
      have r2 : r ≤ 99 := r2
      have em : med N V (nde N V e) e = r := med_eq hr
      have lm := dg_l2 (x := r) (by omega)
      have am : AC (dg r) := dg_b (by omega)
      rw [em]
      refine ⟨?_, (base.app (AC.str (k := 15) (by decide))).app am⟩
      rw [List.length_append, List.length_append, sl15]; omega
theorem jDescribe {e : Int} (h : JI u) (he : InR e) : JS (f_X9_describe e u) (f_X10_describe e) okI := by
  obtain ⟨N, V, U, S, f, c, L, E, B, D, hC, hM, hP⟩ := h
  by_cases h1 : 0 ≤ e ∧ e < V 0 2
  · refine jg (k := 0) (R := (0, ((dsc N V e).length : Int))) hM (D' := dsc N V e) ?_ (Or.inl ⟨rfl, rfl⟩) (cDescribe hC hP he h1) (fun w hw => wp_w (mDescribe hw hP h1) (fun q hq => ⟨hq.1, fun _ => hq.2.1, hq.2.2⟩))
    have hd := dsc_b hM hP h1
    obtain ⟨a, b, d, e', hl, hB, hE, -⟩ := hP
    exact ⟨a, b, d, e', hl, hB, hE, hd.1, hd.2⟩
  · exact jth (g := 1) (k := 1) hC hM hP (Or.inr ⟨rfl, rfl⟩) (by decide) (cDescribeN hC hP he h1) (fun w hw => mDescribeN hw hP he h1)
theorem mpos_b {x K : Int} {ks ss ls vs : Int → Int} (hT : TD B x K ks ss ls vs) (hx : 0 ≤ x ∧ x ≤ 500) {p : Int} (hp : 0 ≤ p) : 0 ≤ mpos x K ss p ∧ mpos x K ss p ≤ 500 := by
  unfold mpos
  by_cases h : p < K
  · have := (td_f hT ⟨hp, h⟩).1
    rw [if_pos h]; omega
  · rw [if_neg h]; omega
theorem mrun_p {ks vs sr : Int → Int} : ∀ (d : Nat) (j s ic : Int) (it ct : Int → Int) (M : uS), j ≤ (mrun ks vs sr d j s ic it ct M).2.1 := by
  intro d
  induction d with
  | zero => intro j s ic it ct M; exact Int.le_refl _
  | succ d ih =>
    intro j s ic it ct M
    show j ≤ (if s = -1 then (if sr j = -1 then (1, j, M) else if ct (sr j) < MST (sr j) then mrun ks vs sr d (j + 1) (sr j) 0 it (ctu ct (sr j)) M else (if MST (sr j) = 1 then 2 else 4, j, M))
      else if ITM s ≤ ic then (if ks j = 3 then mrun ks vs sr d (j + 1) (-1) ic it ct (fin M s it) else (1, j, M))
      else if ks j = 2 then (if lo M s ic it ≤ vs j ∧ vs j ≤ hi s ic it then mrun ks vs sr d (j + 1) s (ic + 1) (itu it ic (vs j)) ct M else (3, j, M)) else (1, j, M) : Int × Int × uS).2.1
    repeat' split
    all_goals first | exact Int.le_refl _ | exact Int.le_trans (by omega) (ih _ _ _ _ _ _)
theorem jParse {x : Int} (h : JI u) (hx : InR x) : JS (f_X9_parse x u) (f_X10_parse x) okA := by
  obtain ⟨N, V, U, S, f, c, L, E, B, D, hC, hM, hP⟩ := h
  by_cases h1 : 0 ≤ x ∧ x ≤ L
  · have hL := hP.2.2.2.2.1
    refine wp_w (cparse hC hP h1) (fun q hq => ?_)
    obtain ⟨g0, hF, hb, K, ks, ss, ls, vs, hT, hr, he, hs⟩ := hq
    refine ⟨0, Or.inl ⟨g0, rfl⟩, fun w hw => ?_⟩
    have hMw : MI N V U S f c L E B D w := (hM.fc hF).fc (fun d d0 d1 => hw d (by omega))
    refine wp_w (wparse hMw hP h1 hT) (fun p hp => ?_)
    obtain ⟨a0, aF, a1, a2, a3⟩ := hp
    refine ⟨a0, fun _ => a1.trans hr.symm, aF 39 (by decide), ?_⟩
    by_cases hz : q.2.1 = 0
    · obtain ⟨hW, hC2⟩ := hs hz
      have hC3 := (hC2.sc (w := w) (fun d hd => hw d (by unfold Scr at hd; omega))).fm aF
      have hM3 := a3 (by rw [← hr]; exact hz)
      refine ⟨_, _, _, _, _, _, _, _, _, _, hC3, hM3, ?_⟩
      obtain ⟨-, -, ⟨d, d2⟩, -, -, -, -, g⟩ := hP
      exact ⟨hW, ⟨zV_w, by decide⟩, ⟨⟨by decide, fun j j0 j1 => by omega⟩, fun j j0 j1 => by omega⟩, ⟨fun s s0 s1 => ⟨Or.inl rfl, fun h => absurd (show (0 : Int) = 1 from h) (by decide)⟩, fun s s0 s1 h => absurd (show (0 : Int) = 1 from h) (by decide)⟩, by decide, fun j j0 j1 => by omega, by decide, g⟩
    · have hC2 := he hz
      have hC3 := (hC2.sc (w := w) (fun d hd => hw d (by unfold Scr at hd; omega))).fm aF
      have hM3 := a2 (by rw [← hr]; exact hz)
      have hp0 : 0 ≤ (mR B K ks ss ls vs).2.1 := mrun_p _ _ _ _ _ _ _
      have hpb := mpos_b hT (by omega) hp0
      exact ⟨N, V, U, S, f, c, 0, _, B, D, hC3, hM3, pw_buf hP (by decide) (fun j j0 j1 => by omega) (by omega)⟩
  · exact jth (g := 2) (k := 1) hC hM hP (Or.inr ⟨rfl, rfl⟩) (by decide) (cparseN hC hP hx h1) (fun w hw => wparseN hw hP hx h1)
end JP
