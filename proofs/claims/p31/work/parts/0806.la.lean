/-! class and law's network side by side: they agree -/
section LA
variable {u v w N V : uS} {U S : Int → uS} {f : Int → Int} {c L E : Int} {B : Int → Int} {D : List Int}
theorem CI.k (h : CI N V U S f c L E B D u) (hw : ∀ d, d < 264 → w d = u d) : CI N V U S f c L E B D w := by
  obtain ⟨h1, h2, h3, h4, h5, h6, h7, h8⟩ := h
  have n1 := net_at h2.1
  unfold CI
  rw [hw 0 (by omega)]
  refine ⟨h1, h2.row (fun j hj => hw _ (by omega)), h3.row (fun j hj => hw _ (by omega)), h4.row (hw _ (by omega)) (fun d d0 d1 => hw _ (by omega)), h5.row (hw _ (by omega)) (fun d d0 d1 => hw _ (by omega)), h6, ?_, rfl⟩
  rw [hw 1 (by omega)]; exact h7
theorem CI.mk (h : CI N V U S f c L E B D u) : mkOk u := by
  have := h.1
  unfold mkOk
  omega
theorem wp_0 {β : Type} {o : Option (Nat × Int × uS)} {k : Int → uS → Option β} {Q : β → Prop} {val : Int} (h : wp o (fun q => (q.1, q.2.1) = ((0 : Nat), val) ∧ FC u q.2.2 ∧ CI N V U S f c L E B D q.2.2)) (kk : ∀ w, FC u w → CI N V U S f c L E B D w → wp (k val w) Q) : wp (xb0 o k) Q := by
  obtain ⟨⟨g, r, w⟩, rfl, h1, h2, h3⟩ := h
  have hg : g = 0 := congrArg Prod.fst h1
  have hr : r = val := congrArg Prod.snd h1
  subst hg hr
  exact kk w h2 h3
/-- the class holds N, V; the law's network holds N, V -/
def AG (N V : uS) (U S : Int → uS) (f : Int → Int) (c L E : Int) (B : Int → Int) (D : List Int) (u : uS) : Prop := CI N V U S f c L E B D u ∧ LN u N ∧ LR N u V
theorem LN.k2 (h : LN u N) (hN : NWF N) (hw : ∀ c, 264 ≤ c → c < 354 → w c = u c) : LN w N := by
  obtain ⟨n0, -⟩ := hN
  unfold LN
  rw [hw 264 (by decide) (by decide), hw 265 (by decide) (by decide), hw 269 (by decide) (by decide), hw 270 (by decide) (by decide)]
  refine ⟨h.1, fun s s0 s1 => ?_, h.2.2⟩
  have := pc_e s0
  rw [hw (pc s) (by omega) (by omega)]
  exact h.2.1 s s0 s1
theorem LR.k2 (h : LR N u V) (hN : NWF N) (hV : WFb N V) (hw : ∀ c, 264 ≤ c → c < 354 → w c = u c) : LR N w V := by
  obtain ⟨n0, -⟩ := hN
  obtain ⟨b0, b1, b2, -⟩ := hV
  obtain ⟨h1, h2, h3, h4⟩ := h
  refine ⟨h1.fr n0.2 b1.2 b2.2 (fun c i hc => by rw [hw c (by unfold lcell at hc; omega) (by unfold lcell at hc; omega)]), fun s t s0 s1 => ?_, fun p => ?_, fun e => ?_⟩
  · have := pc_e s0
    rw [hw (pc s + 1) (by omega) (by omega)]
    exact h2 s t s0 s1
  · rw [hw 266 (by decide) (by decide)]; exact h3 p
  · rw [hw 267 (by decide) (by decide)]; exact h4 e
theorem AG.cl (h : AG N V U S f c L E B D u) (hP : PW N V U S f c L E B D) (h1 : FC u w) (h2 : CI N V U S f c L E B D w) : AG N V U S f c L E B D w :=
  ⟨h2, h.2.1.k2 hP.1 (fun d d0 d1 => h1 d (by omega) (Or.inr (by omega))), h.2.2.k2 hP.1 hP.2.1.1.1 (fun d d0 d1 => h1 d (by omega) (Or.inr (by omega)))⟩
theorem AG.l (h : AG N V U S f c L E B D u) (hP : PW N V U S f c L E B D) (hw : ∀ d, d < 354 → w d = u d) : AG N V U S f c L E B D w :=
  ⟨h.1.k (fun d d0 => hw d (by omega)), h.2.1.k2 hP.1 (fun d _ d1 => hw d d1), h.2.2.k2 hP.1 hP.2.1.1.1 (fun d _ d1 => hw d d1)⟩
theorem aSize {x y : Int} (h : AG N V U S f c L E B D u) (hP : PW N V U S f c L E B D) (hx : InR x) (e : rSize N V x = (0, y)) : wp (f_X9_size x u) (fun q => (q.1, q.2.1) = ((0 : Nat), y) ∧ FC u q.2.2 ∧ CI N V U S f c L E B D q.2.2) := by
  rw [← e]; exact cSize h.1 hP hx
theorem aStation {s x y : Int} (h : AG N V U S f c L E B D u) (hP : PW N V U S f c L E B D) (hs : InR s) (hx : InR x) (e : rStation N V s x = (0, y)) : wp (f_X9_station s x u) (fun q => (q.1, q.2.1) = ((0 : Nat), y) ∧ FC u q.2.2 ∧ CI N V U S f c L E B D q.2.2) := by
  rw [← e]; exact cStation h.1 hP hs hx
theorem aPick {s x y : Int} (h : AG N V U S f c L E B D u) (hP : PW N V U S f c L E B D) (hs : InR s) (hx : InR x) (e : rPick V s x = (0, y)) : wp (f_X9_pick s x u) (fun q => (q.1, q.2.1) = ((0 : Nat), y) ∧ FC u q.2.2 ∧ CI N V U S f c L E B D q.2.2) := by
  rw [← e]; exact cPick h.1 hP hs hx
theorem aFits {s x y : Int} (h : AG N V U S f c L E B D u) (hP : PW N V U S f c L E B D) (hs : InR s) (hx : InR x) (e : rFits N V s x = (0, y)) : wp (f_X9_fits s x u) (fun q => (q.1, q.2.1) = ((0 : Nat), y) ∧ FC u q.2.2 ∧ CI N V U S f c L E B D q.2.2) := by
  rw [← e]; exact cFits h.1 hP hs hx
theorem aEvent {s x y : Int} (h : AG N V U S f c L E B D u) (hP : PW N V U S f c L E B D) (hs : InR s) (hx : InR x) (e : rEvent N V s x = (0, y)) : wp (f_X9_event s x u) (fun q => (q.1, q.2.1) = ((0 : Nat), y) ∧ FC u q.2.2 ∧ CI N V U S f c L E B D q.2.2) := by
  rw [← e]; exact cEvent h.1 hP hs hx
theorem aMisfit {s x y : Int} (h : AG N V U S f c L E B D u) (hP : PW N V U S f c L E B D) (hs : InR s) (hx : InR x) (e : rMisfit N V s x = (0, y)) : wp (f_X9_misfit s x u) (fun q => (q.1, q.2.1) = ((0 : Nat), y) ∧ FC u q.2.2 ∧ CI N V U S f c L E B D q.2.2) := by
  rw [← e]; exact cMisfit h.1 hP hs hx
/-- what is due of a station -/
def dueS (N V : uS) (s x : Int) : Int := (rStation N V s x).2
/-- the events agree -/
theorem wag_events {j : Int → uS → Option (Int × uS)} (h : AG N V U S f c L E B D u) (hP : PW N V U S f c L E B D) (h16 : nds N ≤ 16)
    (hj : ∀ w, AG N V U S f c L E B D w → wp (j (lv V) w) (fun q => q.1 = 1 ∧ AG N V U S f c L E B D q.2)) : wp (xl3 (s_L_agrees_346 j) 21 0 0 u) (fun q => q.1 = 1 ∧ AG N V U S f c L E B D q.2) := by
  have hN := hP.1
  have hW := hP.2.1.1
  have hVb := hW.1
  have hV := hVb
  have hx := hW.2.2.2
  have n12 := hN.2.2.2.2.2.2.2.2.2.2.2.2.1
  have nb := nds_b hN
  obtain ⟨b0, b1, b2, bS, bI, bP, bE⟩ := hV
  refine wl3 (fun k e v => AG N V U S f c L E B D v ∧ 0 ≤ e ∧ e ≤ V 0 2 ∧ k = sg (fun e => if V 14 e = 1 then 0 else 1) e.toNat) (fun _ e _ => (V 0 2 - e).toNat) (fun go k e v hI hg => ?_) 21 _ _ _ ⟨h, by omega, by omega, rfl⟩ (by omega)
  obtain ⟨hA, e0, e1, rfl⟩ := hI
  have ee := hA.2.2.e
  unfold s_L_agrees_346
  rw [ee]
  refine wp_g (by omega) ?_
  refine wp_i (fun cc => ?_) (fun cc => ?_)
  · rw [show e = V 0 2 by omega]
    exact hj v hA
  · have he : 0 ≤ e ∧ e < V 0 2 := by omega
    have be := bE e he.1 he.2
    have ie : InR e := ⟨by omega, by omega⟩
    have pb := pk_b V e b1.1
    refine wp_g (by omega) ?_
    refine wp_0 (aEvent (y := V 14 e) hA hP ie (by decide) (by unfold rEvent; rw [if_pos he, if_pos rfl])) (fun w f1 c1 => ?_)
    have A1 := hA.cl hP f1 c1
    have r1 := A1.2.2.re he.1 he.2
    refine wp_g (by omega) ?_
    rw [r1]
    refine wp_g (by omega) ?_
    refine wp_l (fun j40 h40 => ?_)
    have J40 : wp (j40 (V 14 e) w) (fun q => q.1 = 1 ∧ AG N V U S f c L E B D q.2) := by
      rw [h40]
      refine wp_g (by omega) ?_
      refine wp_t rfl ?_
      refine wp_0 (aEvent (y := pk V e) A1 hP ie (by decide) (by unfold rEvent; rw [if_pos he, if_neg (by decide), if_pos rfl])) (fun w2 f2 c2 => ?_)
      have A2 := A1.cl hP f2 c2
      refine wp_e (qsize hVb A2.2.2 ie) ?_
      refine wp_g (by omega) ?_
      refine wp_t rfl ?_
      refine wp_0 (aEvent (y := V 13 e) A2 hP ie (by decide) (by unfold rEvent; rw [if_pos he, if_neg (by decide), if_neg (by decide), if_pos rfl])) (fun w3 f3 c3 => ?_)
      have A3 := A2.cl hP f3 c3
      have r3 := A3.2.2.re he.1 he.2
      have d3 := A3.2.2.dc he.1 he.2
      refine wp_g (by omega) ?_
      rw [d3, r3]
      refine wp_g (by omega) ?_
      refine wp_t rfl ?_
      refine wp_g (by omega) ?_
      refine wp_g (by omega) ?_
      refine wp_l (fun j58 h58 => ?_)
      have J58 : ∀ n w4, AG N V U S f c L E B D w4 → (V 14 e = 0 → n = nde N V e) → (V 14 e = 1 → n = -1) → wp (j58 n w4) (fun q => q.1 = 1 ∧ AG N V U S f c L E B D q.2) := fun n w4 A4 hn0 hn1 => by
        have nd := nde_b (V := V) hN e
        have in1 : InR n := by
          have : V 14 e = 0 ∨ V 14 e = 1 := by omega
          rcases this with q | q
          · rw [hn0 q]; exact ⟨by omega, by omega⟩
          · rw [hn1 q]; decide
        rw [h58]
        refine wp_0 (aEvent (y := n) A4 hP ie (by decide) (by
          unfold rEvent
          rw [if_pos he, if_neg (by decide), if_neg (by decide), if_neg (by decide), if_neg (by decide)]
          by_cases q : V 14 e = 1
          · rw [if_pos q, hn1 q]
          · rw [if_neg q, if_pos rfl, hn0 (by omega)])) (fun w5 f5 c5 => ?_)
        have A5 := A4.cl hP f5 c5
        have r5 := A5.2.2.re he.1 he.2
        refine wp_g ⟨in1, in1⟩ ?_
        refine wp_t rfl ?_
        refine wp_g (by omega) ?_
        rw [r5]
        refine wp_g (by omega) ?_
        refine wp_i (fun cc => ?_) (fun cc => ?_)
        · have h14 : V 14 e = 0 := by assumption
          have hn := hn0 h14
          subst hn
          have p1 : 1 ≤ pk V e := by have := hx e he.1 he.2 h14; omega
          have ob := org_b hN hVb (nde N V e) e p1
          have mb : 0 ≤ msf N V (nde N V e) e ∧ msf N V (nde N V e) e ≤ 300000000 := msf_b hN hVb (nde N V e) e p1 (i := V 0 1) (by omega)
          refine wp_b (wfitAt hN A5.2.1 hVb A5.2.2 A5.1.mk nd ie p1) (fun r w6 h6 => ?_)
          obtain ⟨g1, g2, g3, g4⟩ := h6
          have g3 : w6 354 0 = org N V (nde N V e) e := g3
          have g4 : w6 354 1 = msf N V (nde N V e) e := g4
          have A6 : AG N V U S f c L E B D w6 := A5.l hP (fun d hd => g2 d (by omega))
          refine wp_g g1 ?_
          have no : ¬ V 14 e = 1 := by omega
          refine wp_0 (aEvent (y := org N V (nde N V e) e) A6 hP ie (by decide) (by unfold rEvent; rw [if_pos he, if_neg (by decide), if_neg (by decide), if_neg (by decide), if_neg (by decide), if_neg no, if_neg (by decide), if_pos rfl])) (fun w7 f7 c7 => ?_)
          have A7 := A6.cl hP f7 c7
          have k7 : w7 354 = w6 354 := f7 354 (by decide) (Or.inr (by decide))
          rw [k7, g3]
          refine wp_g (by omega) ?_
          refine wp_t rfl ?_
          refine wp_0 (aEvent (y := msf N V (nde N V e) e) A7 hP ie (by decide) (by unfold rEvent; rw [if_pos he, if_neg (by decide), if_neg (by decide), if_neg (by decide), if_neg (by decide), if_neg no, if_neg (by decide), if_neg (by decide), if_pos rfl])) (fun w8 f8 c8 => ?_)
          have A8 := A7.cl hP f8 c8
          have k8 : w8 354 = w6 354 := (f8 354 (by decide) (Or.inr (by decide))).trans k7
          rw [k8, g4]
          refine wp_g (by omega) ?_
          refine wp_t rfl ?_
          refine wp_0 (aMisfit (y := msf N V (nde N V e) e) A8 hP ⟨by omega, by omega⟩ ie (by unfold rMisfit; rw [if_pos ⟨nd, he⟩, if_neg no])) (fun w9 f9 c9 => ?_)
          have A9 := A8.cl hP f9 c9
          have k9 : w9 354 = w6 354 := (f9 354 (by decide) (Or.inr (by decide))).trans k8
          rw [k9, g4]
          refine wp_g (by omega) ?_
          refine wp_t rfl ?_
          refine wp_0 (aEvent (y := med N V (nde N V e) e) A9 hP ie (by decide) (by unfold rEvent; rw [if_pos he, if_neg (by decide), if_neg (by decide), if_neg (by decide), if_neg (by decide), if_neg no, if_neg (by decide), if_neg (by decide), if_neg (by decide)])) (fun w10 f10 c10 => ?_)
          have A10 := A9.cl hP f10 c10
          refine wp_b (wmagnitude hN A10.2.1 hVb A10.2.2 A10.1.mk nd ie p1) (fun m w11 h11 => ?_)
          obtain ⟨m1, m2, m3⟩ := h11
          have m1 : isMed N V (nde N V e) e m := m1
          have A11 : AG N V U S f c L E B D w11 := A10.l hP (fun d hd => m3 d (by omega))
          rw [med_eq m1]
          refine wp_g ⟨m2, m2⟩ ?_
          refine wp_t rfl ?_
          refine hg _ _ _ ⟨A11, by omega, by omega, ?_⟩ (by omega)
          rw [sg_s e0]
          show _ = _ + (if V 14 e = 1 then (0 : Int) else 1)
          rw [if_neg no]
        · refine hg _ _ _ ⟨A5, by omega, by omega, ?_⟩ (by omega)
          rw [sg_s e0]
          show _ = _ + (if V 14 e = 1 then (0 : Int) else 1)
          rw [if_pos (by omega)]; omega
      refine wp_i (fun cc => ?_) (fun cc => ?_)
      · have p1 : 1 ≤ pk V e := by have := hx e he.1 he.2 (by assumption); omega
        refine wp_b (wnode hN A3.2.1 hVb A3.2.2 A3.1.mk h16 ie p1) (fun r w4 h4 => ?_)
        exact J58 r w4 (A3.l hP (fun d hd => h4.2 d (by omega))) (fun _ => h4.1) (fun q => by omega)
      · exact J58 (-1) w3 A3 (fun q => by contradiction) (fun _ => rfl)
    refine wp_i (fun cc => ?_) (fun cc => ?_)
    · have := J40
      rw [show V 14 e = 0 by assumption] at this
      exact this
    · have := J40
      rw [show V 14 e = 1 by omega] at this
      exact this
end LA
