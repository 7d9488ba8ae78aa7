/-! the law's network: stores; retracting and muting -/
/-- the cells that tell the network -/
def ncell (c : Nat) (i : Int) : Prop := (c = 264 ∧ (i = 6 ∨ 10 ≤ i)) ∨ c = 265 ∨ c = 269 ∨ c = 270 ∨ (271 ≤ c ∧ c < 287 ∧ c % 2 = 1 ∧ (i = 0 ∨ i = 1))
def prot (c : Nat) (i : Int) : Prop := c < 264 ∨ 356 ≤ c ∨ ncell c i
def FRn (u w : uS) : Prop := ∀ c i, prot c i → w c i = u c i
section LM
variable {u v w N V : uS}
theorem FRn.rf : FRn u u := fun _ _ _ => rfl
theorem FRn.tr (h : FRn u v) (h2 : FRn v w) : FRn u w := fun c i hp => (h2 c i hp).trans (h c i hp)
theorem FRn.st (h : FRn u v) {c : Nat} {i x : Int} (hw : w = up v c i x) (hp : ¬ prot c i) : FRn u w := fun d k hq => by
  subst hw
  refine (up_n ?_).trans (h d k hq)
  by_cases h1 : d = c
  · by_cases h2 : k = i
    · subst h1 h2; exact absurd hq hp
    · exact Or.inr h2
  · exact Or.inl h1
theorem FRn.stA (h : FRn u v) {c : Nat} {f : Int → Int} (hw : w = upA v c f) (hp : 287 ≤ c ∧ c < 356) : FRn u w := fun d k hq => by
  subst hw
  refine (upA_k ?_).trans (h d k hq)
  unfold prot ncell at hq
  omega
theorem FRn.lk (h : FRn u v) (hw : ∀ c, ¬ (c = 292 ∨ c = 293 ∨ c = 354 ∨ c = 355) → w c = v c) : FRn u w := fun d k hq => by
  refine (congrFun (hw d ?_) k).trans (h d k hq)
  unfold prot ncell at hq
  omega
theorem FRn.mk (h : FRn u w) (hk : mkOk u) : mkOk w := by
  unfold mkOk
  rw [h 0 4 (Or.inl (by decide)), h 0 5 (Or.inl (by decide))]
  exact hk
theorem FRn.c (h : FRn u w) {c : Nat} (hc : c < 264 ∨ 356 ≤ c) : w c = u c := by
  funext i
  exact h c i (hc.imp id Or.inl)
theorem LN.fr (h : LN u N) (hN : NWF N) (hw : FRn u w) : LN w N := by
  obtain ⟨n0, -⟩ := hN
  have e : ∀ i, (i = 6 ∨ 10 ≤ i) → w 264 i = u 264 i := fun i hi => hw 264 i (Or.inr (Or.inr (Or.inl ⟨rfl, hi⟩)))
  unfold LN
  rw [e 6 (by decide), e 10 (by decide), e 11 (by decide), e 12 (by decide), e 13 (by decide), e 14 (by decide), e 15 (by decide), e 16 (by decide), e 17 (by decide), e 18 (by decide), e 19 (by decide), e 20 (by decide), e 21 (by decide), e 22 (by decide), e 23 (by decide)]
  refine ⟨h.1, fun s s0 s1 => ?_, fun r r0 r1 => ?_⟩
  · have := pc_e s0
    rw [hw 265 s (Or.inr (Or.inr (Or.inr (Or.inl rfl)))), hw (pc s) 0 (Or.inr (Or.inr (Or.inr (Or.inr (Or.inr (Or.inr (by omega))))))), hw (pc s) 1 (Or.inr (Or.inr (Or.inr (Or.inr (Or.inr (Or.inr (by omega)))))))]
    exact h.2.1 s s0 s1
  · rw [hw 269 r (Or.inr (Or.inr (Or.inr (Or.inr (Or.inl rfl))))), hw 270 r (Or.inr (Or.inr (Or.inr (Or.inr (Or.inr (Or.inl rfl))))))]
    exact h.2.2 r r0 r1
theorem LR.cg {V' : uS} (h : LR N u V) (e00 : V' 0 0 = V 0 0) (e01 : V' 0 1 = V 0 1) (e02 : V' 0 2 = V 0 2) (e2 : ∀ i, V' 2 i = V 2 i) (e : ∀ j s, vl (N 0 0) (V 0 1) (V 0 2) j s → V j s = V' j s) : LR N u V' := by
  obtain ⟨h1, h2, h3, h4⟩ := h
  refine ⟨?_, fun s t s0 s1 t0 t1 t2 => ?_, fun p p0 p1 => ?_, fun i i0 i1 => ?_⟩
  · rw [e01, e02]
    intro j s hv h7
    refine (h1 j s hv (fun q => ?_)).trans (e j s hv)
    subst q
    rw [e 5 s (by unfold vl at *; omega)]
    exact h7 rfl
  · rw [e00] at t1 t2
    rw [e2]; exact h2 s t s0 s1 t0 t1 t2
  · rw [e01]; exact h3 p p0 p1
  · rw [e02] at i0; exact h4 i i0 i1
theorem LR.st (h : LR N u V) (hN : NWF N) (hb : V 0 1 ≤ 60 ∧ V 0 2 ≤ 20) (j0 : Nat) (s0 v' : Int) {c : Nat} {i x : Int} (hw : w = up u c i x) (e : x = v') (hv : vl 8 (V 0 1) (V 0 2) j0 s0) (h0 : j0 ≠ 0) (hc : c = lc j0 s0) (hi : i = li j0 s0) (h5 : j0 = 5 → v' = 1 → V 5 s0 = 1 ∨ u (lc 7 s0) (li 7 s0) = V 7 s0) : LR N w (up V j0 s0 v') := by
  obtain ⟨n0, -⟩ := hN
  have hl := vl_lim hv (by decide) hb.1 hb.2
  have f := lc_f hl
  have b := hv
  unfold vl at b
  have hj2 : j0 ≠ 2 := by omega
  have e0 : up V j0 s0 v' 0 = V 0 := up_c (Ne.symm h0)
  have e2 : up V j0 s0 v' 2 = V 2 := up_c (Ne.symm hj2)
  rw [← hc, ← hi] at f
  refine ⟨?_, ?_, ?_, ?_⟩
  · rw [e0]
    exact h.1.st n0.2 hb.1 hb.2 j0 s0 v' hw e hl hc hi h5
  · unfold SMP
    rw [e0, e2]
    intro s t s0 s1 t0 t1 t2
    have := pc_e s0
    rw [hw, up_c (by omega)]
    exact h.2.1 s t s0 s1 t0 t1 t2
  · unfold PXl
    rw [e0]
    intro p p0 p1
    rw [hw, up_c (by omega)]
    exact h.2.2.1 p p0 p1
  · unfold GZ
    rw [e0]
    intro k k0 k1
    rw [hw, up_n (by omega)]
    exact h.2.2.2 k k0 k1
/-- cells that tell nothing -/
theorem LR.sc (h : LR N u V) (hN : NWF N) (hV : WFb N V) (hw : ∀ c, ¬ (c = 292 ∨ c = 293 ∨ c = 354 ∨ c = 355) → w c = u c) : LR N w V := h.k hN hV (fun c hc => hw c (fun q => hc (by omega)))
theorem vl11 {m a b s : Int} (h : vl m a b 11 s) : 0 ≤ s ∧ s < a := by unfold vl at h; omega
theorem wretract {e : Int} (hN : NWF N) (hV : WFb N V) (hm : LR N u V) (he : 0 ≤ e ∧ e < V 0 2) : wp (f_X10_retract e u) (fun q => (∀ c, c ≠ 267 → ¬ (294 ≤ c ∧ c < 354) → q.2 c = u c) ∧ LR N q.2 (rtr V e)) := by
  obtain ⟨b0, b1, b2, bS, bI, bP, bE⟩ := hV
  unfold f_X10_retract
  refine wp_g (by omega) ?_
  refine wp_L ?_
  have hm1 : LR N (up u 267 e 1) (up V 14 e 1) := hm.st hN ⟨b1.2, b2.2⟩ 14 e 1 rfl rfl (by unfold vl; omega) (by decide) rfl rfl (fun q => by omega)
  refine wl2 (fun i v => (∀ c, c ≠ 267 → ¬ (294 ≤ c ∧ c < 354) → v c = u c) ∧ LR N v (fri (up V 14 e 1) e i) ∧ 0 ≤ i ∧ i ≤ V 0 1) (fun i _ => (V 0 1 - i).toNat) (fun go i v hI hg => ?_) FU _ _ ⟨fun c h1 h2 => up_c h1, hm1.cg rfl rfl rfl (fun _ => rfl) (fun j s hv => fri_0 (fun hj => by subst hj; exact (vl11 hv).1)), by omega, by omega⟩ (FU_l (by omega))
  obtain ⟨hf, hM, h0, h1⟩ := hI
  have e1 : v 264 7 = V 0 1 := hM.n
  unfold s_X10_retract_9
  rw [e1]
  refine wp_g (by omega) ?_
  refine wp_i (fun c => ?_) (fun c => ?_)
  · refine wp_s ⟨hf, hM.cg rfl rfl rfl (fun _ => rfl) (fun j s hv => fri_fr (fun hj => ?_))⟩
    subst hj
    have := (vl11 hv).2
    have e9 : fri (up V 14 e 1) e i 0 1 = V 0 1 := rfl
    omega
  · have hk := kc_e h0
    obtain ⟨x1, x2⟩ := hM.px h0 (show i < V 0 1 by omega) b1.2
    have p11 : v (kc i) 3 = V 11 i := (hM.pe h0 (show i < V 0 1 by omega)).trans ((if_neg (by omega)).trans (up_k (by decide)))
    have bp := bP i h0 (by omega)
    repeat (first | (with_reducible refine wp_L ?_) | (with_reducible refine wp_g ?_ ?_; · omega) | (with_reducible refine wp_f ?_ ?_; · omega) | (with_reducible refine wp_t ?_ ?_; · omega))
    rw [x2, p11]
    refine wp_g (by omega) ?_
    refine wp_i (fun c => ?_) (fun c => ?_)
    · repeat (first | (with_reducible refine wp_L ?_) | (with_reducible refine wp_g ?_ ?_; · omega) | (with_reducible refine wp_f ?_ ?_; · omega) | (with_reducible refine wp_t ?_ ?_; · omega))
      refine hg _ _ ⟨fun c h1 h2 => by rw [up_c (by omega)]; exact hf c h1 h2, ?_, by omega, by omega⟩ (by omega)
      exact (hM.st hN ⟨b1.2, b2.2⟩ 11 i (-1) rfl rfl (show vl 8 (V 0 1) (V 0 2) 11 i by unfold vl; omega) (by decide) rfl rfl (fun q => by omega)).cg rfl rfl rfl (fun _ => rfl) (fun j s hv => fri_s ((up_k (by decide)).trans c))
    · exact hg _ _ ⟨hf, hM.cg rfl rfl rfl (fun _ => rfl) (fun j s hv => fri_n (fun q => c ((up_k (by decide)).symm.trans q))), by omega, by omega⟩ (by omega)
theorem wmute {s : Int} (hN : NWF N) (hn : LN u N) (hV : WFc N V) (hm : LR N u V) (hs : 0 ≤ s ∧ s < N 0 0) (hk : mkOk u) : wp (f_X10_mute s u) (fun q => q.1 = mtn N (mt1 V s) (V 0 2) ∧ FRn u q.2 ∧ LR N q.2 (mt N V s)) := by
  have hVc := hV
  obtain ⟨hV, hVx⟩ := hV
  have hVb := hV
  have n0 := hN.1
  have n12 := hN.2.2.2.2.2.2.2.2.2.2.2.2.1
  obtain ⟨b0, b1, b2, bS, bI, bP, bE⟩ := hV
  have ps := pc_e hs.1
  obtain ⟨x1, x2⟩ := hn.px hs.1 hs.2
  unfold f_X10_mute
  refine wp_g (by omega) ?_
  refine wp_g x1 ?_
  refine wp_L ?_
  rw [x2]
  refine wp_l (fun u6 e6 => ?_)
  have f6 : FRn u u6 := FRn.rf.st e6 (by unfold prot ncell; omega)
  have m6 : LR N u6 (up V 6 s 1) := hm.st hN ⟨b1.2, b2.2⟩ 6 s 1 e6 rfl (by unfold vl; omega) (by decide) rfl rfl (fun q => by omega)
  obtain ⟨x3, x4⟩ := (hn.fr hN f6).px hs.1 hs.2
  refine wp_g (by omega) ?_
  refine wp_g x3 ?_
  refine wp_L ?_
  rw [x4]
  refine wp_l (fun u12 e12 => ?_)
  have f12 : FRn u u12 := f6.st e12 (by unfold prot ncell; omega)
  have m12 : LR N u12 (up (up V 6 s 1) 5 s 0) := m6.st hN ⟨b1.2, b2.2⟩ 5 s 0 e12 rfl (by unfold vl; omega) (by decide) rfl rfl (fun q h => by omega)
  refine wp_g (f12.mk hk) ?_
  refine wp_l (fun u15 e15 => ?_)
  have f15 : FRn u u15 := f12.stA e15 (by decide)
  have m15 : LR N u15 (mt1i V s 0) := (m12.k hN (V := up (up V 6 s 1) 5 s 0) (by
    refine ⟨b0, b1, b2, fun q q0 q1 => ?_, bI, bP, bE⟩
    have := bS q q0 q1
    refine ⟨this.1, ?_, ?_⟩
    · unfold up; split <;> (try split) <;> omega
    · unfold up; split <;> (try split) <;> omega) (fun c hc => by rw [e15, upA_c (by omega)])).cg rfl rfl rfl (fun _ => rfl) (fun j q hv => mt1i_0)
  refine wp_L ?_
  let HAD : uS → Int → Prop := fun v i => ∀ e, 0 ≤ e → e < 20 → (v 292 e = 0 ∧ ¬ ∃ p, 0 ≤ p ∧ p < i ∧ V 8 p = s ∧ V 11 p = e) ∨ (v 292 e = 1 ∧ ∃ p, 0 ≤ p ∧ p < i ∧ V 8 p = s ∧ V 11 p = e)
  refine wl2 (fun i v => FRn u v ∧ LR N v (mt1i V s i) ∧ HAD v i ∧ 0 ≤ i ∧ i ≤ V 0 1) (fun i _ => (V 0 1 - i).toNat) (fun go i v hI hg => ?_) FU _ _ ⟨f15, m15, fun e e0 e1 => Or.inl ⟨by rw [e15, upA_s], fun ⟨p, p0, p1, _⟩ => by omega⟩, by omega, by omega⟩ (FU_l (by omega))
  obtain ⟨hf, hM, hH, h0, h1⟩ := hI
  have e1 : v 264 7 = V 0 1 := hM.n
  unfold s_X10_mute_27
  rw [e1]
  refine wp_g (by omega) ?_
  refine wp_i (fun c => ?_) (fun c => ?_)
  · have hi : i = V 0 1 := by omega
    subst hi
    rw [mt1i_e] at hM
    have hWb1 : WFb N (mt1 V s) := by rw [← mt1i_e]; exact wfb_mt1i hVb
    have q02 : mt1 V s 0 2 = V 0 2 := by rw [mt1_r (by decide) (by decide)]; rfl
    have q14 : ∀ e, mt1 V s 14 e = V 14 e := fun e => by rw [mt1_r (by decide) (by decide), up_k (by decide), up_k (by decide)]
    refine wl3 (fun n e w => FRn u w ∧ LR N w (mt2 N (mt1 V s) e) ∧ w 292 = v 292 ∧ 0 ≤ e ∧ e ≤ V 0 2 ∧ n = mtn N (mt1 V s) e) (fun _ e _ => (V 0 2 - e).toNat) (fun go n e w hI hg => ?_) FU _ _ _ ⟨hf, by rw [mt2_0]; exact hM, rfl, by omega, by omega, rfl⟩ (FU_l (by omega))
    obtain ⟨gf, gM, g9, g0, g1, rfl⟩ := hI
    have ee : w 264 8 = V 0 2 := gM.e.trans (mt2_0i.trans q02)
    have hnw := hn.fr hN gf
    have e21 := hnw.1.2.2.2.2.2.2.2.2.2.2.2.2.1
    unfold s_X10_mute_106
    rw [ee]
    refine wp_g (by omega) ?_
    refine wp_i (fun c => ?_) (fun c => ?_)
    · refine wp_s ⟨?_, gf, ?_⟩
      · rw [show e = V 0 2 by omega]
      · rw [show e = V 0 2 by omega] at gM
        exact gM
    · have lost := mt_lost (N := N) hVc (s := s) (e := e) ⟨g0, by omega⟩
      have hWb2 : WFb N (mt2 N (mt1 V s) e) := wfb_mt2 hWb1
      have stay : ¬ (mt1 V s 14 e = 0 ∧ pk (mt1 V s) e < N 0 12) → ∀ w2, FRn u w2 → LR N w2 (mt2 N (mt1 V s) e) → w2 292 = v 292 → wp (go (mtn N (mt1 V s) e) (e + 1) w2) _ := fun hno w2 k1 k2 k3 => by
        refine hg _ _ _ ⟨k1, by rw [mt2_n hno]; exact k2, k3, by omega, by omega, ?_⟩ (by omega)
        unfold mtn
        rw [sg_s g0, if_neg hno]; omega
      have h9 : w 292 e = v 292 e := congrFun g9 e
      rcases hH e g0 (by omega) with ⟨k1, k2⟩ | ⟨k1, k2⟩
      · refine wp_g (by omega) ?_
        rw [h9, k1]
        refine wp_g (by decide) ?_
        refine wp_t rfl ?_
        exact stay (fun h => k2 (lost.mpr ⟨(q14 e).symm.trans h.1, h.2⟩).1) w gf gM g9
      · refine wp_g (by omega) ?_
        rw [h9, k1]
        refine wp_g (by decide) ?_
        refine wp_f (by decide) ?_
        refine wp_e (qsize hWb2 gM (by omega)) ?_
        rw [pk_mt2 (Int.le_refl e) g0, e21]
        have pb := pk_b (mt1 V s) e hWb1.2.1.1
        have pb2 := hWb1.2.1.2
        refine wp_g (by omega) ?_
        refine wp_i (fun c => ?_) (fun c => ?_)
        · refine wp_b (wretract hN hWb2 gM ⟨g0, by rw [mt2_0i, q02]; omega⟩) (fun r w2 hw2 => ?_)
          have hyes : mt1 V s 14 e = 0 ∧ pk (mt1 V s) e < N 0 12 := ⟨(q14 e).trans (lost.mp ⟨k2, c⟩).1, c⟩
          refine hg _ _ _ ⟨?_, ?_, (hw2.1 292 (by decide) (by decide)).trans g9, by omega, by omega, ?_⟩ (by omega)
          · exact fun d k hq => (congrFun (hw2.1 d (fun q => by unfold prot ncell at hq; omega) (fun q => by unfold prot ncell at hq; omega)) k).trans (gf d k hq)
          · rw [← mt2_s g0 hyes]; exact hw2.2
          · unfold mtn
            rw [sg_s g0, if_pos hyes]
        · exact stay (fun h => c h.2) w gf gM g9
  · have hk2 := kc_e h0
    obtain ⟨x1, x2⟩ := hM.px h0 (show i < V 0 1 by omega) b1.2
    have p8 : v (kc i) 0 = V 8 i := (hM.ps h0 (show i < V 0 1 by omega)).trans (by rw [mt1i_r (by decide) (by decide), up_k (by decide), up_k (by decide)])
    have p11 : v (kc i) 3 = V 11 i := (hM.pe h0 (show i < V 0 1 by omega)).trans (by rw [mt1i_11, if_neg (by omega)])
    have bp := bP i h0 (by omega)
    have hvx := (hVx.2.1 i h0 (by omega)).1
    repeat (first | (with_reducible refine wp_L ?_) | (with_reducible refine wp_g ?_ ?_; · omega) | (with_reducible refine wp_f ?_ ?_; · omega) | (with_reducible refine wp_t ?_ ?_; · omega))
    rw [x2, p8]
    refine wp_g (by omega) ?_
    refine wp_i (fun c => ?_) (fun c => ?_)
    · refine wp_g (by omega) ?_
      refine wp_g x1 ?_
      refine wp_L ?_
      rw [p11]
      refine wp_g (by omega) ?_
      refine wp_l (fun j55 ej => ?_)
      have fin : ∀ z, FRn u z → LR N z (mt1i V s i) → HAD z (i + 1) → wp (j55 z) (fun q => q.1 = mtn N (mt1 V s) (V 0 2) ∧ FRn u q.2 ∧ LR N q.2 (mt N V s)) := by
        intro z zf zM zH
        rw [ej]
        obtain ⟨y1, y2⟩ := zM.px h0 (show i < V 0 1 by omega) b1.2
        refine wp_g (by omega) ?_
        refine wp_g y1 ?_
        refine wp_L ?_
        rw [y2]
        refine wp_l (fun u63 e63 => ?_)
        have m63 : LR N u63 (up (mt1i V s i) 11 i (-1)) := zM.st hN ⟨b1.2, b2.2⟩ 11 i (-1) e63 rfl (show vl 8 (V 0 1) (V 0 2) 11 i by unfold vl; omega) (by decide) rfl rfl (fun q => by omega)
        obtain ⟨y3, y4⟩ := m63.px h0 (show i < V 0 1 by omega) b1.2
        refine wp_g (by omega) ?_
        refine wp_g y3 ?_
        refine wp_L ?_
        rw [y4]
        refine wp_l (fun u69 e69 => ?_)
        have m69 : LR N u69 (up (up (mt1i V s i) 11 i (-1)) 12 i 1) := m63.st hN ⟨b1.2, b2.2⟩ 12 i 1 e69 rfl (show vl 8 (V 0 1) (V 0 2) 12 i by unfold vl; omega) (by decide) rfl rfl (fun q => by omega)
        have hnp : ∀ k, ¬ prot (kc i) k := fun k => by unfold prot ncell; omega
        refine hg _ _ ⟨(zf.st e63 (hnp _)).st e69 (hnp _), m69.cg rfl rfl rfl (fun _ => rfl) (fun j q hv => mt1i_s h0 c), ?_, by omega, by omega⟩ (by omega)
        intro e e0 e9
        rw [e69, e63, up_k (by omega), up_k (by omega)]
        exact zH e e0 e9
      have keep : ∀ e, (∃ p, 0 ≤ p ∧ p < i ∧ V 8 p = s ∧ V 11 p = e) → ∃ p, 0 ≤ p ∧ p < i + 1 ∧ V 8 p = s ∧ V 11 p = e := fun e ⟨p, p0, p1, p2⟩ => ⟨p, p0, by omega, p2⟩
      refine wp_i (fun c => ?_) (fun c => ?_)
      · refine fin v hf hM (fun e e0 e9 => ?_)
        rcases hH e e0 e9 with ⟨k1, k2⟩ | ⟨k1, k2⟩
        · refine Or.inl ⟨k1, fun ⟨p, p0, p1, p2, p3⟩ => ?_⟩
          by_cases hp : p = i
          · subst hp; omega
          · exact k2 ⟨p, p0, by omega, p2, p3⟩
        · exact Or.inr ⟨k1, keep e k2⟩
      · refine wp_g (by omega) ?_
        refine wp_g x1 ?_
        refine wp_L ?_
        rw [p11]
        refine wp_g (by omega) ?_
        refine wp_l (fun u77 e77 => ?_)
        refine fin u77 (hf.st e77 (by unfold prot ncell; omega)) (hM.k hN (wfb_mt1i hVb) (fun d hd => by rw [e77, up_c (by omega)])) (fun e e0 e9 => ?_)
        by_cases he : e = V 11 i
        · subst he
          exact Or.inr ⟨by rw [e77, up_s], i, h0, by omega, by assumption, rfl⟩
        · rw [e77, up_j he]
          rcases hH e e0 e9 with ⟨k1, k2⟩ | ⟨k1, k2⟩
          · refine Or.inl ⟨k1, fun ⟨p, p0, p1, p2, p3⟩ => ?_⟩
            by_cases hp : p = i
            · subst hp; exact he p3.symm
            · exact k2 ⟨p, p0, by omega, p2, p3⟩
          · exact Or.inr ⟨k1, keep e k2⟩
    · refine hg _ _ ⟨hf, hM.cg rfl rfl rfl (fun _ => rfl) (fun j q hv => mt1i_o (Or.inr c)), fun e e0 e9 => ?_, by omega, by omega⟩ (by omega)
      rcases hH e e0 e9 with ⟨k1, k2⟩ | ⟨k1, ⟨p, p0, p1, p2⟩⟩
      · refine Or.inl ⟨k1, fun ⟨p, p0, p1, p2, p3⟩ => ?_⟩
        by_cases hp : p = i
        · subst hp; exact c p2
        · exact k2 ⟨p, p0, by omega, p2, p3⟩
      · exact Or.inr ⟨k1, p, p0, by omega, p2⟩
end LM
