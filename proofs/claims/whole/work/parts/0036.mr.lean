/-! pure part, 6: the reference's questions about picks and events -/
theorem absI_c (a : Int) : absI (-a) = absI a := by unfold absI; split <;> split <;> omega
theorem fit_comm {N V : uS} {p q : Int} : fit N V p q ↔ fit N V q p := by
  have h : ∀ p q, fit N V p q → fit N V q p := by
    intro p q h
    refine ⟨fun e => h.1 e.symm, h.2.2.1, h.2.1, ?_⟩
    rw [tvS_comm, show V 9 q - V 9 p = -(V 9 p - V 9 q) by omega, absI_c]
    exact h.2.2.2
  exact ⟨h p q, h q p⟩
section MR
variable {u N V : uS}
theorem eareFit {p q : Int} (hN : NWF N) (hn : MN u N) (hV : WFb N V) (hm : MS u V) (hp : 0 ≤ p ∧ p < V 0 1) (hq : 0 ≤ q ∧ q < V 0 1) : f_X10_areFit p q u = some (if fit N V p q then 1 else 0, u) := by
  have hN2 := hN
  obtain ⟨n0, n1, n2, n3, n4, n5, n6, n7, n8, n9, n10, n11, n12, n13, n14, nS, nR⟩ := hN
  obtain ⟨b0, b1, b2, bS, bI, bP, bE⟩ := hV
  have e13 := hn.1 13 (by decide) (by decide)
  have p8 := hm.ps hp.1 hp.2
  have q8 := hm.ps hq.1 hq.2
  have p9 := hm.pt hp.1 hp.2
  have q9 := hm.pt hq.1 hq.2
  have p12 := hm.pr hp.1 hp.2
  have q12 := hm.pr hq.1 hq.2
  have bp := bP p hp.1 hp.2
  have bq := bP q hq.1 hq.2
  refine wp_eq ?_
  unfold f_X10_areFit
  repeat (first | (with_reducible refine wp_L ?_) | (with_reducible refine wp_g ?_ ?_; · omega) | (with_reducible refine wp_f ?_ ?_; · omega) | (with_reducible refine wp_t ?_ ?_; · omega) | (with_reducible refine wp_e (eof _ _ _) ?_) | (with_reducible refine wp_e (eat _ _ _) ?_) | (with_reducible refine wp_e (enodes _) ?_))
  refine wp_i (fun c => ?_) (fun c => ?_)
  · refine wp_s ?_
    rw [if_neg (fun h => h.1 (by omega))]
  · repeat (first | (with_reducible refine wp_L ?_) | (with_reducible refine wp_g ?_ ?_; · omega) | (with_reducible refine wp_f ?_ ?_; · omega) | (with_reducible refine wp_t ?_ ?_; · omega) | (with_reducible refine wp_e (eof _ _ _) ?_) | (with_reducible refine wp_e (eat _ _ _) ?_) | (with_reducible refine wp_e (enodes _) ?_))
    refine wp_i (fun c => ?_) (fun c => ?_)
    · refine wp_s ?_
      rw [if_neg (fun h => h.2.1 (by omega))]
    · repeat (first | (with_reducible refine wp_L ?_) | (with_reducible refine wp_g ?_ ?_; · omega) | (with_reducible refine wp_f ?_ ?_; · omega) | (with_reducible refine wp_t ?_ ?_; · omega) | (with_reducible refine wp_e (eof _ _ _) ?_) | (with_reducible refine wp_e (eat _ _ _) ?_) | (with_reducible refine wp_e (enodes _) ?_))
      refine wp_i (fun c => ?_) (fun c => ?_)
      · refine wp_s ?_
        rw [if_neg (fun h => h.2.2.1 (by omega))]
      · have tb := tvS_b hN2 (V 8 p) (V 8 q)
        repeat (first | (with_reducible refine wp_L ?_) | (with_reducible refine wp_g ?_ ?_; · omega) | (with_reducible refine wp_f ?_ ?_; · omega) | (with_reducible refine wp_t ?_ ?_; · omega) | (with_reducible refine wp_e (eof _ _ _) ?_) | (with_reducible refine wp_e (eat _ _ _) ?_) | (with_reducible refine wp_e (enodes _) ?_))
        have ab := absI_b (V 9 p - V 9 q)
        have hT : f_X10_timeBetween (u 41 (827 + 5 * p + 0)) (u 41 (827 + 5 * q + 0)) u = some (tvS N (V 8 p) (V 8 q), u) := by
          rw [p8, q8]
          exact etimeBetween hN2 hn (by omega) (by omega)
        have ea : absI (V 9 p - V 9 q) = if 0 ≤ V 9 p - V 9 q then V 9 p - V 9 q else 0 - (V 9 p - V 9 q) := rfl
        refine wp_i (fun c => ?_) (fun c => ?_)
        · rw [if_pos (by omega)] at ea
          refine wp_e hT ?_
          rw [e13]
          refine wp_g (by omega) ?_
          refine wp_i (fun c => ?_) (fun c => ?_)
          · refine wp_s ?_
            rw [if_neg (fun h => by have := h.2.2.2; omega)]
          · refine wp_s ?_
            rw [if_pos ⟨by omega, by omega, by omega, by omega⟩]
        · rw [if_neg (by omega)] at ea
          refine wp_e hT ?_
          rw [e13]
          refine wp_g (by omega) ?_
          refine wp_i (fun c => ?_) (fun c => ?_)
          · refine wp_s ?_
            rw [if_neg (fun h => by have := h.2.2.2; omega)]
          · refine wp_s ?_
            rw [if_pos ⟨by omega, by omega, by omega, by omega⟩]
theorem epicksOf {e : Int} (hV : WFb N V) (hm : MS u V) (he : InR e) : f_X10_picksOf e u = some (pk V e, u) := by
  obtain ⟨b0, b1, b2, bS, bI, bP, bE⟩ := hV
  have e1 := hm.n
  refine wp_eq ?_
  unfold f_X10_picksOf
  refine wl3 (fun f i v => v = u ∧ 0 ≤ i ∧ i ≤ V 0 1 ∧ f = sg (fun p => if V 11 p = e then 1 else 0) i.toNat) (fun _ i _ => (V 0 1 - i).toNat) (fun go f i v hI hg => ?_) FU _ _ _ ⟨rfl, by omega, by omega, rfl⟩ (FU_l (by omega))
  obtain ⟨rfl, h0, h1, rfl⟩ := hI
  unfold s_X10_picksOf_4
  refine wp_g (by omega) ?_
  refine wp_i (fun c => ?_) (fun c => ?_)
  · refine wp_s ?_
    rw [show i = V 0 1 by omega]
    rfl
  · have p11 := hm.pe h0 (by omega)
    have bp := bP i h0 (by omega)
    repeat (first | (with_reducible refine wp_L ?_) | (with_reducible refine wp_g ?_ ?_; · omega) | (with_reducible refine wp_f ?_ ?_; · omega) | (with_reducible refine wp_t ?_ ?_; · omega) | (with_reducible refine wp_e (eof _ _ _) ?_) | (with_reducible refine wp_e (eat _ _ _) ?_) | (with_reducible refine wp_e (enodes _) ?_))
    refine wp_i (fun c => ?_) (fun c => ?_)
    · repeat (first | (with_reducible refine wp_L ?_) | (with_reducible refine wp_g ?_ ?_; · omega) | (with_reducible refine wp_f ?_ ?_; · omega) | (with_reducible refine wp_t ?_ ?_; · omega) | (with_reducible refine wp_e (eof _ _ _) ?_) | (with_reducible refine wp_e (eat _ _ _) ?_) | (with_reducible refine wp_e (enodes _) ?_))
      refine hg _ _ _ ⟨rfl, by omega, by omega, ?_⟩ (by omega)
      rw [sg_s h0, if_pos (by omega)]
    · repeat (first | (with_reducible refine wp_L ?_) | (with_reducible refine wp_g ?_ ?_; · omega) | (with_reducible refine wp_f ?_ ?_; · omega) | (with_reducible refine wp_t ?_ ?_; · omega) | (with_reducible refine wp_e (eof _ _ _) ?_) | (with_reducible refine wp_e (eat _ _ _) ?_) | (with_reducible refine wp_e (enodes _) ?_))
      refine hg _ _ _ ⟨rfl, by omega, by omega, ?_⟩ (by omega)
      rw [sg_s h0, if_neg (by omega)]
theorem eisRetracted {e : Int} (hV : WFb N V) (hm : MS u V) (he : 0 ≤ e ∧ e < V 0 2) : f_X10_isRetracted e u = some (if V 14 e = 1 then 1 else 0, u) := by
  obtain ⟨b0, b1, b2, bS, bI, bP, bE⟩ := hV
  have e14 := hm.re he.1 he.2
  have be := bE e he.1 he.2
  refine wp_eq ?_
  unfold f_X10_isRetracted
  repeat (first | (with_reducible refine wp_L ?_) | (with_reducible refine wp_g ?_ ?_; · omega) | (with_reducible refine wp_f ?_ ?_; · omega) | (with_reducible refine wp_t ?_ ?_; · omega) | (with_reducible refine wp_e (eof _ _ _) ?_) | (with_reducible refine wp_e (eat _ _ _) ?_) | (with_reducible refine wp_e (enodes _) ?_))
  rw [e14]
  refine wp_i (fun c => ?_) (fun c => ?_)
  · exact wp_s (by rw [if_pos c])
  · exact wp_s (by rw [if_neg c])
theorem elive (hV : WFb N V) (hm : MS u V) : f_X10_live u = some (lv V, u) := by
  have hV2 := hV
  obtain ⟨b0, b1, b2, bS, bI, bP, bE⟩ := hV
  have e2 := hm.e
  refine wp_eq ?_
  unfold f_X10_live
  refine wl3 (fun f i v => v = u ∧ 0 ≤ i ∧ i ≤ V 0 2 ∧ f = sg (fun e => if V 14 e = 1 then 0 else 1) i.toNat) (fun _ i _ => (V 0 2 - i).toNat) (fun go f i v hI hg => ?_) FU _ _ _ ⟨rfl, by omega, by omega, rfl⟩ (FU_l (by omega))
  obtain ⟨rfl, h0, h1, rfl⟩ := hI
  unfold s_X10_live_4
  refine wp_g (by omega) ?_
  refine wp_i (fun c => ?_) (fun c => ?_)
  · refine wp_s ?_
    rw [show i = V 0 2 by omega]
    rfl
  · refine wp_e (eisRetracted hV2 hm ⟨h0, by omega⟩) ?_
    by_cases c2 : V 14 i = 1
    · rw [if_pos c2]
      repeat (first | (with_reducible refine wp_L ?_) | (with_reducible refine wp_g ?_ ?_; · omega) | (with_reducible refine wp_f ?_ ?_; · omega) | (with_reducible refine wp_t ?_ ?_; · omega) | (with_reducible refine wp_e (eof _ _ _) ?_) | (with_reducible refine wp_e (eat _ _ _) ?_) | (with_reducible refine wp_e (enodes _) ?_))
      refine hg _ _ _ ⟨rfl, by omega, by omega, ?_⟩ (by omega)
      rw [sg_s h0, if_pos c2]
    · rw [if_neg c2]
      repeat (first | (with_reducible refine wp_L ?_) | (with_reducible refine wp_g ?_ ?_; · omega) | (with_reducible refine wp_f ?_ ?_; · omega) | (with_reducible refine wp_t ?_ ?_; · omega) | (with_reducible refine wp_e (eof _ _ _) ?_) | (with_reducible refine wp_e (eat _ _ _) ?_) | (with_reducible refine wp_e (enodes _) ?_))
      refine hg _ _ _ ⟨rfl, by omega, by omega, ?_⟩ (by omega)
      rw [sg_s h0, if_neg c2]
theorem efitsAll {e p : Int} (hN : NWF N) (hn : MN u N) (hV : WFb N V) (hm : MS u V) (hp : 0 ≤ p ∧ p < V 0 1) (he : InR e) : f_X10_fitsAll p e u = some (cif (fitA N V e p) 1 0, u) := by
  have hV2 := hV
  obtain ⟨b0, b1, b2, bS, bI, bP, bE⟩ := hV
  have e1 := hm.n
  refine wp_eq ?_
  unfold f_X10_fitsAll
  refine wl3 (fun f i v => v = u ∧ 0 ≤ i ∧ i ≤ V 0 1 ∧ ((f = 1 ∧ ∀ q, 0 ≤ q → q < i → V 11 q = e → q ≠ p → fit N V q p) ∨ (f = 0 ∧ ¬ fitA N V e p))) (fun _ i _ => (V 0 1 - i).toNat) (fun go f i v hI hg => ?_) FU _ _ _ ⟨rfl, by omega, by omega, Or.inl ⟨rfl, fun q h1 h2 => by omega⟩⟩ (FU_l (by omega))
  obtain ⟨rfl, h0, h1, ⟨rfl, hf⟩ | ⟨rfl, hf⟩⟩ := hI
  · unfold s_X10_fitsAll_5
    refine wp_g (by omega) ?_
    refine wp_i (fun c => ?_) (fun c => ?_)
    · refine wp_g (by decide) ?_
      refine wp_s ?_
      rw [cif_t (show fitA N V e p from fun q h2 h3 => hf q h2 (by omega))]
    · have p11 := hm.pe h0 (by omega)
      have bp := bP i h0 (by omega)
      repeat (first | (with_reducible refine wp_L ?_) | (with_reducible refine wp_g ?_ ?_; · omega) | (with_reducible refine wp_f ?_ ?_; · omega) | (with_reducible refine wp_t ?_ ?_; · omega) | (with_reducible refine wp_e (eof _ _ _) ?_) | (with_reducible refine wp_e (eat _ _ _) ?_) | (with_reducible refine wp_e (enodes _) ?_))
      have nxt : (V 11 i = e → i ≠ p → fit N V i p) → wp (go 1 (i + 1) v) (fun b => b = (cif (fitA N V e p) 1 0, v)) := fun h3 =>
        hg _ _ _ ⟨rfl, by omega, by omega, Or.inl ⟨rfl, fun q q1 q2 q3 q4 => by
          by_cases hq : q = i
          · subst hq; exact h3 q3 q4
          · exact hf q q1 (by omega) q3 q4⟩⟩ (by omega)
      refine wp_i (fun c => ?_) (fun c => ?_)
      · refine wp_L ?_
        exact nxt (fun _ h3 => absurd c h3)
      · repeat (first | (with_reducible refine wp_L ?_) | (with_reducible refine wp_g ?_ ?_; · omega) | (with_reducible refine wp_f ?_ ?_; · omega) | (with_reducible refine wp_t ?_ ?_; · omega) | (with_reducible refine wp_e (eof _ _ _) ?_) | (with_reducible refine wp_e (eat _ _ _) ?_) | (with_reducible refine wp_e (enodes _) ?_))
        refine wp_i (fun c => ?_) (fun c => ?_)
        · refine wp_e (eareFit hN hn hV2 hm hp ⟨h0, by omega⟩) ?_
          by_cases c9 : fit N V p i
          · rw [if_pos c9]
            repeat (first | (with_reducible refine wp_L ?_) | (with_reducible refine wp_g ?_ ?_; · omega) | (with_reducible refine wp_f ?_ ?_; · omega) | (with_reducible refine wp_t ?_ ?_; · omega) | (with_reducible refine wp_e (eof _ _ _) ?_) | (with_reducible refine wp_e (eat _ _ _) ?_) | (with_reducible refine wp_e (enodes _) ?_))
            exact nxt (fun _ _ => fit_comm.mp c9)
          · rw [if_neg c9]
            repeat (first | (with_reducible refine wp_L ?_) | (with_reducible refine wp_g ?_ ?_; · omega) | (with_reducible refine wp_f ?_ ?_; · omega) | (with_reducible refine wp_t ?_ ?_; · omega) | (with_reducible refine wp_e (eof _ _ _) ?_) | (with_reducible refine wp_e (eat _ _ _) ?_) | (with_reducible refine wp_e (enodes _) ?_))
            refine hg _ _ _ ⟨rfl, by omega, by omega, Or.inr ⟨rfl, fun h3 => c9 (fit_comm.mp (h3 i h0 (by omega) (by omega) (by omega)))⟩⟩ (by omega)
        · repeat (first | (with_reducible refine wp_L ?_) | (with_reducible refine wp_g ?_ ?_; · omega) | (with_reducible refine wp_f ?_ ?_; · omega) | (with_reducible refine wp_t ?_ ?_; · omega) | (with_reducible refine wp_e (eof _ _ _) ?_) | (with_reducible refine wp_e (eat _ _ _) ?_) | (with_reducible refine wp_e (enodes _) ?_))
          exact nxt (fun h3 => by omega)
  · unfold s_X10_fitsAll_5
    refine wp_g (by omega) ?_
    refine wp_i (fun c => ?_) (fun c => ?_)
    · refine wp_g (by decide) ?_
      refine wp_s ?_
      rw [cif_f hf]
    · refine wp_g (by decide) ?_
      refine wp_t rfl ?_
      refine wp_g (by decide) ?_
      refine wp_s ?_
      rw [cif_f hf]
theorem edelayOf {n p : Int} (hN : NWF N) (hn : MN u N) (hV : WFb N V) (hm : MS u V) (hd : 0 ≤ n ∧ n < nds N) (hp : 0 ≤ p ∧ p < V 0 1) : f_X10_delayOf n p u = some (dly N V n p, u) := by
  obtain ⟨b0, b1, b2, bS, bI, bP, bE⟩ := hV
  have p8 := hm.ps hp.1 hp.2
  have p9 := hm.pt hp.1 hp.2
  have bp := bP p hp.1 hp.2
  refine wp_eq ?_
  unfold f_X10_delayOf
  repeat (first | (with_reducible refine wp_L ?_) | (with_reducible refine wp_g ?_ ?_; · omega) | (with_reducible refine wp_f ?_ ?_; · omega) | (with_reducible refine wp_t ?_ ?_; · omega) | (with_reducible refine wp_e (eof _ _ _) ?_) | (with_reducible refine wp_e (eat _ _ _) ?_) | (with_reducible refine wp_e (enodes _) ?_))
  rw [p8, p9]
  refine wp_e (enodeApart hN hn hd (by omega)) ?_
  refine wp_e (etimeFor hN hn (dst_b _ _)) ?_
  exact wp_s rfl
theorem eoriginOf {n e : Int} (hN : NWF N) (hn : MN u N) (hV : WFb N V) (hm : MS u V) (hd : 0 ≤ n ∧ n < nds N) (he : InR e) (hk : 1 ≤ pk V e) : f_X10_originOf n e u = some (org N V n e, u) := by
  have hV2 := hV
  have pb := pk_b V e hV.2.1.1
  obtain ⟨b0, b1, b2, bS, bI, bP, bE⟩ := hV
  have e1 := hm.n
  refine wp_eq ?_
  unfold f_X10_originOf
  refine wp_L ?_
  refine wl3 (fun f i v => v = u ∧ 0 ≤ i ∧ i ≤ V 0 1 ∧ f = sg (fun p => if V 11 p = e then dly N V n p else 0) i.toNat) (fun _ i _ => (V 0 1 - i).toNat) (fun go f i v hI hg => ?_) FU _ _ _ ⟨rfl, by omega, by omega, rfl⟩ (FU_l (by omega))
  obtain ⟨rfl, h0, h1, rfl⟩ := hI
  have sb := sdl_b hN hV2 n e (i := i) (by omega)
  unfold s_X10_originOf_5
  refine wp_g (by omega) ?_
  refine wp_i (fun c => ?_) (fun c => ?_)
  · refine wp_e (epicksOf hV2 hm he) ?_
    refine wp_g (by omega) ?_
    refine wp_s ?_
    rw [show i = V 0 1 by omega]
    rfl
  · have p11 := hm.pe h0 (by omega)
    have bp := bP i h0 (by omega)
    repeat (first | (with_reducible refine wp_L ?_) | (with_reducible refine wp_g ?_ ?_; · omega) | (with_reducible refine wp_f ?_ ?_; · omega) | (with_reducible refine wp_t ?_ ?_; · omega) | (with_reducible refine wp_e (eof _ _ _) ?_) | (with_reducible refine wp_e (eat _ _ _) ?_) | (with_reducible refine wp_e (enodes _) ?_))
    refine wp_i (fun c => ?_) (fun c => ?_)
    · refine wp_e (edelayOf hN hn hV2 hm hd ⟨h0, by omega⟩) ?_
      repeat (first | (with_reducible refine wp_L ?_) | (with_reducible refine wp_g ?_ ?_; · omega) | (with_reducible refine wp_f ?_ ?_; · omega) | (with_reducible refine wp_t ?_ ?_; · omega) | (with_reducible refine wp_e (eof _ _ _) ?_) | (with_reducible refine wp_e (eat _ _ _) ?_) | (with_reducible refine wp_e (enodes _) ?_))
      refine hg _ _ _ ⟨rfl, by omega, by omega, ?_⟩ (by omega)
      rw [sg_s h0, if_pos (by omega)]
    · repeat (first | (with_reducible refine wp_L ?_) | (with_reducible refine wp_g ?_ ?_; · omega) | (with_reducible refine wp_f ?_ ?_; · omega) | (with_reducible refine wp_t ?_ ?_; · omega) | (with_reducible refine wp_e (eof _ _ _) ?_) | (with_reducible refine wp_e (eat _ _ _) ?_) | (with_reducible refine wp_e (enodes _) ?_))
      refine hg _ _ _ ⟨rfl, by omega, by omega, ?_⟩ (by omega)
      rw [sg_s h0, if_neg (by omega)]
theorem emisfitOf {n e : Int} (hN : NWF N) (hn : MN u N) (hV : WFb N V) (hm : MS u V) (hd : 0 ≤ n ∧ n < nds N) (he : InR e) (hk : 1 ≤ pk V e) : f_X10_misfitOf n e u = some (msf N V n e, u) := by
  have hV2 := hV
  have ob := org_b hN hV n e hk
  obtain ⟨b0, b1, b2, bS, bI, bP, bE⟩ := hV
  have e1 := hm.n
  refine wp_eq ?_
  unfold f_X10_misfitOf
  refine wp_e (eoriginOf hN hn hV2 hm hd he hk) ?_
  refine wl3 (fun f i v => v = u ∧ 0 ≤ i ∧ i ≤ V 0 1 ∧ f = sg (fun p => if V 11 p = e then absI (dly N V n p - org N V n e) else 0) i.toNat) (fun _ i _ => (V 0 1 - i).toNat) (fun go f i v hI hg => ?_) FU _ _ _ ⟨rfl, by omega, by omega, rfl⟩ (FU_l (by omega))
  obtain ⟨rfl, h0, h1, rfl⟩ := hI
  unfold s_X10_misfitOf_13
  refine wp_g (by omega) ?_
  refine wp_i (fun c => ?_) (fun c => ?_)
  · refine wp_s ?_
    rw [show i = V 0 1 by omega]
    rfl
  · have p11 := hm.pe h0 (by omega)
    have bp := bP i h0 (by omega)
    have db := dly_b hN hV2 (p := i) ⟨h0, by omega⟩ n
    repeat (first | (with_reducible refine wp_L ?_) | (with_reducible refine wp_g ?_ ?_; · omega) | (with_reducible refine wp_f ?_ ?_; · omega) | (with_reducible refine wp_t ?_ ?_; · omega) | (with_reducible refine wp_e (eof _ _ _) ?_) | (with_reducible refine wp_e (eat _ _ _) ?_) | (with_reducible refine wp_e (enodes _) ?_))
    refine wp_i (fun c => ?_) (fun c => ?_)
    · refine wp_e (edelayOf hN hn hV2 hm hd ⟨h0, by omega⟩) ?_
      repeat (first | (with_reducible refine wp_L ?_) | (with_reducible refine wp_g ?_ ?_; · omega) | (with_reducible refine wp_f ?_ ?_; · omega) | (with_reducible refine wp_t ?_ ?_; · omega) | (with_reducible refine wp_e (eof _ _ _) ?_) | (with_reducible refine wp_e (eat _ _ _) ?_) | (with_reducible refine wp_e (enodes _) ?_))
      refine wp_i (fun c => ?_) (fun c => ?_)
      · repeat (first | (with_reducible refine wp_L ?_) | (with_reducible refine wp_g ?_ ?_; · omega) | (with_reducible refine wp_f ?_ ?_; · omega) | (with_reducible refine wp_t ?_ ?_; · omega) | (with_reducible refine wp_e (eof _ _ _) ?_) | (with_reducible refine wp_e (eat _ _ _) ?_) | (with_reducible refine wp_e (enodes _) ?_))
        refine hg _ _ _ ⟨rfl, by omega, by omega, ?_⟩ (by omega)
        rw [sg_s h0, if_pos (by omega)]
        unfold absI
        rw [if_pos c]
      · repeat (first | (with_reducible refine wp_L ?_) | (with_reducible refine wp_g ?_ ?_; · omega) | (with_reducible refine wp_f ?_ ?_; · omega) | (with_reducible refine wp_t ?_ ?_; · omega) | (with_reducible refine wp_e (eof _ _ _) ?_) | (with_reducible refine wp_e (eat _ _ _) ?_) | (with_reducible refine wp_e (enodes _) ?_))
        refine hg _ _ _ ⟨rfl, by omega, by omega, ?_⟩ (by omega)
        rw [sg_s h0, if_pos (by omega)]
        unfold absI
        rw [if_neg c]
        omega
    · repeat (first | (with_reducible refine wp_L ?_) | (with_reducible refine wp_g ?_ ?_; · omega) | (with_reducible refine wp_f ?_ ?_; · omega) | (with_reducible refine wp_t ?_ ?_; · omega) | (with_reducible refine wp_e (eof _ _ _) ?_) | (with_reducible refine wp_e (eat _ _ _) ?_) | (with_reducible refine wp_e (enodes _) ?_))
      refine hg _ _ _ ⟨rfl, by omega, by omega, ?_⟩ (by omega)
      rw [sg_s h0, if_neg (by omega)]
      omega
theorem nb_b {N V : uS} {e : Int} : ∀ {d : Nat} {n b l : Int}, 0 ≤ n → 0 ≤ b → b < n → 0 ≤ nb N V e d n b l ∧ nb N V e d n b l < n + d := by
  intro d
  induction d with
  | zero => intro n b l h0 h1 h2; exact ⟨h1, by show b < n + ((0 : Nat) : Int); omega⟩
  | succ d ih =>
    intro n b l h0 h1 h2
    have := @ih (n + 1) (if msf N V n e < l then n else b) (if msf N V n e < l then msf N V n e else l) (by omega) (by split <;> omega) (by split <;> omega)
    show 0 ≤ nb N V e d (n + 1) _ _ ∧ nb N V e d (n + 1) _ _ < n + ((d + 1 : Nat) : Int)
    omega
theorem nde_b {N V : uS} (hN : NWF N) (e : Int) : 0 ≤ nde N V e ∧ nde N V e < nds N := by
  have h := nds_b hN
  have := @nb_b N V e (nds N - 1).toNat 1 0 (msf N V 0 e) (by decide) (by decide) (by decide)
  unfold nde
  omega
theorem enodeOf {e : Int} (hN : NWF N) (hn : MN u N) (hV : WFb N V) (hm : MS u V) (he : InR e) (hk : 1 ≤ pk V e) : f_X10_nodeOf e u = some (nde N V e, u) := by
  have nd := nds_b hN
  have e4 := hn.1 4 (by decide) (by decide)
  have e5 := hn.1 5 (by decide) (by decide)
  have en : f_X10_nodes u = some (nds N, u) := by rw [enodes, e4, e5]; rfl
  refine wp_eq ?_
  unfold f_X10_nodeOf
  refine wp_e (emisfitOf hN hn hV hm (by omega) he hk) ?_
  refine wl4 (fun b l i v => v = u ∧ 1 ≤ i ∧ i ≤ nds N ∧ (0 ≤ l ∧ l ≤ 300000000) ∧ nb N V e (nds N - i).toNat i b l = nde N V e) (fun _ _ i _ => (nds N - i).toNat) (fun go b l i v hI hg => ?_) FU _ _ _ _ ⟨rfl, by omega, by omega, msf_b hN hV 0 e hk (i := V 0 1) (by have := hV.2.1; omega), rfl⟩ (FU_l (by omega))
  obtain ⟨rfl, h0, h1, hl, hr⟩ := hI
  unfold s_X10_nodeOf_12
  refine wp_e en ?_
  refine wp_g (by omega) ?_
  refine wp_i (fun c => ?_) (fun c => ?_)
  · refine wp_s ?_
    rw [show nds N - i = 0 by omega] at hr
    rw [← hr]
    rfl
  · refine wp_e (emisfitOf hN hn hV hm (by omega) he hk) ?_
    have mb : 0 ≤ msf N V i e ∧ msf N V i e ≤ 300000000 := msf_b hN hV i e hk (i := V 0 1) (by have := hV.2.1; omega)
    rw [show (nds N - i).toNat = (nds N - (i + 1)).toNat + 1 by omega] at hr
    have hr2 : nb N V e (nds N - (i + 1)).toNat (i + 1) (if msf N V i e < l then i else b) (if msf N V i e < l then msf N V i e else l) = nde N V e := hr
    repeat (first | (with_reducible refine wp_L ?_) | (with_reducible refine wp_g ?_ ?_; · omega) | (with_reducible refine wp_f ?_ ?_; · omega) | (with_reducible refine wp_t ?_ ?_; · omega) | (with_reducible refine wp_e (eof _ _ _) ?_) | (with_reducible refine wp_e (eat _ _ _) ?_) | (with_reducible refine wp_e (enodes _) ?_))
    refine wp_i (fun c => ?_) (fun c => ?_)
    · rw [if_neg (by omega), if_neg (by omega)] at hr2
      repeat (first | (with_reducible refine wp_L ?_) | (with_reducible refine wp_g ?_ ?_; · omega) | (with_reducible refine wp_f ?_ ?_; · omega) | (with_reducible refine wp_t ?_ ?_; · omega) | (with_reducible refine wp_e (eof _ _ _) ?_) | (with_reducible refine wp_e (eat _ _ _) ?_) | (with_reducible refine wp_e (enodes _) ?_))
      exact hg _ _ _ _ ⟨rfl, by omega, by omega, by omega, hr2⟩ (by omega)
    · rw [if_pos (by omega), if_pos (by omega)] at hr2
      repeat (first | (with_reducible refine wp_L ?_) | (with_reducible refine wp_g ?_ ?_; · omega) | (with_reducible refine wp_f ?_ ?_; · omega) | (with_reducible refine wp_t ?_ ?_; · omega) | (with_reducible refine wp_e (eof _ _ _) ?_) | (with_reducible refine wp_e (eat _ _ _) ?_) | (with_reducible refine wp_e (enodes _) ?_))
      exact hg _ _ _ _ ⟨rfl, by omega, by omega, by omega, hr2⟩ (by omega)
end MR
