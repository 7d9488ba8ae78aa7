/-! pure part, 13: location and magnitude, on both sides -/
theorem mc_step {N V : uS} {n e x : Int} : mc N V n e x = mc N V n e (x - 1) + sg (fun p => if V 11 p = e ∧ mgp N V n p = x then 1 else 0) (V 0 1).toNat := by
  unfold mc
  induction (V 0 1).toNat with
  | zero => rfl
  | succ k ih =>
    show sg _ k + (if V 11 (k : Int) = e ∧ mgp N V n k ≤ x then (1 : Int) else 0) = sg _ k + (if V 11 (k : Int) = e ∧ mgp N V n k ≤ x - 1 then 1 else 0) + (sg _ k + if V 11 (k : Int) = e ∧ mgp N V n k = x then 1 else 0)
    rw [ih]
    split <;> split <;> split <;> omega
theorem mc_mono {N V : uS} {n e x y : Int} (h : x ≤ y) : mc N V n e x ≤ mc N V n e y := sg_pt (fun i _ _ => by
  show (if V 11 i = e ∧ mgp N V n i ≤ x then (1 : Int) else 0) ≤ if V 11 i = e ∧ mgp N V n i ≤ y then 1 else 0
  split <;> split <;> omega)
theorem mc_lo {N V : uS} (hN : NWF N) {n e : Int} : mc N V n e (-2) = 0 := sg_z (fun i _ _ => by
  have := mgp_b hN V n i
  show (if V 11 i = e ∧ mgp N V n i ≤ -2 then (1 : Int) else 0) = 0
  rw [if_neg (by omega)])
theorem mc_hi {N V : uS} (hN : NWF N) {n e : Int} : mc N V n e 99 = pk V e := sg_c (fun i _ _ => by
  have := mgp_b hN V n i
  show (if V 11 i = e ∧ mgp N V n i ≤ 99 then (1 : Int) else 0) = if V 11 i = e then 1 else 0
  split <;> split <;> omega)
theorem med_uniq {N V : uS} {n e v w : Int} (h : isMed N V n e v) (h2 : isMed N V n e w) : v = w := by
  obtain ⟨a, b⟩ := h
  obtain ⟨c, d⟩ := h2
  rcases Int.lt_trichotomy v w with h | h | h
  · have := @mc_mono N V n e v (w - 1) (by omega); omega
  · exact h
  · have := @mc_mono N V n e w (v - 1) (by omega); omega
section ML
variable {u N V : uS}
end ML
/-! the class -/
/-- the picks of e are gathered -/
def Gat (V u : uS) (e : Int) : Prop := u 30 0 = pk V e ∧ (∀ j, 0 ≤ j → j < u 30 0 → (0 ≤ u 31 j ∧ u 31 j < V 0 1) ∧ V 11 (u 31 j) = e) ∧ ∀ f : Int → Int, sg (fun j => f (u 31 j)) (u 30 0).toNat = sg (fun p => if V 11 p = e then f p else 0) (V 0 1).toNat
theorem sg_ins {f : Int → Int} {A B : Int → Int} {m : Int} : ∀ {i : Nat} {r : Int}, 0 ≤ r → r ≤ (i : Int) → (∀ j, 0 ≤ j → j < r → B j = A j) → B r = m → (∀ j, r < j → j ≤ (i : Int) → B j = A (j - 1)) → sg (fun j => f (B j)) (i + 1) = sg (fun j => f (A j)) i + f m := by
  intro i
  induction i with
  | zero =>
    intro r h0 h1 hl hm hr
    have : r = 0 := by omega
    subst this
    show 0 + f (B ((0 : Nat) : Int)) = 0 + f m
    rw [← hm]; rfl
  | succ i ih =>
    intro r h0 h1 hl hm hr
    by_cases hri : r = ((i + 1 : Nat) : Int)
    · subst hri
      show sg (fun j => f (B j)) (i + 1) + f (B ((i + 1 : Nat) : Int)) = _
      rw [hm, sg_c (g := fun j => f (A j)) (fun j q0 q1 => by show f (B j) = f (A j); rw [hl j q0 q1])]
    · show sg (fun j => f (B j)) (i + 1) + f (B ((i + 1 : Nat) : Int)) = sg (fun j => f (A j)) i + f (A (i : Int)) + f m
      rw [ih h0 (by omega) hl hm (fun j q0 q1 => hr j q0 (by omega)), hr ((i + 1 : Nat) : Int) (by omega) (by omega), show ((i + 1 : Nat) : Int) - 1 = (i : Int) by omega]
      omega
section CLc
variable {u N V : uS} {n k : Nat}
theorem Gat.b {e : Int} (h : Gat V u e) (hV : WFb N V) : 0 ≤ u 30 0 ∧ u 30 0 ≤ 60 := by
  have := pk_b V e hV.2.1.1
  have := hV.2.1
  rw [h.1]; omega
theorem Gat.row {e : Int} {u' : uS} (h : Gat V u e) (h0 : u' 30 0 = u 30 0) (h1 : u' 31 = u 31) : Gat V u' e := by
  unfold Gat at *
  rw [h0, h1]; exact h
theorem cgather {e : Int} (hV : WFb N V) (hk : k < NN ∧ sT k = 11) (hm : CV u k V) (he : InR e) : wp (f_X3_gather k e u) (fun q => (∀ c, c ≠ 30 → c ≠ 31 → q.2 c = u c) ∧ Gat V q.2 e) := by
  have hkk := sit_at hk
  obtain ⟨b0, b1, b2, bS, bI, bP, bE⟩ := hV
  unfold f_X3_gather
  refine wp_g hk ?_
  refine wp_L ?_
  refine wl2 (fun i v => (∀ c, c ≠ 30 → c ≠ 31 → v c = u c) ∧ 0 ≤ i ∧ i ≤ V 0 1 ∧ v 30 0 = sg (fun p => if V 11 p = e then 1 else 0) i.toNat ∧ (∀ j, 0 ≤ j → j < v 30 0 → (0 ≤ v 31 j ∧ v 31 j < V 0 1) ∧ V 11 (v 31 j) = e) ∧ ∀ f : Int → Int, sg (fun j => f (v 31 j)) (v 30 0).toNat = sg (fun p => if V 11 p = e then f p else 0) i.toNat) (fun i _ => (V 0 1 - i).toNat) (fun go i v hI hg => ?_) FU _ _ ⟨fun c h1 h2 => up_c h1, by omega, by omega, up_s _ _ _ _, fun j j0 j1 => ?_, fun f => ?_⟩ (FU_l (by omega))
  · obtain ⟨hf, h0, h1, hc, hM, hS⟩ := hI
    have mv : CV v k V := hm.row (fun j _ => hf _ (by omega) (by omega))
    have e1 := mv.n
    have cb := @sg_le (fun p => if V 11 p = e then 1 else 0) 1 i.toNat (fun i _ _ => by
      show 0 ≤ (if V 11 i = e then (1 : Int) else 0) ∧ (if V 11 i = e then (1 : Int) else 0) ≤ 1
      split <;> omega)
    unfold s_X3_gather_7
    refine wp_g (by omega) ?_
    refine wp_i (fun c => ?_) (fun c => ?_)
    · refine wp_s ⟨hf, ?_⟩
      unfold Gat pk
      rw [show (V 0 1).toNat = i.toNat by omega]
      exact ⟨hc, hM, hS⟩
    · have p11 := mv.pe h0 (by omega)
      have bp := bP i h0 (by omega)
      repeat (first | (with_reducible refine wp_L ?_) | (with_reducible refine wp_g ?_ ?_; · omega) | (with_reducible refine wp_f ?_ ?_; · omega) | (with_reducible refine wp_t ?_ ?_; · omega))
      refine wp_i (fun c => ?_) (fun c => ?_)
      · repeat (first | (with_reducible refine wp_L ?_) | (with_reducible refine wp_g ?_ ?_; · omega) | (with_reducible refine wp_f ?_ ?_; · omega) | (with_reducible refine wp_t ?_ ?_; · omega))
        have z1 : up (up v 31 (v 30 0) i) 30 0 (up v 31 (v 30 0) i 30 0 + 1) 30 0 = v 30 0 + 1 := by rw [up_s, up_k (by decide)]
        have z2 : ∀ j, up (up v 31 (v 30 0) i) 30 0 (up v 31 (v 30 0) i 30 0 + 1) 31 j = if j = v 30 0 then i else v 31 j := fun j => by
          rw [up_k (by decide)]
          by_cases hj : j = v 30 0
          · subst hj; rw [up_s, if_pos rfl]
          · rw [up_j hj, if_neg hj]
        refine hg _ _ ⟨fun c c1 c2 => by rw [up_c c1, up_c c2]; exact hf c c1 c2, by omega, by omega, ?_, fun j j0 j1 => ?_, fun f => ?_⟩ (by omega)
        · rw [z1, hc, sg_s h0, if_pos (by omega)]
        · rw [z1] at j1
          rw [z2]
          by_cases hj : j = v 30 0
          · rw [if_pos hj]; exact ⟨⟨h0, by omega⟩, by omega⟩
          · rw [if_neg hj]; exact hM j j0 (by omega)
        · rw [z1, sg_s (by omega), sg_s h0, if_pos (by omega), ← hS f, z2, if_pos rfl]
          congr 1
          refine sg_c (fun j j0 j1 => ?_)
          rw [z2, if_neg (by omega)]
      · refine hg _ _ ⟨hf, by omega, by omega, ?_, hM, fun f => ?_⟩ (by omega)
        · rw [hc, sg_s h0, if_neg (by omega)]; omega
        · rw [hS f, sg_s h0, if_neg (by omega)]; omega
  · have : up u 30 0 0 30 0 = 0 := up_s _ _ _ _
    omega
  · rw [up_s]; rfl
theorem cdelay {p : Int} (hN : NWF N) (hn : CN u n N) (hV : WFb N V) (hk : k < NN ∧ sT k = 11) (hm : CV u k V) (hd : 0 ≤ u 30 1 ∧ u 30 1 < nds N) (hp : 0 ≤ p ∧ p < V 0 1) : f_X3_delay n k p u = some (dly N V (u 30 1) p, u) := by
  obtain ⟨b0, b1, b2, bS, bI, bP, bE⟩ := hV
  have p8 := hm.ps hp.1 hp.2
  have p9 := hm.pt hp.1 hp.2
  have bp := bP p hp.1 hp.2
  refine wp_eq ?_
  unfold f_X3_delay
  refine wp_g ⟨hn.1, hk⟩ ?_
  repeat (first | (with_reducible refine wp_L ?_) | (with_reducible refine wp_g ?_ ?_; · omega) | (with_reducible refine wp_f ?_ ?_; · omega) | (with_reducible refine wp_t ?_ ?_; · omega))
  rw [p8, p9]
  refine wp_e (ctravelFromNode hN hn hd (by omega)) ?_
  exact wp_s rfl
theorem cweigh {m e : Int} (hN : NWF N) (hn : CN u n N) (hV : WFb N V) (hk : k < NN ∧ sT k = 11) (hm : CV u k V) (hG : Gat V u e) (hd : 0 ≤ m ∧ m < nds N) (hp : 1 ≤ pk V e) :
    wp (f_X3_weigh n k m u) (fun q => (∀ c, c ≠ 30 → q.2 c = u c) ∧ q.2 30 0 = u 30 0 ∧ q.2 30 1 = m ∧ q.2 30 2 = org N V m e ∧ q.2 30 3 = msf N V m e) := by
  have hkk := sit_at hk
  have hnn := net_at hn.1
  have gb := hG.b hV
  have ob := org_b hN hV m e hp
  unfold f_X3_weigh
  refine wp_g ⟨hn.1, hk⟩ ?_
  refine wp_l (fun w1 g1 => ?_)
  have q1 : ∀ c, c ≠ 30 → w1 c = u c := fun c hc => by rw [g1]; exact up_c hc
  have r0 : w1 30 0 = u 30 0 := by rw [g1]; exact up_j (by decide)
  have r1 : w1 30 1 = m := by rw [g1]; exact up_s _ _ _ _
  have n1 : CN w1 n N := hn.row (fun j _ => q1 _ (by omega))
  have m1 : CV w1 k V := hm.row (fun j _ => q1 _ (by omega))
  have r31 : w1 31 = u 31 := q1 31 (by decide)
  refine wp_L ?_
  refine wl3 (fun f i v => v = w1 ∧ 0 ≤ i ∧ i ≤ u 30 0 ∧ f = sg (fun j => dly N V m (u 31 j)) i.toNat) (fun _ i _ => (u 30 0 - i).toNat) (fun go f i v hI hg => ?_) FU _ _ _ ⟨rfl, by omega, by omega, rfl⟩ (FU_l (by omega))
  obtain ⟨rfl, h0, h1, rfl⟩ := hI
  unfold s_X3_weigh_11
  refine wp_g (by omega) ?_
  refine wp_i (fun c => ?_) (fun c => ?_)
  · have hi : i = u 30 0 := by omega
    subst hi
    have eS := hG.2.2 (dly N V m)
    have sb := sdl_b hN hV m e (i := V 0 1) (by have := hV.2.1; omega)
    rw [← eS] at sb
    have eo : org N V m e = (sg (fun j => dly N V m (u 31 j)) (u 30 0).toNat).tdiv (u 30 0) := by
      unfold org
      rw [← eS, ← hG.1]
    have hc : u 30 0 = pk V e := hG.1
    refine wp_g (by omega) ?_
    refine wp_L ?_
    refine wp_f (by omega) ?_
    refine wp_g (by omega) ?_
    rw [r0, ← eo]
    refine wp_L ?_
    refine wp_L ?_
    refine wl2 (fun i w => (∀ c, c ≠ 30 → w c = u c) ∧ w 30 0 = u 30 0 ∧ w 30 1 = m ∧ w 30 2 = org N V m e ∧ 0 ≤ i ∧ i ≤ u 30 0 ∧ w 30 3 = sg (fun j => absI (dly N V m (u 31 j) - org N V m e)) i.toNat) (fun i _ => (u 30 0 - i).toNat) (fun go i w hI hg => ?_) FU _ _ ⟨fun c hc => (up_c hc).trans ((up_c hc).trans (q1 c hc)), (up_j (by decide)).trans ((up_j (by decide)).trans r0), (up_j (by decide)).trans ((up_j (by decide)).trans r1), (up_j (by decide)).trans (up_s _ _ _ _), by omega, by omega, up_s _ _ _ _⟩ (FU_l (by omega))
    obtain ⟨hf, w0, w1', w2, h0, h1, w3⟩ := hI
    have n2 : CN w n N := hn.row (fun j _ => hf _ (by omega))
    have m2 : CV w k V := hm.row (fun j _ => hf _ (by omega))
    unfold s_X3_weigh_81
    refine wp_g (by omega) ?_
    refine wp_i (fun c => ?_) (fun c => ?_)
    · refine wp_s ⟨hf, w0, w1', w2, ?_⟩
      refine w3.trans ?_
      rw [show i = u 30 0 by omega, hG.2.2 (fun p => absI (dly N V m p - org N V m e))]
      rfl
    · have hM := hG.2.1 i h0 (by omega)
      have e31 : w 31 i = u 31 i := by rw [hf 31 (by decide)]
      have db := dly_b hN hV (p := u 31 i) hM.1 m
      repeat (first | (with_reducible refine wp_L ?_) | (with_reducible refine wp_g ?_ ?_; · omega) | (with_reducible refine wp_f ?_ ?_; · omega) | (with_reducible refine wp_t ?_ ?_; · omega))
      rw [e31]
      refine wp_e (cdelay hN n2 hV hk m2 (by omega) hM.1) ?_
      rw [w1']
      repeat (first | (with_reducible refine wp_L ?_) | (with_reducible refine wp_g ?_ ?_; · omega) | (with_reducible refine wp_f ?_ ?_; · omega) | (with_reducible refine wp_t ?_ ?_; · omega))
      refine hg _ _ ⟨fun c hc => (up_c hc).trans (hf c hc), (up_j (by decide)).trans w0, (up_j (by decide)).trans w1', (up_j (by decide)).trans w2, by omega, by omega, ?_⟩ (by omega)
      rw [up_s, w3, w2, sg_s h0]
  · have hM := hG.2.1 i h0 (by omega)
    have e31 : v 31 i = u 31 i := by rw [r31]
    repeat (first | (with_reducible refine wp_L ?_) | (with_reducible refine wp_g ?_ ?_; · omega) | (with_reducible refine wp_f ?_ ?_; · omega) | (with_reducible refine wp_t ?_ ?_; · omega))
    rw [e31]
    refine wp_e (cdelay hN n1 hV hk m1 (by omega) hM.1) ?_
    rw [r1]
    repeat (first | (with_reducible refine wp_L ?_) | (with_reducible refine wp_g ?_ ?_; · omega) | (with_reducible refine wp_f ?_ ?_; · omega) | (with_reducible refine wp_t ?_ ?_; · omega))
    refine hg _ _ _ ⟨rfl, by omega, by omega, ?_⟩ (by omega)
    rw [sg_s h0]
theorem clocate {e : Int} (hN : NWF N) (hn : CN u n N) (hV : WFb N V) (hk : k < NN ∧ sT k = 11) (hm : CV u k V) (he : InR e) (hp : 1 ≤ pk V e) :
    wp (f_X3_locate n k e u) (fun q => (∀ c, c ≠ 30 → c ≠ 31 → q.2 c = u c) ∧ Gat V q.2 e ∧ q.2 30 1 = nde N V e ∧ q.2 30 2 = org N V (nde N V e) e ∧ q.2 30 3 = msf N V (nde N V e) e) := by
  have hkk := sit_at hk
  have hnn := net_at hn.1
  have nd := nds_b hN
  have ndb := nde_b (V := V) hN e
  unfold f_X3_locate
  refine wp_g ⟨hn.1, hk⟩ ?_
  refine wp_b (cgather hV hk hm he) (fun r w h => ?_)
  obtain ⟨hw, hG⟩ := h
  have hw : ∀ c, c ≠ 30 → c ≠ 31 → w c = u c := hw
  have hG : Gat V w e := hG
  have nw : CN w n N := hn.row (fun j _ => hw _ (by omega) (by omega))
  have mw : CV w k V := hm.row (fun j _ => hw _ (by omega) (by omega))
  refine wp_b (cweigh hN nw hV hk mw hG (by omega) hp) (fun r w2 h => ?_)
  obtain ⟨hw2, z0, z1, z2, z3⟩ := h
  have hw2 : ∀ c, c ≠ 30 → w2 c = w c := hw2
  have z3 : w2 30 3 = msf N V 0 e := z3
  have mb0 : 0 ≤ msf N V 0 e ∧ msf N V 0 e ≤ 300000000 := msf_b hN hV 0 e hp (i := V 0 1) (by have := hV.2.1; omega)
  refine wp_L ?_
  refine wp_L ?_
  rw [z3]
  refine wl4 (fun b l i v => (∀ c, c ≠ 30 → v c = w c) ∧ v 30 0 = w 30 0 ∧ 1 ≤ i ∧ i ≤ nds N ∧ (0 ≤ l ∧ l ≤ 300000000) ∧ (0 ≤ b ∧ b < nds N) ∧ nb N V e (nds N - i).toNat i b l = nde N V e) (fun _ _ i _ => (nds N - i).toNat) (fun go b l i v hI hg => ?_) FU _ _ _ _ ⟨hw2, z0, by omega, by omega, mb0, by omega, rfl⟩ (FU_l (by omega))
  obtain ⟨hf, hc, h0, h1, hl, hb, hr⟩ := hI
  have nv : CN v n N := nw.row (fun j _ => hf _ (by omega))
  have mv : CV v k V := mw.row (fun j _ => hf _ (by omega))
  have gv : Gat V v e := hG.row hc (hf 31 (by decide))
  have fin : ∀ b, b = nde N V e → wp (xbd (f_X3_weigh n k b v) fun _ u11 => some ((0 : Int), u11)) (fun q => (∀ c, c ≠ 30 → c ≠ 31 → q.2 c = u c) ∧ Gat V q.2 e ∧ q.2 30 1 = nde N V e ∧ q.2 30 2 = org N V (nde N V e) e ∧ q.2 30 3 = msf N V (nde N V e) e) := by
    intro b hb
    rw [hb]
    refine wp_b (cweigh hN nv hV hk mv gv ndb hp) (fun r w3 h => wp_s ?_)
    obtain ⟨a1, a2, a3, a4, a5⟩ := h
    exact ⟨fun c c1 c2 => (a1 c c1).trans ((hf c c1).trans (hw c c1 c2)), gv.row a2 (a1 31 (by decide)), a3, a4, a5⟩
  unfold s_X3_locate_25
  refine wp_e (cnodeCount nv) ?_
  refine wp_g (by omega) ?_
  refine wp_i (fun c => ?_) (fun c => ?_)
  · rw [show nds N - i = 0 by omega] at hr
    exact fin b hr
  · repeat (first | (with_reducible refine wp_L ?_) | (with_reducible refine wp_g ?_ ?_; · omega) | (with_reducible refine wp_f ?_ ?_; · omega) | (with_reducible refine wp_t ?_ ?_; · omega))
    refine wp_b (cweigh hN nv hV hk mv gv (m := i) (by omega) hp) (fun r w3 h => ?_)
    obtain ⟨a1, a2, a3, a4, a5⟩ := h
    have a5 : w3 30 3 = msf N V i e := a5
    have mb : 0 ≤ msf N V i e ∧ msf N V i e ≤ 300000000 := msf_b hN hV i e hp (i := V 0 1) (by have := hV.2.1; omega)
    rw [show (nds N - i).toNat = (nds N - (i + 1)).toNat + 1 by omega] at hr
    have hr2 : nb N V e (nds N - (i + 1)).toNat (i + 1) (if msf N V i e < l then i else b) (if msf N V i e < l then msf N V i e else l) = nde N V e := hr
    refine wp_g (by omega) ?_
    refine wp_i (fun c => ?_) (fun c => ?_)
    · rw [if_neg (by omega), if_neg (by omega)] at hr2
      exact hg _ _ _ _ ⟨fun c hc => (a1 c hc).trans (hf c hc), a2.trans hc, by omega, by omega, by omega, hb, hr2⟩ (by omega)
    · rw [if_pos (by omega), if_pos (by omega)] at hr2
      refine wp_L ?_
      rw [a5]
      exact hg _ _ _ _ ⟨fun c hc => (a1 c hc).trans (hf c hc), a2.trans hc, by omega, by omega, by omega, by omega, hr2⟩ (by omega)
end CLc
