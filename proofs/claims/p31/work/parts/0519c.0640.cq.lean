/-! pure part, 10: the class's questions -/
theorem sit_at {k : Nat} (h : k < NN ∧ sT k = 11) : 54 ≤ k ∧ k + 15 ≤ 264 := by
  have h2 : ∀ k, k < 264 → sT k = 11 → 54 ≤ k ∧ k + 15 ≤ 264 := by decide +kernel
  exact h2 k h.1 h.2
theorem net_at {n : Nat} (h : n < NN ∧ sT n = 9) : n = 10 ∨ n = 19 := by
  have h2 : ∀ k, k < 264 → sT k = 9 → k = 10 ∨ k = 19 := by decide +kernel
  exact h2 n h.1 h.2
theorem net_grid {n : Nat} (h : n < NN ∧ sT n = 9) : (n + 1 < NN ∧ sT (n + 1) = 6) ∧ (n + 2 < NN ∧ sT (n + 2) = 10) := by
  rcases net_at h with rfl | rfl <;> decide +kernel
theorem VE.stC {a b : Int} {u w V : uS} {k : Nat} (h : VE a b (fun j s => u (k + j) s) V) (j : Nat) (s v' : Int) {v : Int} (hw : w = up u (k + j) s v) (e : v = v') : VE a b (fun j s => w (k + j) s) (up V j s v') := by
  subst hw e; exact h.upC
section CQ
variable {u N V : uS} {n k : Nat}
theorem cratioOf {S L : Int} (hN : NWF N) (hn : CN u n N) (hS : 0 ≤ S ∧ S ≤ 989901) (hL : 0 ≤ L ∧ L ≤ 989901) : f_X5_ratioOf n S L u = some (rat N S L, u) := by
  obtain ⟨n0, n1, n2, n3, n4, n5, n6, n7, n8, n9, n10, n11, n12, n13, n14, nS, nR⟩ := hN
  obtain ⟨h9, ⟨-, -, -, -, -, -, -, -, a8, a9, -⟩, -⟩ := hn
  have p1 : 0 ≤ S * N 0 9 := Int.mul_nonneg hS.1 (by omega)
  have p2 : S * N 0 9 ≤ 989901 * 99 := Int.mul_le_mul hS.2 (by omega) (by omega) (by decide)
  have p3 : L * 1 ≤ L * N 0 8 := Int.mul_le_mul_of_nonneg_left n8.1 (by omega)
  have p4 : L * N 0 8 ≤ 989901 * 99 := Int.mul_le_mul hL.2 (by omega) (by omega) (by decide)
  refine wp_eq ?_
  unfold f_X5_ratioOf
  refine wp_g h9 ?_
  refine wp_g (by omega) ?_
  refine wp_g (by omega) ?_
  refine wp_L ?_
  rw [a8]
  refine wp_g (by omega) ?_
  unfold rat
  refine wp_i (fun c => ?_) (fun c => ?_)
  · refine wp_s ?_
    have hL0 : L * N 0 8 = 0 := by
      unfold cmpL at c
      split at c
      · omega
      · split at c <;> omega
    rw [if_pos (show L = 0 by omega)]
  · have hL0 : L * N 0 8 ≠ 0 := fun q => c (by rw [q]; rfl)
    have hL1 : L ≠ 0 := fun q => hL0 (by rw [q]; exact Int.zero_mul _)
    rw [a9]
    refine wp_g (by omega) ?_
    refine wp_g (by omega) ?_
    refine wp_g ⟨⟨by omega, by omega⟩, ⟨by omega, by omega⟩, hL0⟩ ?_
    rw [if_neg hL1]
    exact wp_s rfl
theorem ctravelOfStations {a b : Int} (hN : NWF N) (hn : CN u n N) (ha : 0 ≤ a ∧ a < N 0 0) (hb : 0 ≤ b ∧ b < N 0 0) : f_X5_travelOfStations n a b u = some (tvS N a b, u) := by
  obtain ⟨n0, n1, n2, n3, n4, n5, n6, n7, n8, n9, n10, n11, n12, n13, n14, nS, nR⟩ := hN
  have e := hn.2.2.2.2.1 a b ha.1 ha.2 hb.1 hb.2
  refine wp_eq ?_
  unfold f_X5_travelOfStations
  refine wp_g hn.1 ?_
  repeat (first | (with_reducible refine wp_L ?_) | (with_reducible refine wp_g ?_ ?_; · omega) | (with_reducible refine wp_f ?_ ?_; · omega) | (with_reducible refine wp_t ?_ ?_; · omega))
  rw [show a * 8 + b = 8 * a + b by omega, e]
  exact wp_s rfl
theorem cdistanceFromNode {m s : Int} (hN : NWF N) (hn : CN u n N) (hm : 0 ≤ m ∧ m < nds N) (hs : 0 ≤ s ∧ s < N 0 0) : f_X5_distanceFromNode n m s u = some (ndD N m s, u) := by
  have nb := nds_b hN
  obtain ⟨n0, n1, n2, n3, n4, n5, n6, n7, n8, n9, n10, n11, n12, n13, n14, nS, nR⟩ := hN
  have e := hn.2.2.2.2.2 m s hm.1 hm.2 hs.1 hs.2
  refine wp_eq ?_
  unfold f_X5_distanceFromNode
  refine wp_g hn.1 ?_
  repeat (first | (with_reducible refine wp_L ?_) | (with_reducible refine wp_g ?_ ?_; · omega) | (with_reducible refine wp_f ?_ ?_; · omega) | (with_reducible refine wp_t ?_ ?_; · omega))
  rw [show m * 8 + s = 8 * m + s by omega, e]
  exact wp_s rfl
theorem ctravelOver {d : Int} (hN : NWF N) (hn : CN u n N) (hd : 0 ≤ d ∧ d ≤ 8191) : f_X5_travelOver n d u = some ((d * 10).tdiv (N 0 7), u) := by
  obtain ⟨n0, n1, n2, n3, n4, n5, n6, n7, n8, n9, n10, n11, n12, n13, n14, nS, nR⟩ := hN
  have e7 := hn.2.1.2.2.2.2.2.2.2.1
  refine wp_eq ?_
  unfold f_X5_travelOver
  refine wp_g hn.1 ?_
  repeat (first | (with_reducible refine wp_L ?_) | (with_reducible refine wp_g ?_ ?_; · omega) | (with_reducible refine wp_f ?_ ?_; · omega) | (with_reducible refine wp_t ?_ ?_; · omega))
  rw [e7]
  exact wp_s rfl
theorem ctravelFromNode {m s : Int} (hN : NWF N) (hn : CN u n N) (hm : 0 ≤ m ∧ m < nds N) (hs : 0 ≤ s ∧ s < N 0 0) : f_X5_travelFromNode n m s u = some (tvN N m s, u) := by
  refine wp_eq ?_
  unfold f_X5_travelFromNode
  refine wp_g hn.1 ?_
  refine wp_e (cdistanceFromNode hN hn hm hs) ?_
  refine wp_e (ctravelOver hN hn (dst_b _ _)) ?_
  exact wp_s rfl
theorem cnodeCount (hn : CN u n N) : f_X2_nodeCount (n + 1) u = some (nds N, u) := by
  obtain ⟨h9, ⟨-, -, -, -, a4, a5, -⟩, -⟩ := hn
  refine wp_eq ?_
  unfold f_X2_nodeCount
  refine wp_g (net_grid h9).1 ?_
  rw [a4, a5]
  exact wp_s rfl
theorem cnodeX {m : Int} (hN : NWF N) (hn : CN u n N) (hm : 0 ≤ m ∧ m < 1000) : f_X2_nodeX (n + 1) m u = some (ndX N m, u) := by
  obtain ⟨n0, n1, n2, n3, n4, n5, n6, n7, n8, n9, n10, n11, n12, n13, n14, nS, nR⟩ := hN
  obtain ⟨h9, ⟨-, -, a2, a3, a4, a5, a6, -⟩, -⟩ := hn
  refine wp_eq ?_
  unfold f_X2_nodeX
  refine wp_g (net_grid h9).1 ?_
  repeat (first | (with_reducible refine wp_L ?_) | (with_reducible refine wp_g ?_ ?_; · omega) | (with_reducible refine wp_f ?_ ?_; · omega) | (with_reducible refine wp_t ?_ ?_; · omega))
  rw [a2, a4]
  exact wp_s (by show (N 0 2 + m.tmod (N 0 4) * u (n + 1) 4, u) = _; rw [a6]; rfl)
theorem cnodeY {m : Int} (hN : NWF N) (hn : CN u n N) (hm : 0 ≤ m ∧ m < 1000) : f_X2_nodeY (n + 1) m u = some (ndY N m, u) := by
  obtain ⟨n0, n1, n2, n3, n4, n5, n6, n7, n8, n9, n10, n11, n12, n13, n14, nS, nR⟩ := hN
  obtain ⟨h9, ⟨-, -, a2, a3, a4, a5, a6, -⟩, -⟩ := hn
  refine wp_eq ?_
  unfold f_X2_nodeY
  refine wp_g (net_grid h9).1 ?_
  repeat (first | (with_reducible refine wp_L ?_) | (with_reducible refine wp_g ?_ ?_; · omega) | (with_reducible refine wp_f ?_ ?_; · omega) | (with_reducible refine wp_t ?_ ?_; · omega))
  rw [a3, a4]
  exact wp_s (by show (N 0 3 + m.tdiv (N 0 4) * u (n + 1) 4, u) = _; rw [a6]; rfl)
theorem cmagnitudeOf {a : Int} (hN : NWF N) (hn : CN u n N) (ha : InR a) : f_X6_magnitudeOf (n + 2) a u = some (rung N a, u) := by
  obtain ⟨n0, n1, n2, n3, n4, n5, n6, n7, n8, n9, n10, n11, n12, n13, n14, nS, nR⟩ := hN
  have e1 := hn.2.1.2.1
  refine wp_eq ?_
  unfold f_X6_magnitudeOf
  refine wp_g (net_grid hn.1).2 ?_
  refine wl3 (fun f i v => v = u ∧ 0 ≤ i ∧ i ≤ N 0 1 ∧ f = rg N a i.toNat) (fun _ i _ => (N 0 1 - i).toNat) (fun go f i v hI hg => ?_) FU _ _ _ ⟨rfl, by omega, by omega, rfl⟩ (FU_l (by omega))
  obtain ⟨rfl, h0, h1, rfl⟩ := hI
  unfold s_X6_magnitudeOf_4
  refine wp_g (by omega) ?_
  refine wp_i (fun c => ?_) (fun c => ?_)
  · refine wp_s ?_
    rw [show i = N 0 1 by omega]
    rfl
  · have a1 : v (n + 2 + 1) i = N 3 i ∧ v (n + 2 + 2) i = N 4 i := hn.2.2.2.1 i h0 (by omega)
    have a2 := nR i h0 (by omega)
    have es : rg N a (i + 1).toNat = if N 3 i ≤ a then N 4 i else rg N a i.toNat := by
      obtain ⟨n, rfl⟩ := Int.eq_ofNat_of_zero_le h0
      rfl
    repeat (first | (with_reducible refine wp_L ?_) | (with_reducible refine wp_g ?_ ?_; · omega) | (with_reducible refine wp_f ?_ ?_; · omega) | (with_reducible refine wp_t ?_ ?_; · omega))
    refine wp_i (fun c => ?_) (fun c => ?_)
    · refine hg _ _ _ ⟨rfl, by omega, by omega, ?_⟩ (by omega)
      rw [es, if_neg (by omega)]
    · repeat (first | (with_reducible refine wp_L ?_) | (with_reducible refine wp_g ?_ ?_; · omega) | (with_reducible refine wp_f ?_ ?_; · omega) | (with_reducible refine wp_t ?_ ?_; · omega))
      refine hg _ _ _ ⟨rfl, by omega, by omega, ?_⟩ (by omega)
      rw [es, if_pos (by omega)]
      exact a1.2
theorem cpicksFit {p q : Int} (hN : NWF N) (hn : CN u n N) (hV : WFb N V) (hk : k < NN ∧ sT k = 11) (hm : CV u k V) (hp : 0 ≤ p ∧ p < V 0 1) (hq : 0 ≤ q ∧ q < V 0 1) : f_X7_picksFit k n p q u = some (if fit N V p q then 1 else 0, u) := by
  have hN2 := hN
  obtain ⟨n0, n1, n2, n3, n4, n5, n6, n7, n8, n9, n10, n11, n12, n13, n14, nS, nR⟩ := hN
  obtain ⟨b0, b1, b2, bS, bI, bP, bE⟩ := hV
  have e13 := hn.2.1.2.2.2.2.2.2.2.2.2.2.2.2.2.1
  have p8 := hm.ps hp.1 hp.2
  have q8 := hm.ps hq.1 hq.2
  have p9 := hm.pt hp.1 hp.2
  have q9 := hm.pt hq.1 hq.2
  have p12 := hm.pr hp.1 hp.2
  have q12 := hm.pr hq.1 hq.2
  have bp := bP p hp.1 hp.2
  have bq := bP q hq.1 hq.2
  have ab := absI_b (V 9 p - V 9 q)
  have tb := tvS_b hN2 (V 8 p) (V 8 q)
  refine wp_eq ?_
  unfold f_X7_picksFit
  refine wp_g ⟨hk, hn.1⟩ ?_
  repeat (first | (with_reducible refine wp_L ?_) | (with_reducible refine wp_g ?_ ?_; · omega) | (with_reducible refine wp_f ?_ ?_; · omega) | (with_reducible refine wp_t ?_ ?_; · omega))
  refine wp_i (fun c => ?_) (fun c => ?_)
  · refine wp_s ?_
    rw [if_neg (fun h => h.2.1 (by omega))]
  · repeat (first | (with_reducible refine wp_L ?_) | (with_reducible refine wp_g ?_ ?_; · omega) | (with_reducible refine wp_f ?_ ?_; · omega) | (with_reducible refine wp_t ?_ ?_; · omega))
    refine wp_i (fun c => ?_) (fun c => ?_)
    · refine wp_s ?_
      rw [if_neg (fun h => h.2.2.1 (by omega))]
    · repeat (first | (with_reducible refine wp_L ?_) | (with_reducible refine wp_g ?_ ?_; · omega) | (with_reducible refine wp_f ?_ ?_; · omega) | (with_reducible refine wp_t ?_ ?_; · omega))
      refine wp_i (fun c => ?_) (fun c => ?_)
      · refine wp_s ?_
        rw [if_neg (fun h => h.1 (by omega))]
      · repeat (first | (with_reducible refine wp_L ?_) | (with_reducible refine wp_g ?_ ?_; · omega) | (with_reducible refine wp_f ?_ ?_; · omega) | (with_reducible refine wp_t ?_ ?_; · omega))
        rw [p8, q8]
        refine wp_e (ctravelOfStations hN2 hn (by omega) (by omega)) ?_
        rw [e13, p9, q9]
        refine wp_g (by omega) ?_
        refine wp_i (fun c => ?_) (fun c => ?_)
        · refine wp_s ?_
          rw [if_neg (fun h => by have := h.2.2.2; omega)]
        · refine wp_s ?_
          rw [if_pos ⟨by omega, by omega, by omega, by omega⟩]
theorem cpicksOf {e : Int} (hV : WFb N V) (hk : k < NN ∧ sT k = 11) (hm : CV u k V) (he : InR e) : f_X7_picksOf k e u = some (pk V e, u) := by
  obtain ⟨b0, b1, b2, bS, bI, bP, bE⟩ := hV
  have e1 := hm.n
  refine wp_eq ?_
  unfold f_X7_picksOf
  refine wp_g hk ?_
  refine wl3 (fun f i v => v = u ∧ 0 ≤ i ∧ i ≤ V 0 1 ∧ f = sg (fun p => if V 11 p = e then 1 else 0) i.toNat) (fun _ i _ => (V 0 1 - i).toNat) (fun go f i v hI hg => ?_) FU _ _ _ ⟨rfl, by omega, by omega, rfl⟩ (FU_l (by omega))
  obtain ⟨rfl, h0, h1, rfl⟩ := hI
  unfold s_X7_picksOf_4
  refine wp_g (by omega) ?_
  refine wp_i (fun c => ?_) (fun c => ?_)
  · refine wp_s ?_
    rw [show i = V 0 1 by omega]
    rfl
  · have p11 := hm.pe h0 (by omega)
    have bp := bP i h0 (by omega)
    repeat (first | (with_reducible refine wp_L ?_) | (with_reducible refine wp_g ?_ ?_; · omega) | (with_reducible refine wp_f ?_ ?_; · omega) | (with_reducible refine wp_t ?_ ?_; · omega))
    refine wp_i (fun c => ?_) (fun c => ?_)
    · refine hg _ _ _ ⟨rfl, by omega, by omega, ?_⟩ (by omega)
      rw [sg_s h0, if_pos (by omega)]
    · refine hg _ _ _ ⟨rfl, by omega, by omega, ?_⟩ (by omega)
      rw [sg_s h0, if_neg (by omega)]
      omega
theorem cstandingEvents (hV : WFb N V) (hk : k < NN ∧ sT k = 11) (hm : CV u k V) : f_X7_standingEvents k u = some (lv V, u) := by
  obtain ⟨b0, b1, b2, bS, bI, bP, bE⟩ := hV
  have e2 := hm.e
  refine wp_eq ?_
  unfold f_X7_standingEvents
  refine wp_g hk ?_
  refine wl3 (fun f i v => v = u ∧ 0 ≤ i ∧ i ≤ V 0 2 ∧ f = sg (fun e => if V 14 e = 1 then 0 else 1) i.toNat) (fun _ i _ => (V 0 2 - i).toNat) (fun go f i v hI hg => ?_) FU _ _ _ ⟨rfl, by omega, by omega, rfl⟩ (FU_l (by omega))
  obtain ⟨rfl, h0, h1, rfl⟩ := hI
  unfold s_X7_standingEvents_4
  refine wp_g (by omega) ?_
  refine wp_i (fun c => ?_) (fun c => ?_)
  · refine wp_s ?_
    rw [show i = V 0 2 by omega]
    rfl
  · have r := hm.re h0 (by omega)
    have be := bE i h0 (by omega)
    repeat (first | (with_reducible refine wp_L ?_) | (with_reducible refine wp_g ?_ ?_; · omega) | (with_reducible refine wp_f ?_ ?_; · omega) | (with_reducible refine wp_t ?_ ?_; · omega))
    refine hg _ _ _ ⟨rfl, by omega, by omega, ?_⟩ (by omega)
    rw [sg_s h0]
    split <;> omega
theorem csampleAt {s t : Int} (hV : WFb N V) (hk : k < NN ∧ sT k = 11) (hm : CV u k V) (hs : 0 ≤ s ∧ s < 8) (ht : -1000 ≤ t ∧ t ≤ 20000) : f_X7_sampleAt k s t u = some (smA V s t, u) := by
  refine wp_eq ?_
  unfold f_X7_sampleAt
  refine wp_g hk ?_
  unfold smA
  repeat (first | (with_reducible refine wp_L ?_) | (with_reducible refine wp_g ?_ ?_; · omega) | (with_reducible refine wp_f ?_ ?_; · omega) | (with_reducible refine wp_t ?_ ?_; · omega))
  refine wp_i (fun c => ?_) (fun c => ?_)
  · rw [if_neg (by omega)]
    have et : t.tmod 99 = t % 99 := tmd (by omega) 99
    have r := hm.sm (s := 99 * s + t % 99) (by omega) (by omega)
    rw [et]
    repeat (first | (with_reducible refine wp_L ?_) | (with_reducible refine wp_g ?_ ?_; · omega) | (with_reducible refine wp_f ?_ ?_; · omega) | (with_reducible refine wp_t ?_ ?_; · omega))
    rw [show s * 99 + t % 99 = 99 * s + t % 99 by omega, r]
    exact wp_s rfl
  · rw [if_pos (by omega)]
    repeat (first | (with_reducible refine wp_L ?_) | (with_reducible refine wp_g ?_ ?_; · omega) | (with_reducible refine wp_f ?_ ?_; · omega) | (with_reducible refine wp_t ?_ ?_; · omega))
    exact wp_s rfl
/-- what would be after some ticks at a level -/
def sma (V : uS) (s l t : Int) (b : Int) : Int := if b < t then l else smA V s (V 0 0 - (b - t))
theorem cfitsAllOf {e p : Int} (hN : NWF N) (hn : CN u n N) (hV : WFb N V) (hk : k < NN ∧ sT k = 11) (hm : CV u k V) (hp : 0 ≤ p ∧ p < V 0 1) (he : InR e) (h11 : V 11 p ≠ e) : f_X0_fitsAllOf n k e p u = some (cif (fitA N V e p) 1 0, u) := by
  have hV2 := hV
  obtain ⟨b0, b1, b2, bS, bI, bP, bE⟩ := hV
  have e1 := hm.n
  refine wp_eq ?_
  unfold f_X0_fitsAllOf
  refine wp_g ⟨hn.1, hk⟩ ?_
  refine wl2 (fun i v => v = u ∧ 0 ≤ i ∧ i ≤ V 0 1 ∧ ∀ q, 0 ≤ q → q < i → V 11 q = e → q ≠ p → fit N V q p) (fun i _ => (V 0 1 - i).toNat) (fun go i v hI hg => ?_) FU _ _ ⟨rfl, by omega, by omega, fun q h1 h2 => by omega⟩ (FU_l (by omega))
  obtain ⟨rfl, h0, h1, hf⟩ := hI
  unfold s_X0_fitsAllOf_3
  refine wp_g (by omega) ?_
  refine wp_i (fun c => ?_) (fun c => ?_)
  · refine wp_s ?_
    rw [cif_t (show fitA N V e p from fun q h2 h3 => hf q h2 (by omega))]
  · have p11 := hm.pe h0 (by omega)
    have bp := bP i h0 (by omega)
    repeat (first | (with_reducible refine wp_L ?_) | (with_reducible refine wp_g ?_ ?_; · omega) | (with_reducible refine wp_f ?_ ?_; · omega) | (with_reducible refine wp_t ?_ ?_; · omega))
    refine wp_i (fun c => ?_) (fun c => ?_)
    · refine wp_e (cpicksFit hN hn hV2 hk hm ⟨h0, by omega⟩ hp) ?_
      by_cases c9 : fit N V i p
      · rw [if_pos c9]
        repeat (first | (with_reducible refine wp_L ?_) | (with_reducible refine wp_g ?_ ?_; · omega) | (with_reducible refine wp_f ?_ ?_; · omega) | (with_reducible refine wp_t ?_ ?_; · omega))
        exact hg _ _ ⟨rfl, by omega, by omega, fun q q1 q2 q3 q4 => by
          by_cases hq : q = i
          · subst hq; exact c9
          · exact hf q q1 (by omega) q3 q4⟩ (by omega)
      · rw [if_neg c9]
        repeat (first | (with_reducible refine wp_L ?_) | (with_reducible refine wp_g ?_ ?_; · omega) | (with_reducible refine wp_f ?_ ?_; · omega) | (with_reducible refine wp_t ?_ ?_; · omega))
        refine wp_s ?_
        rw [cif_f (fun h => c9 (h i h0 (by omega) (by omega) (fun h => by subst h; omega)))]
    · exact hg _ _ ⟨rfl, by omega, by omega, fun q q1 q2 q3 q4 => by
        by_cases hq : q = i
        · subst hq; omega
        · exact hf q q1 (by omega) q3 q4⟩ (by omega)
end CQ
