/-! pure part, 11: the class's tick -/
/-- nothing but the situation at k and the engine has changed -/
def FrK (k : Nat) (u u' : uS) : Prop := ∀ c, c ≠ 28 → c ≠ 29 → (c < k ∨ k + 15 ≤ c) → u' c = u c
theorem FrK.rf {k : Nat} {u : uS} : FrK k u u := fun _ _ _ _ => rfl
theorem FrK.tr {k : Nat} {u v w : uS} (h : FrK k u v) (h2 : FrK k v w) : FrK k u w := fun c h3 h4 h5 => (h2 c h3 h4 h5).trans (h c h3 h4 h5)
theorem FrK.st {k : Nat} {u v : uS} (h : FrK k u v) {j : Nat} {s x : Int} (hj : j < 15) : FrK k u (up v (k + j) s x) := fun c h3 h4 h5 => (up_c (by omega)).trans (h c h3 h4 h5)
theorem FrK.e8 {k : Nat} {u v : uS} (h : FrK k u v) {s x : Int} : FrK k u (up v 28 s x) := fun c h3 h4 h5 => (up_c h3).trans (h c h3 h4 h5)
theorem FrK.e9 {k : Nat} {u v : uS} (h : FrK k u v) {s x : Int} : FrK k u (up v 29 s x) := fun c h3 h4 h5 => (up_c h4).trans (h c h3 h4 h5)
theorem CN.fr {k n : Nat} {u u' N : uS} (h : CN u n N) (hk : k < NN ∧ sT k = 11) (hf : FrK k u u') : CN u' n N := by
  have h1 := sit_at hk
  have h2 := net_at h.1
  exact h.row (fun j hj => hf _ (by omega) (by omega) (by omega))
theorem CV.cg {u V V' : uS} {k : Nat} (h : CV u k V) (e1 : V' 0 1 = V 0 1) (e2 : V' 0 2 = V 0 2) (e : ∀ j s, vd (V 0 1) (V 0 2) j s → V j s = V' j s) : CV u k V' := by
  unfold CV
  rw [e1, e2]
  exact VE.cg h e
theorem lat_cg {V V' : uS} (h2 : V' 2 = V 2) (h0 : V' 0 0 = V 0 0) (s m : Int) : lat V' s m = lat V s m := by
  unfold lat smA
  rw [h2, h0]
theorem CL.cg {N u u' V V' : uS} {k : Nat} (h : CL N u k V) (h3 : u' (k + 3) = u (k + 3)) (h4 : u' (k + 4) = u (k + 4)) (h2 : V' 2 = V 2) (h0 : V' 0 0 = V 0 0) : CL N u' k V' := fun s q0 q1 => by
  rw [lat_cg h2 h0, lat_cg h2 h0, h3, h4]
  exact h s q0 q1
/-- the sums, one tick on -/
theorem lat_smp {V : uS} {n s m : Int} (hs : 0 ≤ s ∧ s < n) (hm : 1 ≤ m ∧ m ≤ 99) (ht : 0 ≤ V 0 0) : lat (smp V n) s m = lat V s m + (V 1 s - smA V s (V 0 0 + 1 - m)) := by
  obtain ⟨d, rfl⟩ : ∃ d : Nat, m = (d : Int) + 1 := ⟨(m - 1).toNat, by omega⟩
  have e1 : lat (smp V n) s ((d : Int) + 1) = sg (fun b => smA (smp V n) s (V 0 0 + 1 - b)) (d + 1) := by
    unfold lat
    rw [show ((d : Int) + 1).toNat = d + 1 by omega]
    rfl
  have e2 : lat V s ((d : Int) + 1) = sg (fun b => smA V s (V 0 0 - b)) d + smA V s (V 0 0 - (d : Int)) := by
    unfold lat
    rw [show ((d : Int) + 1).toNat = d + 1 by omega]
    rfl
  rw [e1, e2, sg_h, show V 0 0 + 1 - ((d : Int) + 1) = V 0 0 - (d : Int) by omega]
  have e3 : smA (smp V n) s (V 0 0 + 1 - 0) = V 1 s := by
    unfold smA smp
    rw [if_neg (by omega), if_neg (by omega), if_pos ⟨rfl, by omega, by omega, by omega⟩]
    congr 1
    omega
  have e4 : sg (fun i => smA (smp V n) s (V 0 0 + 1 - (i + 1))) d = sg (fun b => smA V s (V 0 0 - b)) d := by
    refine sg_c (fun i h0 h1 => ?_)
    rw [show V 0 0 + 1 - (i + 1) = V 0 0 - i by omega]
    unfold smA
    by_cases h : V 0 0 - i ≤ 0
    · rw [if_pos h, if_pos h]
    · rw [if_neg h, if_neg h]
      unfold smp
      rw [if_neg (by omega), if_neg (by omega)]
  rw [e4, e3]
  omega
theorem smA_smp {V : uS} {i t : Int} (hi : 0 ≤ i) : smA (smp V i) i t = smA V i t := by
  unfold smA
  by_cases h : t ≤ 0
  · rw [if_pos h, if_pos h]
  · rw [if_neg h, if_neg h]
    unfold smp
    rw [if_neg (by omega), if_neg (by omega)]
section CT
variable {u N V : uS} {n k : Nat}
theorem ctakeSample {i : Int} (hN : NWF N) (hn : CN u n N) (hV : WFb N V) (ht : V 0 0 ≤ 10198) (hk : k < NN ∧ sT k = 11) (hm : CV u k (smp V i)) (hi : 0 ≤ i ∧ i < N 0 0) :
    wp (f_X7_takeSample k n i u) (fun q => FrK k u q.2 ∧ CV q.2 k (smp V (i + 1)) ∧ (∀ s, s ≠ i → q.2 (k + 3) s = u (k + 3) s ∧ q.2 (k + 4) s = u (k + 4) s) ∧ q.2 (k + 3) i = u (k + 3) i + (V 1 i - smA V i (V 0 0 + 1 - N 0 8)) ∧ q.2 (k + 4) i = u (k + 4) i + (V 1 i - smA V i (V 0 0 + 1 - N 0 9))) := by
  have hkk := sit_at hk
  have hnn := net_at hn.1
  have hW := hV
  obtain ⟨n0, n1, n2, n3, n4, n5, n6, n7, n8, n9, n10, n11, n12, n13, n14, nS, nR⟩ := hN
  obtain ⟨b0, b1, b2, bS, bI, bP, bE⟩ := hV
  obtain ⟨h9, ⟨-, -, -, -, -, -, -, -, a8, a9, -⟩, -⟩ := hn
  have e0 : u k 0 = V 0 0 + 1 := hm.t
  have e1 : u (k + 1) i = V 1 i := hm.lv hi.1 (by omega)
  have et : (V 0 0 + 1).tmod 99 = (V 0 0 + 1) % 99 := tmd (by omega) 99
  -- the bounds of the situation half sampled
  have hWb : WFb N (smp V i) := by
    refine ⟨by show 0 ≤ V 0 0 + 1 ∧ V 0 0 + 1 ≤ 10199; omega, b1, b2, bS, fun q h1 h2 => ?_, bP, bE⟩
    show 0 ≤ smp V i 2 q ∧ smp V i 2 q ≤ 9999
    unfold smp
    rw [if_neg (by omega)]
    by_cases h3 : (2 : Nat) = 2 ∧ 0 ≤ q ∧ q < 99 * i ∧ q % 99 = (V 0 0 + 1) % 99
    · rw [if_pos h3]; exact (bS (q / 99) (by omega) (by omega)).1
    · rw [if_neg h3]; exact bI q h1 h2
  unfold f_X7_takeSample
  refine wp_g ⟨hk, h9⟩ ?_
  rw [e0]
  repeat (first | (with_reducible refine wp_L ?_) | (with_reducible refine wp_g ?_ ?_; · omega) | (with_reducible refine wp_f ?_ ?_; · omega) | (with_reducible refine wp_t ?_ ?_; · omega))
  rw [e1, a8]
  refine wp_e (csampleAt hWb hk hm (s := i) (by omega) (by omega)) ?_
  rw [smA_smp hi.1]
  repeat (first | (with_reducible refine wp_g ?_ ?_; · omega) | (with_reducible refine wp_f ?_ ?_; · omega) | (with_reducible refine wp_t ?_ ?_; · omega))
  refine wp_l (fun w1 g1 => ?_)
  repeat (first | (with_reducible refine wp_g ?_ ?_; · omega) | (with_reducible refine wp_f ?_ ?_; · omega) | (with_reducible refine wp_t ?_ ?_; · omega))
  have m1 : CV w1 k (smp V i) := by
    rw [g1]
    intro j s hv
    have hj : j ≠ 3 := by unfold vd at hv; omega
    exact (up_k (by omega)).trans (hm j s hv)
  have e01 : w1 k 0 = V 0 0 + 1 := m1.t
  have a91 : w1 n 4 = N 0 9 := by rw [g1]; exact (up_k (by omega)).trans a9
  rw [e01, a91]
  refine wp_e (csampleAt hWb hk m1 (s := i) (by omega) (by omega)) ?_
  rw [smA_smp hi.1]
  repeat (first | (with_reducible refine wp_g ?_ ?_; · omega) | (with_reducible refine wp_f ?_ ?_; · omega) | (with_reducible refine wp_t ?_ ?_; · omega))
  refine wp_l (fun w2 g2 => ?_)
  repeat (first | (with_reducible refine wp_L ?_) | (with_reducible refine wp_g ?_ ?_; · omega) | (with_reducible refine wp_f ?_ ?_; · omega) | (with_reducible refine wp_t ?_ ?_; · omega))
  refine wp_s ?_
  have m2 : CV w2 k (smp V i) := by
    rw [g2]
    intro j s hv
    have hj : j ≠ 4 := by unfold vd at hv; omega
    exact (up_k (by omega)).trans (m1 j s hv)
  have f1 : FrK k u w1 := by rw [g1]; exact FrK.rf.st (by omega)
  have f2 : FrK k u w2 := by rw [g2]; exact f1.st (by omega)
  refine ⟨f2.st (by omega), ?_, fun s hs => ⟨?_, ?_⟩, ?_, ?_⟩
  · refine CV.cg (V := up (smp V i) 2 (99 * i + (V 0 0 + 1) % 99) (V 1 i)) (VE.stC m2 2 (99 * i + (V 0 0 + 1) % 99) (V 1 i) ?_ rfl) rfl rfl (fun j s _ => smp_s hi.1 b0.1)
    show up w2 (k + 2) (i * 99 + (V 0 0 + 1).tmod 99) (V 1 i) = _
    rw [et, show i * 99 + (V 0 0 + 1) % 99 = 99 * i + (V 0 0 + 1) % 99 by omega]
  · refine (up_k (by omega)).trans ?_
    rw [g2, up_k (by omega), g1]
    exact up_j hs
  · refine (up_k (by omega)).trans ?_
    rw [g2]
    refine (up_j hs).trans ?_
    rw [g1, up_k (by omega)]
  · refine (up_k (by omega)).trans ?_
    rw [g2, up_k (by omega), g1, up_s]
  · refine (up_k (by omega)).trans ?_
    rw [g2, up_s, g1, up_k (by omega)]
theorem craisePeak {p x : Int} (hV : WFb N V) (hk : k < NN ∧ sT k = 11) (hm : CV u k V) (hp : 0 ≤ p ∧ p < V 0 1) (hx : InR x) :
    f_X0_raisePeak k p x u = some (0, up u (k + 10) p (maxI (V 10 p) x)) := by
  obtain ⟨b0, b1, b2, bS, bI, bP, bE⟩ := hV
  have r := hm.pp hp.1 hp.2
  have bp := bP p hp.1 hp.2
  refine wp_eq ?_
  unfold f_X0_raisePeak
  refine wp_g hk ?_
  repeat (first | (with_reducible refine wp_L ?_) | (with_reducible refine wp_g ?_ ?_; · omega) | (with_reducible refine wp_f ?_ ?_; · omega) | (with_reducible refine wp_t ?_ ?_; · omega))
  rw [r]
  exact wp_s rfl
theorem caddPick {s x : Int} (hV : WFb N V) (hk : k < NN ∧ sT k = 11) (hm : CV u k V) (hs : 0 ≤ s ∧ s < 8) (hx : x = V 1 s) (h1 : V 0 1 < 60) (h5 : V 5 s = 1) :
    wp (f_X7_addPick k s x u) (fun q => FrK k u q.2 ∧ CV q.2 k (ap V s) ∧ q.2 (k + 3) = u (k + 3) ∧ q.2 (k + 4) = u (k + 4)) := by
  have hkk := sit_at hk
  obtain ⟨b0, b1, b2, bS, bI, bP, bE⟩ := hV
  have e1 := hm.n
  have e0 := hm.t
  unfold f_X7_addPick
  refine wp_g hk ?_
  repeat (first | (with_reducible refine wp_g ?_ ?_; · omega) | (with_reducible refine wp_f ?_ ?_; · omega) | (with_reducible refine wp_t ?_ ?_; · omega))
  rw [e1]
  repeat (first | (with_reducible refine wp_g ?_ ?_; · omega) | (with_reducible refine wp_f ?_ ?_; · omega) | (with_reducible refine wp_t ?_ ?_; · omega))
  refine wp_l (fun w1 g1 => ?_)
  have s1 := VE.stC hm 8 (V 0 1) s g1 rfl
  have r1 : w1 k 1 = V 0 1 := by rw [g1]; exact (up_k (by omega)).trans e1
  have t1 : w1 k 0 = V 0 0 := by rw [g1]; exact (up_k (by omega)).trans e0
  have f1 : FrK k u w1 := by rw [g1]; exact FrK.rf.st (by omega)
  have q1 : ∀ c, c ≤ k + 7 → w1 c = u c := fun c hc => by rw [g1]; exact up_c (by omega)
  rw [r1, t1]
  repeat (first | (with_reducible refine wp_g ?_ ?_; · omega) | (with_reducible refine wp_f ?_ ?_; · omega) | (with_reducible refine wp_t ?_ ?_; · omega))
  refine wp_l (fun w2 g2 => ?_)
  have s2 := VE.stC s1 9 (V 0 1) (V 0 0) g2 rfl
  have r2 : w2 k 1 = V 0 1 := by rw [g2]; exact (up_k (by omega)).trans r1
  have f2 : FrK k u w2 := by rw [g2]; exact f1.st (by omega)
  have q2 : ∀ c, c ≤ k + 7 → w2 c = u c := fun c hc => by rw [g2]; exact (up_c (by omega)).trans (q1 c hc)
  rw [r2]
  repeat (first | (with_reducible refine wp_g ?_ ?_; · omega) | (with_reducible refine wp_f ?_ ?_; · omega) | (with_reducible refine wp_t ?_ ?_; · omega))
  refine wp_l (fun w3 g3 => ?_)
  have s3 := VE.stC s2 10 (V 0 1) (V 1 s) g3 hx
  have r3 : w3 k 1 = V 0 1 := by rw [g3]; exact (up_k (by omega)).trans r2
  have f3 : FrK k u w3 := by rw [g3]; exact f2.st (by omega)
  have q3 : ∀ c, c ≤ k + 7 → w3 c = u c := fun c hc => by rw [g3]; exact (up_c (by omega)).trans (q2 c hc)
  rw [r3]
  repeat (first | (with_reducible refine wp_g ?_ ?_; · omega) | (with_reducible refine wp_f ?_ ?_; · omega) | (with_reducible refine wp_t ?_ ?_; · omega))
  refine wp_l (fun w4 g4 => ?_)
  have s4 := VE.stC s3 11 (V 0 1) (-1) g4 rfl
  have r4 : w4 k 1 = V 0 1 := by rw [g4]; exact (up_k (by omega)).trans r3
  have f4 : FrK k u w4 := by rw [g4]; exact f3.st (by omega)
  have q4 : ∀ c, c ≤ k + 7 → w4 c = u c := fun c hc => by rw [g4]; exact (up_c (by omega)).trans (q3 c hc)
  rw [r4]
  repeat (first | (with_reducible refine wp_g ?_ ?_; · omega) | (with_reducible refine wp_f ?_ ?_; · omega) | (with_reducible refine wp_t ?_ ?_; · omega))
  refine wp_l (fun w5 g5 => ?_)
  have s5 := VE.stC s4 12 (V 0 1) 0 g5 rfl
  have r5 : w5 k 1 = V 0 1 := by rw [g5]; exact (up_k (by omega)).trans r4
  have f5 : FrK k u w5 := by rw [g5]; exact f4.st (by omega)
  have q5 : ∀ c, c ≤ k + 7 → w5 c = u c := fun c hc => by rw [g5]; exact (up_c (by omega)).trans (q4 c hc)
  rw [r5]
  repeat (first | (with_reducible refine wp_g ?_ ?_; · omega) | (with_reducible refine wp_f ?_ ?_; · omega) | (with_reducible refine wp_t ?_ ?_; · omega))
  refine wp_l (fun w6 g6 => ?_)
  have s6 := VE.stC s5 7 s (V 0 1) g6 rfl
  have r6 : w6 k 1 = V 0 1 := by rw [g6]; exact (up_k (by omega)).trans r5
  have f6 : FrK k u w6 := by rw [g6]; exact f5.st (by omega)
  have q6 : ∀ c, c ≤ k + 6 → w6 c = u c := fun c hc => by rw [g6]; exact (up_c (by omega)).trans (q5 c (by omega))
  refine wp_l (fun w7 g7 => ?_)
  have s7 := VE.stC s6 0 1 (V 0 1 + 1) g7 (congrArg (· + 1) r6)
  refine wp_s ⟨?_, ?_, ?_, ?_⟩
  · show FrK k u w7
    rw [g7]; exact f6.st (j := 0) (by omega)
  · have s8 : VE (V 0 1 + 1) (V 0 2) (fun j s => w7 (k + j) s) (up (up (up (up (up (up (up V 8 (V 0 1) s) 9 (V 0 1) (V 0 0)) 10 (V 0 1) (V 1 s)) 11 (V 0 1) (-1)) 12 (V 0 1) 0) 7 s (V 0 1)) 0 1 (V 0 1 + 1)) := by
      refine VE.extP s7 (fun j j1 j2 => ?_)
      have hw : w7 (k + j) = w5 (k + j) := by rw [g7, g6]; exact (up_c (by omega)).trans (up_c (by omega))
      show w7 (k + j) (V 0 1) = _
      rw [hw]
      have h3 : j = 8 ∨ j = 9 ∨ j = 10 ∨ j = 11 ∨ j = 12 := by omega
      rcases h3 with rfl | rfl | rfl | rfl | rfl
      · rw [g5, up_k (by omega), g4, up_k (by omega), g3, up_k (by omega), g2, up_k (by omega), g1, up_s]
        exact (up_s _ 8 _ _).symm
      · rw [g5, up_k (by omega), g4, up_k (by omega), g3, up_k (by omega), g2, up_s]
        exact (up_s _ 9 _ _).symm
      · rw [g5, up_k (by omega), g4, up_k (by omega), g3, up_s, hx]
        exact (up_s _ 10 _ _).symm
      · rw [g5, up_k (by omega), g4, up_s]
        exact (up_s _ 11 _ _).symm
      · rw [g5, up_s]
        exact (up_s _ 12 _ _).symm
    refine VE.cg s8 (fun j q hv => ?_)
    unfold ap
    by_cases hj : j = 5
    · subst hj
      have e5 : up (up (up (up (up (up (up V 8 (V 0 1) s) 9 (V 0 1) (V 0 0)) 10 (V 0 1) (V 1 s)) 11 (V 0 1) (-1)) 12 (V 0 1) 0) 7 s (V 0 1)) 0 1 (V 0 1 + 1) 5 q = V 5 q := rfl
      rw [e5]
      by_cases hq : q = s
      · subst hq; rw [h5]; exact (up_s _ 5 _ _).symm
      · exact (up_j (k := 5) hq).symm
    · by_cases h7 : j = 7
      · subst h7
        by_cases hq : q = s
        · subst hq; exact (up_s _ 7 _ _).trans (up_s _ 7 _ _).symm
        · exact (up_j (k := 7) hq).trans (up_j (k := 7) hq).symm
      · by_cases h0 : j = 0
        · subst h0
          by_cases hq : q = 1
          · subst hq; exact (up_s _ 0 _ _).trans ((up_k (by decide)).trans ((up_k (by decide)).trans (up_s _ _ _ _))).symm
          · exact (up_j (k := 0) hq).trans (up_j (k := 0) hq).symm
        · rw [up_k h0, up_k h7, up_k h7, up_k hj, up_k h0]
  · show w7 (k + 3) = u (k + 3)
    rw [g7]; exact (up_c (by omega)).trans (q6 _ (by omega))
  · show w7 (k + 4) = u (k + 4)
    rw [g7]; exact (up_c (by omega)).trans (q6 _ (by omega))
theorem cjudge {s : Int} (hN : NWF N) (hn : CN u n N) (hV : WFc N V) (hm : CS N u k V) (hs : 0 ≤ s ∧ s < N 0 0) :
    wp (f_X0_judge n k s u) (fun q => FrK k u q.2 ∧ ((q.1 = 0 ∧ CS N q.2 k (jd N V s)) ∨ (q.1 = 1 ∧ CS N q.2 k (ap V s) ∧ jd N V s = vt N (ap V s) (V 0 1) ∧ V 6 s = 0 ∧ V 0 1 < 60))) := by
  have hk := hm.1
  have hL := hm.2.2
  have hM := hm.2.1
  have hkk := sit_at hk
  have hnn := net_at hn.1
  have hVb := hV.1
  have xS := hV.2.1
  have hVc := hV
  have hN2 := hN
  have rb := rto_b hN hVb (s := s) (by have := hN.1; omega)
  have lb8 := lat_b hVb (s := s) (by have := hN.1; omega) (m := N 0 8) (by have := hN.2.2.2.2.2.2.2.2.1; omega)
  have lb9 := lat_b hVb (s := s) (by have := hN.1; omega) (m := N 0 9) (by have := hN.2.2.2.2.2.2.2.2.1; have := hN.2.2.2.2.2.2.2.2.2.1; omega)
  obtain ⟨n0, n1, n2, n3, n4, n5, n6, n7, n8, n9, n10, n11, n12, n13, n14, nS, nR⟩ := hN
  obtain ⟨hV, -⟩ := hV
  obtain ⟨b0, b1, b2, bS, bI, bP, bE⟩ := hV
  have xs := xS s hs.1 (by omega)
  have cs := bS s hs.1 (by omega)
  have l := hL s hs.1 hs.2
  have r1 := hM.lv hs.1 (s := s) (by omega)
  have r5 := hM.on hs.1 (s := s) (by omega)
  have r6 := hM.mu hs.1 (s := s) (by omega)
  have r7 := hM.la hs.1 (s := s) (by omega)
  have rn := hM.n
  have rt := hM.t
  have hn2 := hn
  obtain ⟨h9, ⟨a0, -, -, -, -, -, -, -, a8, a9, a10, a11, -⟩, -⟩ := hn
  unfold f_X0_judge
  refine wp_g ⟨h9, hk⟩ ?_
  repeat (first | (with_reducible refine wp_L ?_) | (with_reducible refine wp_g ?_ ?_; · omega) | (with_reducible refine wp_f ?_ ?_; · omega) | (with_reducible refine wp_t ?_ ?_; · omega))
  rw [l.1, l.2]
  refine wp_e (cratioOf hN2 hn2 lb8 lb9) ?_
  rw [show rat N (lat V s (N 0 8)) (lat V s (N 0 9)) = rto N V s from rfl]
  repeat (first | (with_reducible refine wp_L ?_) | (with_reducible refine wp_g ?_ ?_; · omega) | (with_reducible refine wp_f ?_ ?_; · omega) | (with_reducible refine wp_t ?_ ?_; · omega))
  refine wp_i (fun c => ?_) (fun c => ?_)
  · have h5 : V 5 s = 1 := by omega
    have x7 := xs.2 h5
    have bp := bP (V 7 s) x7.2.1 x7.2.2
    have ej : jd N V s = rp N V s := by
      unfold jd
      rw [if_pos h5]
    repeat (first | (with_reducible refine wp_L ?_) | (with_reducible refine wp_g ?_ ?_; · omega) | (with_reducible refine wp_f ?_ ?_; · omega) | (with_reducible refine wp_t ?_ ?_; · omega))
    rw [r7, r1]
    refine wp_e (craisePeak hVb hk hM ⟨x7.2.1, x7.2.2⟩ (by omega)) ?_
    have a11' : up u (k + 10) (V 7 s) (maxI (V 10 (V 7 s)) (V 1 s)) n 6 = N 0 11 := (up_k (by omega)).trans a11
    have s1 := VE.stC hM 10 (V 7 s) (maxI (V 10 (V 7 s)) (V 1 s)) rfl rfl
    have f1 : FrK k u (up u (k + 10) (V 7 s) (maxI (V 10 (V 7 s)) (V 1 s))) := FrK.rf.st (by omega)
    have fin : ∀ w o, (∀ c, w c = up (up u (k + 10) (V 7 s) (maxI (V 10 (V 7 s)) (V 1 s))) (k + 5) s o c) → o = (if rto N V s < N 0 11 then 0 else 1) → FrK k u w ∧ CS N w k (jd N V s) := by
      intro w o hw ho
      have hwe : w = up (up u (k + 10) (V 7 s) (maxI (V 10 (V 7 s)) (V 1 s))) (k + 5) s o := funext hw
      refine ⟨by rw [hwe]; exact f1.st (by omega), hk, ?_, ?_⟩
      · rw [ej]
        have s2 := VE.stC s1 5 s o hwe rfl
        unfold rp
        rw [← ho]
        exact s2
      · refine CL.cg hL ?_ ?_ ?_ ?_
        · rw [hwe]; exact (up_c (by omega)).trans (up_c (by omega))
        · rw [hwe]; exact (up_c (by omega)).trans (up_c (by omega))
        · rw [ej]; exact funext fun i => rfl
        · rw [ej]; rfl
    refine wp_g (by omega) ?_
    refine wp_i (fun c => ?_) (fun c => ?_)
    · refine wp_s ?_
      have := fin (up u (k + 10) (V 7 s) (maxI (V 10 (V 7 s)) (V 1 s))) 1 (fun c => by
        funext b
        by_cases hb : c = k + 5 ∧ b = s
        · obtain ⟨rfl, rfl⟩ := hb
          rw [up_s, up_k (by omega), r5, h5]
        · exact (if_neg hb).symm) (by rw [if_neg (by omega)])
      exact ⟨this.1, Or.inl ⟨rfl, this.2⟩⟩
    · repeat (first | (with_reducible refine wp_L ?_) | (with_reducible refine wp_g ?_ ?_; · omega) | (with_reducible refine wp_f ?_ ?_; · omega) | (with_reducible refine wp_t ?_ ?_; · omega))
      refine wp_s ?_
      have := fin _ 0 (fun c => rfl) (by rw [if_pos (by omega)])
      exact ⟨this.1, Or.inl ⟨rfl, this.2⟩⟩
  · have h5 : ¬ V 5 s = 1 := by omega
    have ejn : ¬ (N 0 9 ≤ V 0 0 ∧ V 6 s = 0 ∧ V 0 1 < 60 ∧ N 0 10 ≤ rto N V s) → jd N V s = V := fun h => by
      unfold jd
      rw [if_neg h5, if_neg h]
    have nope : ¬ (N 0 9 ≤ V 0 0 ∧ V 6 s = 0 ∧ V 0 1 < 60 ∧ N 0 10 ≤ rto N V s) → wp (some ((0 : Int), u)) (fun q => FrK k u q.2 ∧ ((q.1 = 0 ∧ CS N q.2 k (jd N V s)) ∨ (q.1 = 1 ∧ CS N q.2 k (ap V s) ∧ jd N V s = vt N (ap V s) (V 0 1) ∧ V 6 s = 0 ∧ V 0 1 < 60))) := fun h =>
      wp_s ⟨FrK.rf, Or.inl ⟨rfl, by rw [ejn h]; exact hm⟩⟩
    repeat (first | (with_reducible refine wp_L ?_) | (with_reducible refine wp_g ?_ ?_; · omega) | (with_reducible refine wp_f ?_ ?_; · omega) | (with_reducible refine wp_t ?_ ?_; · omega))
    refine wp_i (fun c => ?_) (fun c => ?_)
    · repeat (first | (with_reducible refine wp_L ?_) | (with_reducible refine wp_g ?_ ?_; · omega) | (with_reducible refine wp_f ?_ ?_; · omega) | (with_reducible refine wp_t ?_ ?_; · omega))
      exact nope (by omega)
    · repeat (first | (with_reducible refine wp_L ?_) | (with_reducible refine wp_g ?_ ?_; · omega) | (with_reducible refine wp_f ?_ ?_; · omega) | (with_reducible refine wp_t ?_ ?_; · omega))
      refine wp_i (fun c => ?_) (fun c => ?_)
      · repeat (first | (with_reducible refine wp_L ?_) | (with_reducible refine wp_g ?_ ?_; · omega) | (with_reducible refine wp_f ?_ ?_; · omega) | (with_reducible refine wp_t ?_ ?_; · omega))
        refine wp_i (fun c => ?_) (fun c => ?_)
        · exact nope (by omega)
        · repeat (first | (with_reducible refine wp_L ?_) | (with_reducible refine wp_g ?_ ?_; · omega) | (with_reducible refine wp_f ?_ ?_; · omega) | (with_reducible refine wp_t ?_ ?_; · omega))
          refine wp_i (fun c => ?_) (fun c => ?_)
          · repeat (first | (with_reducible refine wp_g ?_ ?_; · omega) | (with_reducible refine wp_f ?_ ?_; · omega) | (with_reducible refine wp_t ?_ ?_; · omega))
            refine wp_l (fun w1 g1 => ?_)
            have s1 := VE.stC hM 5 s 1 g1 rfl
            have hWb : WFb N (up V 5 s 1) := by
              refine ⟨b0, b1, b2, fun q h0 h1 => ?_, bI, bP, bE⟩
              have b := bS q h0 h1
              refine ⟨b.1, ?_, b.2.2⟩
              by_cases h : q = s
              · subst h; rw [up_s]; omega
              · rw [up_j h]; exact b.2.1
            rw [r1]
            refine wp_b (caddPick hWb hk s1 (s := s) (by omega) rfl (show V 0 1 < 60 by omega) (up_s _ _ _ _)) (fun r w2 h => wp_s ?_)
            have eap : ap (up V 5 s 1) s = ap V s := by
              unfold ap
              funext j q
              by_cases hj : j = 5 ∧ q = s
              · obtain ⟨rfl, rfl⟩ := hj
                exact ((up_k (by decide)).trans (up_s _ _ _ _)).trans ((up_k (by decide)).trans (up_s _ _ _ _)).symm
              · have e0 : up V 5 s 1 j q = V j q := if_neg hj
                have e1 : up V 5 s 1 0 1 = V 0 1 := rfl
                have e2 : up V 5 s 1 0 0 = V 0 0 := rfl
                have e3 : up V 5 s 1 1 s = V 1 s := rfl
                rw [e1, e2, e3]
                unfold up at e0 ⊢
                rw [e0]
            rw [eap] at h
            have f1 : FrK k u w1 := by rw [g1]; exact FrK.rf.st (by omega)
            refine ⟨f1.tr h.1, Or.inr ⟨rfl, ⟨hk, h.2.1, ?_⟩, ?_, by omega, by omega⟩⟩
            · refine CL.cg hL ?_ ?_ (funext fun i => rfl) rfl
              · rw [h.2.2.1, g1]; exact up_c (by omega)
              · rw [h.2.2.2, g1]; exact up_c (by omega)
            · unfold jd
              rw [if_neg h5, if_pos ⟨by omega, by omega, by omega, by omega⟩]
          · exact nope (by omega)
      · repeat (first | (with_reducible refine wp_L ?_) | (with_reducible refine wp_g ?_ ?_; · omega) | (with_reducible refine wp_f ?_ ?_; · omega) | (with_reducible refine wp_t ?_ ?_; · omega))
        exact nope (by omega)
end CT
