/-! pure part, 9: the reference's tick, to its end -/
theorem VE.st {a b : Int} {u w V : uS} {c : Nat} (h : VE a b (fun j s => u c (ix j s)) V) (ha : a ≤ 60) (hb : b ≤ 20) (j : Nat) (s v' : Int) {i v : Int} (hw : w = up u c i v) (e : v = v') (hv : vd 60 20 j s) (hi : i = ix j s) : VE a b (fun j s => w c (ix j s)) (up V j s v') := by
  subst hw e; exact h.upM ha hb hv hi
theorem fr_st {u w w2 : uS} {i v : Int} (h : ∀ c, c ≠ 41 → w c = u c) (hw : w2 = up w 41 i v) : ∀ c, c ≠ 41 → w2 c = u c := fun c hc => by
  rw [hw]; exact (up_c hc).trans (h c hc)
theorem wfb_up10 {N V : uS} (hV : WFb N V) (p : Int) {v : Int} (hv : 0 ≤ v ∧ v ≤ 9999) : WFb N (up V 10 p v) := by
  obtain ⟨b0, b1, b2, bS, bI, bP, bE⟩ := hV
  refine ⟨b0, b1, b2, bS, bI, fun q h0 h1 => ?_, bE⟩
  have b := bP q h0 h1
  refine ⟨b.1, b.2.1, ?_, b.2.2.2⟩
  by_cases h : q = p
  · subst h; rw [up_s]; exact hv
  · rw [up_j h]; exact b.2.2.1
section MP
variable {u N V : uS}
theorem wpicks {s : Int} (hN : NWF N) (hn : MN u N) (hV : WFc N V) (hm : MS u V) (hs : 0 ≤ s ∧ s < N 0 0) (h6 : V 6 s = 0) (h1 : V 0 1 < 60) : wp (f_X10_picks s u) (fun q => (∀ c, c ≠ 41 → q.2 c = u c) ∧ MS q.2 (vt N (ap V s) (V 0 1))) := by
  have hV2 := hV
  have n0 := hN.1
  obtain ⟨hV, -⟩ := hV
  obtain ⟨b0, b1, b2, bS, bI, bP, bE⟩ := hV
  have e1 := hm.n
  unfold f_X10_picks
  refine wp_l (fun p hp => ?_)
  rw [e1] at hp
  subst hp
  have f0 : ∀ c, c ≠ 41 → u c = u c := fun _ _ => rfl
  refine wp_e (eof _ _ _) ?_
  refine wp_g (by omega) ?_
  refine wp_l (fun w1 g1 => ?_)
  have s1 := VE.st hm b1.2 b2.2 8 (V 0 1) s g1 rfl (by unfold vd; omega) rfl
  have f1 := fr_st f0 g1
  refine wp_e (eof _ _ _) ?_
  refine wp_g (by omega) ?_
  refine wp_l (fun w2 g2 => ?_)
  have s2 := VE.st s1 b1.2 b2.2 9 (V 0 1) (V 0 0) g2 (s1.rd (j := 0) (s := 0) (by unfold vd; omega) rfl) (by unfold vd; omega) rfl
  have f2 := fr_st f1 g2
  refine wp_e (eof _ _ _) ?_
  refine wp_e (eat _ _ _) ?_
  refine wp_g (by omega) ?_
  refine wp_g (by omega) ?_
  refine wp_l (fun w3 g3 => ?_)
  have s3 := VE.st s2 b1.2 b2.2 10 (V 0 1) (V 1 s) g3 (s2.rd (j := 1) (s := s) (by unfold vd; omega) rfl) (by unfold vd; omega) rfl
  have f3 := fr_st f2 g3
  refine wp_e (eof _ _ _) ?_
  refine wp_g (by omega) ?_
  refine wp_l (fun w4 g4 => ?_)
  have s4 := VE.st s3 b1.2 b2.2 11 (V 0 1) (-1) g4 rfl (by unfold vd; omega) rfl
  have f4 := fr_st f3 g4
  refine wp_e (eof _ _ _) ?_
  refine wp_g (by omega) ?_
  refine wp_l (fun w5 g5 => ?_)
  have s5 := VE.st s4 b1.2 b2.2 12 (V 0 1) 0 g5 rfl (by unfold vd; omega) rfl
  have f5 := fr_st f4 g5
  refine wp_l (fun w6 g6 => ?_)
  have s6 := VE.st s5 b1.2 b2.2 0 1 (V 0 1 + 1) g6 (congrArg (· + 1) (s5.rd (j := 0) (s := 1) (by unfold vd; omega) rfl)) (by unfold vd; omega) rfl
  have f6 := fr_st f5 g6
  refine wp_e (eat _ _ _) ?_
  refine wp_g (by omega) ?_
  refine wp_l (fun w7 g7 => ?_)
  have s7 := VE.st s6 b1.2 b2.2 5 s 1 g7 rfl (by unfold vd; omega) rfl
  have f7 := fr_st f6 g7
  refine wp_e (eat _ _ _) ?_
  refine wp_g (by omega) ?_
  refine wp_l (fun w8 g8 => ?_)
  have s8 := VE.st s7 b1.2 b2.2 7 s (V 0 1) g8 rfl (by unfold vd; omega) rfl
  have f8 := fr_st f7 g8
  have hA : MS w8 (ap V s) := by
    refine VE.extP s8 (fun j j1 j2 => ?_)
    have h8 : w5 41 (827 + 5 * V 0 1 + 0) = s ∧ w5 41 (827 + 5 * V 0 1 + 1) = V 0 0 ∧ w5 41 (827 + 5 * V 0 1 + 2) = V 1 s ∧ w5 41 (827 + 5 * V 0 1 + 3) = -1 ∧ w5 41 (827 + 5 * V 0 1 + 4) = 0 := by
      have r2 : w1 41 0 = V 0 0 := s1.rd (j := 0) (s := 0) (by unfold vd; omega) rfl
      have r3 : w2 41 (3 + 4 * s + 0) = V 1 s := s2.rd (j := 1) (s := s) (by unfold vd; omega) rfl
      rw [g5, g4, g3, g2, r2]
      rw [g2, r2] at r3
      rw [r3, g1]
      refine ⟨?_, ?_, ?_, ?_, ?_⟩
      · rw [up_j (by omega), up_j (by omega), up_j (by omega), up_j (by omega), up_s]
      · rw [up_j (by omega), up_j (by omega), up_j (by omega), up_s]
      · rw [up_j (by omega), up_j (by omega), up_s]
      · rw [up_j (by omega), up_s]
      · rw [up_s]
    have hw : ∀ i, 827 ≤ i → w8 41 i = w5 41 i := fun i hi => by
      rw [g8, up_j (by omega), g7, up_j (by omega), g6, up_j (by omega)]
    have h3 : j = 8 ∨ j = 9 ∨ j = 10 ∨ j = 11 ∨ j = 12 := by omega
    rcases h3 with rfl | rfl | rfl | rfl | rfl
    · exact (hw _ (by show 827 ≤ 827 + 5 * V 0 1 + 0; omega)).trans (h8.1.trans (up_s _ 8 _ _).symm)
    · exact (hw _ (by show 827 ≤ 827 + 5 * V 0 1 + 1; omega)).trans (h8.2.1.trans (up_s _ 9 _ _).symm)
    · exact (hw _ (by show 827 ≤ 827 + 5 * V 0 1 + 2; omega)).trans (h8.2.2.1.trans (up_s _ 10 _ _).symm)
    · exact (hw _ (by show 827 ≤ 827 + 5 * V 0 1 + 3; omega)).trans (h8.2.2.2.1.trans (up_s _ 11 _ _).symm)
    · exact (hw _ (by show 827 ≤ 827 + 5 * V 0 1 + 4; omega)).trans (h8.2.2.2.2.trans (up_s _ 12 _ _).symm)
  refine wp_b (wvotes hN (hn.row (fun c h3 h4 => f8 c (by omega))) (wf_ap hN hV2 hs h6 h1) hA (p := V 0 1) ⟨b1.1, by show V 0 1 < V 0 1 + 1; omega⟩ (up_s _ 11 _ _)) (fun r u2 h => wp_s ?_)
  exact ⟨fun c hc => (h.1 c hc).trans (f8 c hc), h.2⟩
theorem smp_0 {j : Nat} {s : Int} : up V 0 0 (V 0 0 + 1) j s = smp V 0 j s := by
  unfold up smp
  by_cases h : j = 0 ∧ s = 0
  · rw [if_pos h, if_pos h]
  · rw [if_neg h, if_neg h, if_neg (by omega)]
theorem smp_s {i : Int} {j : Nat} {s : Int} (hi : 0 ≤ i) (ht : 0 ≤ V 0 0) : up (smp V i) 2 (99 * i + (V 0 0 + 1) % 99) (V 1 i) j s = smp V (i + 1) j s := by
  unfold up smp
  by_cases h : j = 0 ∧ s = 0
  · rw [if_neg (by omega), if_pos h, if_pos h]
  · rw [if_neg h, if_neg h]
    by_cases h2 : j = 2 ∧ s = 99 * i + (V 0 0 + 1) % 99
    · rw [if_pos h2, if_pos ⟨h2.1, by omega, by omega, by omega⟩]
      congr 1
      omega
    · rw [if_neg h2]
      by_cases h3 : j = 2 ∧ 0 ≤ s ∧ s < 99 * i ∧ s % 99 = (V 0 0 + 1) % 99
      · rw [if_pos h3, if_pos ⟨h3.1, by omega, by omega, by omega⟩]
      · rw [if_neg h3, if_neg (fun h4 => by
          by_cases h5 : s < 99 * i
          · exact h3 ⟨h4.1, h4.2.1, h5, h4.2.2.2⟩
          · exact h2 ⟨h4.1, by omega⟩)]
theorem wpasses (hN : NWF N) (hn : MN u N) (hV : WFc N V) (hm : MS u V) (ht : V 0 0 ≤ 10198) : wp (f_X10_passes u) (fun q => (∀ c, c ≠ 41 → q.2 c = u c) ∧ MS q.2 (tk N V)) := by
  have hVc := hV
  have hN2 := hN
  obtain ⟨n0, n1, n2, n3, n4, n5, n6, n7, n8, n9, n10, n11, n12, n13, n14, nS, nR⟩ := hN
  obtain ⟨hV, -⟩ := hV
  obtain ⟨b0, b1, b2, bS, bI, bP, bE⟩ := hV
  have e0 := hm.t
  unfold f_X10_passes
  refine wp_l (fun w1 g1 => ?_)
  have f0 : ∀ c, c ≠ 41 → u c = u c := fun _ _ => rfl
  have f1 := fr_st f0 g1
  have s1 : MS w1 (smp V 0) := by
    have s := VE.st hm b1.2 b2.2 0 0 (V 0 0 + 1) g1 (by rw [e0]) (by unfold vd; omega) rfl
    exact MS.cg (V := up V 0 0 (V 0 0 + 1)) s rfl rfl (fun j s _ => smp_0)
  refine wp_L ?_
  refine wl2 (fun i v => (∀ c, c ≠ 41 → v c = u c) ∧ MS v (smp V i) ∧ 0 ≤ i ∧ i ≤ N 0 0) (fun i _ => (N 0 0 - i).toNat) (fun go i v hI hg => ?_) FU _ _ ⟨f1, s1, by omega, by omega⟩ (FU_l (by omega))
  obtain ⟨hf, hM, h0, h1⟩ := hI
  have hnv : MN v N := hn.row (fun c h3 h4 => hf c (by omega))
  have a0 := hnv.1 0 (by decide) (by decide)
  have t0 : v 41 0 = V 0 0 + 1 := hM.t
  unfold s_X10_passes_12
  refine wp_g (by omega) ?_
  refine wp_i (fun c => ?_) (fun c => ?_)
  · have hi : i = N 0 0 := by omega
    subst hi
    refine wl2 (fun i w => (∀ c, c ≠ 41 → w c = u c) ∧ (0 ≤ i ∧ i ≤ N 0 0) ∧ ∃ W, MS w W ∧ WFc N W ∧ itj N (N 0 0 - i).toNat i W = tk N V) (fun i _ => (N 0 0 - i).toNat) (fun go i w hI hg => ?_) FU _ _ ⟨hf, ⟨by omega, by omega⟩, smp V (N 0 0), hM, wf_smp hVc ht (by omega), by rw [show N 0 0 - 0 = N 0 0 by omega]; rfl⟩ (FU_l (by omega))
    obtain ⟨hf, hi, W, hW, hWc, hit⟩ := hI
    have hnw : MN w N := hn.row (fun c h3 h4 => hf c (by omega))
    have a0 := hnw.1 0 (by decide) (by decide)
    have a9 := hnw.1 9 (by decide) (by decide)
    have a10 := hnw.1 10 (by decide) (by decide)
    have a11 := hnw.1 11 (by decide) (by decide)
    unfold s_X10_passes_55
    refine wp_g (by omega) ?_
    refine wp_i (fun c => ?_) (fun c => ?_)
    · rw [show (N 0 0 - i).toNat = 0 by omega] at hit
      refine wp_s ⟨hf, ?_⟩
      rw [← hit]
      exact hW
    · rw [show (N 0 0 - i).toNat = (N 0 0 - (i + 1)).toNat + 1 by omega] at hit
      have hit2 : itj N (N 0 0 - (i + 1)).toNat (i + 1) (jd N W i) = tk N V := hit
      have hJ := wf_jd hN2 hWc (s := i) (by omega)
      have hW2 := hWc
      obtain ⟨hWb, xS, xP, xE⟩ := hWc
      have hWb2 := hWb
      obtain ⟨c0, c1, c2, cS, cI, cP, cE⟩ := hWb
      have r5 := hW.on (s := i) (by omega) (by omega)
      have r7 := hW.la (s := i) (by omega) (by omega)
      have r1 := hW.lv (s := i) (by omega) (by omega)
      have r6 := hW.mu (s := i) (by omega) (by omega)
      have rt := hW.t
      have rn := hW.n
      have cs := cS i (by omega) (by omega)
      have xs := xS i (by omega) (by omega)
      have rb := rto_b hN2 hWb2 (s := i) (by omega)
      have nxt : ∀ w2 : uS, (∀ c, c ≠ 41 → w2 c = u c) → MS w2 (jd N W i) → wp (go (i + 1) w2) (fun q => (∀ c, c ≠ 41 → q.2 c = u c) ∧ MS q.2 (tk N V)) := fun w2 h2 h3 =>
        hg _ _ ⟨h2, ⟨by omega, by omega⟩, _, h3, hJ, hit2⟩ (by omega)
      repeat (first | (with_reducible refine wp_L ?_) | (with_reducible refine wp_g ?_ ?_; · omega) | (with_reducible refine wp_f ?_ ?_; · omega) | (with_reducible refine wp_t ?_ ?_; · omega) | (with_reducible refine wp_e (eof _ _ _) ?_) | (with_reducible refine wp_e (eat _ _ _) ?_) | (with_reducible refine wp_e (enodes _) ?_))
      refine wp_i (fun c => ?_) (fun c => ?_)
      · have h5 : W 5 i = 1 := by omega
        have x7 := xs.2 h5
        have c7 := cP (W 7 i) x7.2.1 x7.2.2
        have r10 := hW.pp (s := W 7 i) (by omega) (by omega)
        have ej : jd N W i = rp N W i := by
          unfold jd
          rw [if_pos h5]
        have mx : maxI (W 10 (W 7 i)) (W 1 i) = if W 10 (W 7 i) < W 1 i then W 1 i else W 10 (W 7 i) := rfl
        repeat (first | (with_reducible refine wp_L ?_) | (with_reducible refine wp_g ?_ ?_; · omega) | (with_reducible refine wp_f ?_ ?_; · omega) | (with_reducible refine wp_t ?_ ?_; · omega) | (with_reducible refine wp_e (eof _ _ _) ?_) | (with_reducible refine wp_e (eat _ _ _) ?_) | (with_reducible refine wp_e (enodes _) ?_))
        rw [r7]
        repeat (first | (with_reducible refine wp_L ?_) | (with_reducible refine wp_g ?_ ?_; · omega) | (with_reducible refine wp_f ?_ ?_; · omega) | (with_reducible refine wp_t ?_ ?_; · omega) | (with_reducible refine wp_e (eof _ _ _) ?_) | (with_reducible refine wp_e (eat _ _ _) ?_) | (with_reducible refine wp_e (enodes _) ?_))
        have fin : ∀ m, m = maxI (W 10 (W 7 i)) (W 1 i) → (0 ≤ m ∧ m ≤ 9999) → ∀ w2, w2 = up w 41 (827 + 5 * W 7 i + 2) m →
            f_X10_ratioOf i w2 = some (rto N W i, w2) ∧ ∀ o, o = (if rto N W i < N 0 11 then (0 : Int) else 1) → ∀ w3, w3 = up w2 41 (3 + 4 * i + 1) o → wp (go (i + 1) w3) (fun q => (∀ c, c ≠ 41 → q.2 c = u c) ∧ MS q.2 (tk N V)) := by
          intro m hm1 hm2 w2 g2
          have s2 := VE.st hW c1.2 c2.2 10 (W 7 i) m g2 rfl (by unfold vd; omega) rfl
          have f2 := fr_st hf g2
          refine ⟨?_, fun o ho w3 g3 => ?_⟩
          · have := eratioOf (u := w2) (N := N) (V := up W 10 (W 7 i) m) (s := i) hN2 (hn.row (fun c h3 h4 => f2 c (by omega))) (wfb_up10 hWb2 _ hm2) s2 (by omega)
            rw [rto_up (by decide) (by decide)] at this
            exact this
          · have s3 := VE.st s2 c1.2 c2.2 5 i o g3 rfl (by unfold vd; omega) rfl
            refine nxt w3 (fr_st f2 g3) ?_
            rw [ej]
            unfold rp
            rw [← hm1, ← ho]
            exact s3
        refine wp_i (fun c => ?_) (fun c => ?_)
        · repeat (first | (with_reducible refine wp_L ?_) | (with_reducible refine wp_g ?_ ?_; · omega) | (with_reducible refine wp_f ?_ ?_; · omega) | (with_reducible refine wp_t ?_ ?_; · omega) | (with_reducible refine wp_e (eof _ _ _) ?_) | (with_reducible refine wp_e (eat _ _ _) ?_) | (with_reducible refine wp_e (enodes _) ?_))
          rw [r10]
          obtain ⟨k1, k2⟩ := fin (W 10 (W 7 i)) (by rw [mx, if_neg (by omega)]) (by omega) _ rfl
          refine wp_e k1 ?_
          have a11' : up w 41 (827 + 5 * W 7 i + 2) (W 10 (W 7 i)) 42 11 = N 0 11 := (up_k (by decide)).trans a11
          refine wp_g (by omega) ?_
          refine wp_i (fun c => ?_) (fun c => ?_)
          · repeat (first | (with_reducible refine wp_L ?_) | (with_reducible refine wp_g ?_ ?_; · omega) | (with_reducible refine wp_f ?_ ?_; · omega) | (with_reducible refine wp_t ?_ ?_; · omega) | (with_reducible refine wp_e (eof _ _ _) ?_) | (with_reducible refine wp_e (eat _ _ _) ?_) | (with_reducible refine wp_e (enodes _) ?_))
            exact k2 1 (by rw [if_neg (by omega)]) _ rfl
          · repeat (first | (with_reducible refine wp_L ?_) | (with_reducible refine wp_g ?_ ?_; · omega) | (with_reducible refine wp_f ?_ ?_; · omega) | (with_reducible refine wp_t ?_ ?_; · omega) | (with_reducible refine wp_e (eof _ _ _) ?_) | (with_reducible refine wp_e (eat _ _ _) ?_) | (with_reducible refine wp_e (enodes _) ?_))
            exact k2 0 (by rw [if_pos (by omega)]) _ rfl
        · repeat (first | (with_reducible refine wp_L ?_) | (with_reducible refine wp_g ?_ ?_; · omega) | (with_reducible refine wp_f ?_ ?_; · omega) | (with_reducible refine wp_t ?_ ?_; · omega) | (with_reducible refine wp_e (eof _ _ _) ?_) | (with_reducible refine wp_e (eat _ _ _) ?_) | (with_reducible refine wp_e (enodes _) ?_))
          rw [r1]
          obtain ⟨k1, k2⟩ := fin (W 1 i) (by rw [mx, if_pos (by omega)]) (by omega) _ rfl
          refine wp_e k1 ?_
          have a11' : up w 41 (827 + 5 * W 7 i + 2) (W 1 i) 42 11 = N 0 11 := (up_k (by decide)).trans a11
          refine wp_g (by omega) ?_
          refine wp_i (fun c => ?_) (fun c => ?_)
          · repeat (first | (with_reducible refine wp_L ?_) | (with_reducible refine wp_g ?_ ?_; · omega) | (with_reducible refine wp_f ?_ ?_; · omega) | (with_reducible refine wp_t ?_ ?_; · omega) | (with_reducible refine wp_e (eof _ _ _) ?_) | (with_reducible refine wp_e (eat _ _ _) ?_) | (with_reducible refine wp_e (enodes _) ?_))
            exact k2 1 (by rw [if_neg (by omega)]) _ rfl
          · repeat (first | (with_reducible refine wp_L ?_) | (with_reducible refine wp_g ?_ ?_; · omega) | (with_reducible refine wp_f ?_ ?_; · omega) | (with_reducible refine wp_t ?_ ?_; · omega) | (with_reducible refine wp_e (eof _ _ _) ?_) | (with_reducible refine wp_e (eat _ _ _) ?_) | (with_reducible refine wp_e (enodes _) ?_))
            exact k2 0 (by rw [if_pos (by omega)]) _ rfl
      · have h5 : ¬ W 5 i = 1 := by omega
        have ejn : ¬ (N 0 9 ≤ W 0 0 ∧ W 6 i = 0 ∧ W 0 1 < 60 ∧ N 0 10 ≤ rto N W i) → jd N W i = W := fun h => by
          unfold jd
          rw [if_neg h5, if_neg h]
        repeat (first | (with_reducible refine wp_L ?_) | (with_reducible refine wp_g ?_ ?_; · omega) | (with_reducible refine wp_f ?_ ?_; · omega) | (with_reducible refine wp_t ?_ ?_; · omega) | (with_reducible refine wp_e (eof _ _ _) ?_) | (with_reducible refine wp_e (eat _ _ _) ?_) | (with_reducible refine wp_e (enodes _) ?_))
        refine wp_i (fun c => ?_) (fun c => ?_)
        · exact nxt w hf (by rw [ejn (by omega)]; exact hW)
        · repeat (first | (with_reducible refine wp_L ?_) | (with_reducible refine wp_g ?_ ?_; · omega) | (with_reducible refine wp_f ?_ ?_; · omega) | (with_reducible refine wp_t ?_ ?_; · omega) | (with_reducible refine wp_e (eof _ _ _) ?_) | (with_reducible refine wp_e (eat _ _ _) ?_) | (with_reducible refine wp_e (enodes _) ?_))
          refine wp_i (fun c => ?_) (fun c => ?_)
          · repeat (first | (with_reducible refine wp_L ?_) | (with_reducible refine wp_g ?_ ?_; · omega) | (with_reducible refine wp_f ?_ ?_; · omega) | (with_reducible refine wp_t ?_ ?_; · omega) | (with_reducible refine wp_e (eof _ _ _) ?_) | (with_reducible refine wp_e (eat _ _ _) ?_) | (with_reducible refine wp_e (enodes _) ?_))
            refine wp_i (fun c => ?_) (fun c => ?_)
            · exact nxt w hf (by rw [ejn (by omega)]; exact hW)
            · refine wp_e (eratioOf hN2 hnw hWb2 hW (by omega)) ?_
              repeat (first | (with_reducible refine wp_L ?_) | (with_reducible refine wp_g ?_ ?_; · omega) | (with_reducible refine wp_f ?_ ?_; · omega) | (with_reducible refine wp_t ?_ ?_; · omega) | (with_reducible refine wp_e (eof _ _ _) ?_) | (with_reducible refine wp_e (eat _ _ _) ?_) | (with_reducible refine wp_e (enodes _) ?_))
              refine wp_i (fun c => ?_) (fun c => ?_)
              · exact nxt w hf (by rw [ejn (by omega)]; exact hW)
              · have ejy : jd N W i = vt N (ap W i) (W 0 1) := by
                  unfold jd
                  rw [if_neg h5, if_pos ⟨by omega, by omega, by omega, by omega⟩]
                refine wp_b (wpicks hN2 hnw hW2 hW (s := i) (by omega) (by omega) (by omega)) (fun r w2 h => ?_)
                exact nxt w2 (fun c hc => (h.1 c hc).trans (hf c hc)) (by rw [ejy]; exact h.2)
          · exact nxt w hf (by rw [ejn (by omega)]; exact hW)
  · have et : (v 41 0).tmod 99 = (V 0 0 + 1) % 99 := by rw [t0]; exact tmd (by omega) 99
    have r1 : v 41 (3 + 4 * i + 0) = V 1 i := hM.lv (s := i) h0 (by omega)
    refine wp_e (ering v (by omega)) ?_
    repeat (first | (with_reducible refine wp_L ?_) | (with_reducible refine wp_g ?_ ?_; · omega) | (with_reducible refine wp_f ?_ ?_; · omega) | (with_reducible refine wp_t ?_ ?_; · omega))
    refine wp_e (eat _ _ _) ?_
    repeat (first | (with_reducible refine wp_L ?_) | (with_reducible refine wp_g ?_ ?_; · omega) | (with_reducible refine wp_f ?_ ?_; · omega) | (with_reducible refine wp_t ?_ ?_; · omega))
    refine hg _ _ ⟨fr_st hf rfl, ?_, by omega, by omega⟩ (by omega)
    have s := VE.st hM b1.2 b2.2 2 (99 * i + (V 0 0 + 1) % 99) (V 1 i) (w := up v 41 (35 + 99 * i + (v 41 0).tmod 99) (v 41 (3 + 4 * i + 0))) rfl r1 (by unfold vd; omega) (by show _ = 35 + (99 * i + (V 0 0 + 1) % 99); omega)
    exact MS.cg (V := up (smp V i) 2 (99 * i + (V 0 0 + 1) % 99) (V 1 i)) s rfl rfl (fun j s _ => smp_s h0 b0.1)
end MP
