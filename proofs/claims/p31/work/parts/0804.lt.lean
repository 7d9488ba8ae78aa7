/-! the law's network: a tick -/
theorem rto_up' {N V : uS} {j : Nat} {i v s : Int} (h0 : j ≠ 0) (h2 : j ≠ 2) : rto N (up V j i v) s = rto N V s := by
  have e2 : up V j i v 2 = V 2 := up_c (Ne.symm h2)
  have e0 : up V j i v 0 = V 0 := up_c (Ne.symm h0)
  unfold rto lat smA
  rw [e2, e0]
theorem smp_r {V : uS} {n : Int} {j : Nat} {i : Int} (h0 : ¬ (j = 0 ∧ i = 0)) (h2 : j ≠ 2) : smp V n j i = V j i := by
  unfold smp
  rw [if_neg h0, if_neg (fun h => h2 h.1)]
section LT
variable {u v w N V : uS}
/-- the samples are taken -/
theorem LR_smp (hN : NWF N) (hV : WFc N V) (hm : LR N u V) (h99 : V 0 0 < 399)
    (h264 : ∀ i, i ≠ 9 → w 264 i = u 264 i) (h9 : w 264 9 = V 0 0 + 1) (hc : ∀ c, c ≠ 264 → ¬ (272 ≤ c ∧ c < 288 ∧ c % 2 = 0) → w c = u c)
    (hs1 : ∀ s, 0 ≤ s → s < N 0 0 → ∀ t, t ≠ V 0 0 + 1 → w (pc s + 1) t = u (pc s + 1) t) (hs2 : ∀ s, 0 ≤ s → s < N 0 0 → w (pc s + 1) (V 0 0 + 1) = V 1 s) : LR N w (smp V (N 0 0)) := by
  obtain ⟨hV, -⟩ := hV
  have n0 := hN.1
  obtain ⟨b0, b1, b2, bS, bI, bP, bE⟩ := hV
  have e00 : smp V (N 0 0) 0 0 = V 0 0 + 1 := if_pos ⟨rfl, rfl⟩
  have e01 : smp V (N 0 0) 0 1 = V 0 1 := smp_r (by decide) (by decide)
  have e02 : smp V (N 0 0) 0 2 = V 0 2 := smp_r (by decide) (by decide)
  refine ⟨?_, ?_, ?_, ?_⟩
  · rw [e01, e02]
    intro j s hv h7
    have hl := vl_lim hv n0.2 b1.2 b2.2
    have f := lc_f hl
    have b := hv
    unfold vl at b
    by_cases h1 : j = 0 ∧ s = 0
    · obtain ⟨rfl, rfl⟩ := h1
      rw [e00]; exact h9
    · rw [smp_r h1 (by omega)]
      have h7' : j = 7 → V 5 s = 1 := fun q => by
        have := h7 q
        rw [smp_r (by omega) (by decide)] at this
        exact this
      have e := hm.1 j s hv h7'
      by_cases h2 : lc j s = 264
      · rw [h2] at e ⊢
        rw [h264 _ (by omega)]; exact e
      · rw [hc _ h2 (by omega)]; exact e
  · intro s t s0 s1 t0 t1 t2
    rw [e00] at t1 t2
    by_cases ht : t = V 0 0 + 1
    · subst ht
      rw [hs2 s s0 s1]
      unfold smp
      rw [if_neg (fun h => by omega), if_pos ⟨rfl, by omega, by omega, by omega⟩]
      congr 1
      omega
    · rw [hs1 s s0 s1 t ht]
      unfold smp
      rw [if_neg (fun h => by omega), if_neg (fun h => by omega)]
      exact hm.2.1 s t s0 s1 t0 (by omega) (by omega)
  · unfold PXl
    rw [e01, hc 266 (by decide) (by decide)]
    exact hm.2.2.1
  · unfold GZ
    rw [e02, hc 267 (by decide) (by decide)]
    exact hm.2.2.2
/-- a pick more -/
theorem LR_ap {s : Int} (hN : NWF N) (hV : WFb N V) (hm : LR N u V) (hs : 0 ≤ s ∧ s < N 0 0) (h60 : V 0 1 < 60)
    (hc : ∀ c i, c ≠ kc (V 0 1) → ¬ (c = pc s ∧ (i = 3 ∨ i = 4)) → ¬ (c = 264 ∧ i = 7) → ¬ (c = 266 ∧ i = V 0 1) → w c i = u c i)
    (h4 : w (pc s) 4 = 1) (h3 : w (pc s) 3 = V 0 1) (h7 : w 264 7 = V 0 1 + 1) (h266 : w 266 (V 0 1) = 294 + V 0 1)
    (k0 : w (kc (V 0 1)) 0 = s) (k1 : w (kc (V 0 1)) 1 = V 0 0) (k2 : w (kc (V 0 1)) 2 = V 1 s) (k3 : w (kc (V 0 1)) 3 = -1) (k4 : w (kc (V 0 1)) 4 = 0) : LR N w (ap V s) := by
  have n0 := hN.1
  obtain ⟨b0, b1, b2, bS, bI, bP, bE⟩ := hV
  have hk := kc_e b1.1
  have hp := pc_e hs.1
  have e00 : ap V s 0 0 = V 0 0 := by unfold ap; rw [up_k (by decide), up_k (by decide), up_j (by decide), up_k (by decide), up_k (by decide), up_k (by decide), up_k (by decide), up_k (by decide)]
  have e01 : ap V s 0 1 = V 0 1 + 1 := by unfold ap; rw [up_k (by decide), up_k (by decide), up_s]
  have e02 : ap V s 0 2 = V 0 2 := by unfold ap; rw [up_k (by decide), up_k (by decide), up_j (by decide), up_k (by decide), up_k (by decide), up_k (by decide), up_k (by decide), up_k (by decide)]
  have ed : ∀ j r, ¬ (j = 0 ∧ r = 1) → ¬ ((8 ≤ j ∧ j ≤ 12) ∧ r = V 0 1) → ¬ ((j = 5 ∨ j = 7) ∧ r = s) → ap V s j r = V j r := fun j r a1 a2 a3 => by
    unfold ap
    rw [up_n (by omega), up_n (by omega), up_n (by omega), up_n (by omega), up_n (by omega), up_n (by omega), up_n (by omega), up_n (by omega)]
  refine ⟨?_, ?_, ?_, ?_⟩
  · rw [e01, e02]
    intro j r hv h9
    have hl := vl_lim hv n0.2 (by omega) b2.2
    have f := lc_f hl
    have b := hv
    unfold vl at b
    by_cases a1 : j = 0 ∧ r = 1
    · obtain ⟨rfl, rfl⟩ := a1
      rw [e01]; exact h7
    · by_cases a2 : (8 ≤ j ∧ j ≤ 12) ∧ r = V 0 1
      · obtain ⟨a2, rfl⟩ := a2
        have h5 : j = 8 ∨ j = 9 ∨ j = 10 ∨ j = 11 ∨ j = 12 := by omega
        unfold ap
        rcases h5 with rfl | rfl | rfl | rfl | rfl
        · rw [up_k (by decide), up_k (by decide), up_k (by decide), up_k (by decide), up_k (by decide), up_k (by decide), up_k (by decide), up_s]; exact k0
        · rw [up_k (by decide), up_k (by decide), up_k (by decide), up_k (by decide), up_k (by decide), up_k (by decide), up_s]; exact k1
        · rw [up_k (by decide), up_k (by decide), up_k (by decide), up_k (by decide), up_k (by decide), up_s]; exact k2
        · rw [up_k (by decide), up_k (by decide), up_k (by decide), up_k (by decide), up_s]; exact k3
        · rw [up_k (by decide), up_k (by decide), up_k (by decide), up_s]; exact k4
      · by_cases a3 : (j = 5 ∨ j = 7) ∧ r = s
        · obtain ⟨a3, rfl⟩ := a3
          unfold ap
          rcases a3 with rfl | rfl
          · rw [up_k (by decide), up_s]; exact h4
          · rw [up_s]; exact h3
        · rw [ed j r a1 a2 a3, hc _ _ (by omega) (by omega) (by omega) (by omega)]
          refine hm.1 j r (by unfold vl; omega) (fun q => ?_)
          have := h9 q
          rw [ed 5 r (by omega) (by omega) (by omega)] at this
          exact this
  · intro q t q0 q1 t0 t1 t2
    rw [e00] at t1 t2
    have := pc_e q0
    rw [hc _ _ (by omega) (by omega) (by omega) (by omega), ed 2 _ (by omega) (by omega) (by omega)]
    exact hm.2.1 q t q0 q1 t0 t1 t2
  · intro q q0 q1
    rw [e01]
    by_cases h : q = V 0 1
    · subst h; rw [if_pos (by omega)]; exact h266
    · rw [hc _ _ (by omega) (by omega) (by omega) (by omega), hm.2.2.1 q q0 q1]
      split <;> split <;> omega
  · intro e i0 i1
    rw [e02] at i0
    rw [hc _ _ (by omega) (by omega) (by omega) (by omega)]
    exact hm.2.2.2 e i0 i1
theorem wpass (hN : NWF N) (hn : LN u N) (hV : WFc N V) (hm : LR N u V) (hk : mkOk u) (ht : V 0 0 < 399) : wp (f_X10_pass u) (fun q => FRn u q.2 ∧ LR N q.2 (tk N V)) := by
  have n0 := hN.1
  have n8 := hN.2.2.2.2.2.2.2.2.1
  have n9 := hN.2.2.2.2.2.2.2.2.2.1
  have n10 := hN.2.2.2.2.2.2.2.2.2.2.1
  have n11 := hN.2.2.2.2.2.2.2.2.2.2.2.1
  have hVc := hV
  obtain ⟨hV, -⟩ := hV
  have hVb := hV
  obtain ⟨b0, b1, b2, bS, bI, bP, bE⟩ := hV
  have e6 := hn.1.1
  have e9 := hm.t
  unfold f_X10_pass
  rw [e9]
  refine wp_l (fun u1 h1 => ?_)
  refine wp_l (fun j2 h2 => ?_)
  have f1 : FRn u u1 := FRn.rf.st h1 (by unfold prot ncell; omega)
  have J2 : ∀ x, FRn u x → LR N x (smp V (N 0 0)) → wp (j2 x) (fun q => FRn u q.2 ∧ LR N q.2 (tk N V)) := fun x xf xM => by
    rw [h2]
    have hs0 := wf_smp (n := N 0 0) hVc (by omega) n0.2
    refine wl2 (fun s x => FRn u x ∧ 0 ≤ s ∧ s ≤ N 0 0 ∧ ∃ W, WFc N W ∧ LR N x W ∧ W 0 0 = V 0 0 + 1 ∧ itj N (N 0 0 - s).toNat s W = tk N V) (fun s _ => (N 0 0 - s).toNat) (fun go s x hI hg => ?_) 9 _ _ ⟨xf, by omega, by omega, smp V (N 0 0), hs0, xM, if_pos ⟨rfl, rfl⟩, by rw [Int.sub_zero]; rfl⟩ (by omega)
    obtain ⟨xf, s0, s1, W, hW, hM, hT, hit⟩ := hI
    have hnx := hn.fr hN xf
    have e6 := hnx.1.1
    unfold s_X10_pass_51
    rw [e6]
    refine wp_g (by omega) ?_
    refine wp_i (fun c => ?_) (fun c => ?_)
    · rw [show N 0 0 - s = 0 by omega] at hit
      have hit2 : W = tk N V := hit
      rw [← hit2]
      exact wp_s ⟨xf, hM⟩
    · have hs : 0 ≤ s ∧ s < N 0 0 := by omega
      rw [show (N 0 0 - s).toNat = (N 0 0 - (s + 1)).toNat + 1 by omega] at hit
      have hit2 : itj N (N 0 0 - (s + 1)).toNat (s + 1) (jd N W s) = tk N V := hit
      have hjw := wf_jd (s := s) hN hW hs
      have hjt : jd N W s 0 0 = V 0 0 + 1 := (jd_t s).trans hT
      have next : ∀ y, FRn u y → LR N y (jd N W s) → wp (go (s + 1) y) (fun q => FRn u q.2 ∧ LR N q.2 (tk N V)) := fun y yf yM => hg _ _ ⟨yf, by omega, by omega, jd N W s, hjw, yM, hjt, hit2⟩ (by omega)
      have hWb := hW.1
      have hWx := hW.2
      obtain ⟨c0, c1, c2, cS, cI, cP, cE⟩ := hWb
      have hWb := hW.1
      have cs := cS s s0 (by omega)
      have hp := pc_e s0
      obtain ⟨x1, x2⟩ := hnx.px s0 hs.2
      have on := hM.on s0 hs.2
      have mu := hM.mu s0 hs.2
      have lv := hM.lv s0 hs.2
      have e18 := hnx.1.2.2.2.2.2.2.2.2.2.1
      have e19 := hnx.1.2.2.2.2.2.2.2.2.2.2.1
      have e20 := hnx.1.2.2.2.2.2.2.2.2.2.2.2.1
      have rb := rto_b hN hWb (s := s) (by omega)
      have xt := hM.t
      have xn := hM.n
      refine wp_g (by omega) ?_
      refine wp_g x1 ?_
      refine wp_L ?_
      rw [x2, on]
      refine wp_g (by omega) ?_
      refine wp_i (fun c => ?_) (fun c => ?_)
      · have ejd : jd N W s = if N 0 9 ≤ W 0 0 ∧ W 6 s = 0 ∧ W 0 1 < 60 ∧ N 0 10 ≤ rto N W s then vt N (ap W s) (W 0 1) else W := by
          unfold jd
          rw [if_neg (by omega)]
        rw [xt, e18]
        refine wp_g (by omega) ?_
        refine wp_i (fun c => ?_) (fun c => ?_)
        · refine next x xf ?_
          rw [ejd, if_neg (by omega)]; exact hM
        · rw [mu]
          refine wp_g (by omega) ?_
          refine wp_i (fun c => ?_) (fun c => ?_)
          · refine wp_e (qratio hN hnx hWb hM hs (by omega)) ?_
            rw [e19]
            refine wp_g (by omega) ?_
            refine wp_i (fun c => ?_) (fun c => ?_)
            · refine next x xf ?_
              rw [ejd, if_neg (by omega)]; exact hM
            · rw [xn]
              refine wp_g (by omega) ?_
              refine wp_i (fun c => ?_) (fun c => ?_)
              · refine next x xf ?_
                rw [ejd, if_neg (by omega)]; exact hM
              · rw [if_pos ⟨by omega, by omega, by omega, by omega⟩] at ejd
                have hkn := kc_e c1.1
                refine wp_l (fun u26 h26 => ?_)
                have z26 : u26 264 7 = W 0 1 := by rw [h26, up_k (by omega)]; exact xn
                rw [z26]
                refine wp_l (fun u27 h27 => ?_)
                have z27 : ∀ i, u27 264 i = x 264 i := fun i => by rw [h27, up_k (by omega), h26, up_k (by omega)]
                have z266 : ∀ i, u27 266 i = x 266 i := fun i => by rw [h27, up_k (by omega), h26, up_k (by omega)]
                have z277 : u27 264 7 = W 0 1 := (z27 7).trans xn
                have f27 : FRn u u27 := (xf.st h26 (by unfold prot ncell; omega)).st h27 (by unfold prot ncell; omega)
                rw [z277]
                refine wp_g ⟨⟨by omega, by omega⟩, fun j9 hj => ?_, f27.mk hk⟩ ?_
                · rw [z266, hM.2.2.1 (j9 : Int) (by omega) (by omega)]
                  split <;> omega
                refine wp_l (fun n29 h29 => ?_)
                have h29 : n29 = kc (W 0 1) := h29
                subst h29
                refine wp_l (fun u31 h31 => ?_)
                refine wp_l (fun u33 h33 => ?_)
                refine wp_l (fun u34 h34 => ?_)
                refine wp_l (fun u35 h35 => ?_)
                refine wp_l (fun u36 h36 => ?_)
                have a33 : ∀ c, c ≠ kc (W 0 1) → u33 c = u27 c := fun c hc => by rw [h33, up_c hc, h31, upA_c hc]
                have a34 : ∀ c, c ≠ kc (W 0 1) → u34 c = u27 c := fun c hc => by rw [h34, up_c hc, a33 c hc]
                have a35 : ∀ c, c ≠ kc (W 0 1) → u35 c = u27 c := fun c hc => by rw [h35, up_c hc, a34 c hc]
                have t33 : u33 264 9 = W 0 0 := by rw [a33 264 (by omega), z27 9]; exact xt
                have t34 : u34 (pc s) 2 = W 1 s := by rw [a34 (pc s) (by omega), h27, up_j (by decide), h26, up_j (by decide)]; exact lv
                have t35 : u35 264 7 = W 0 1 := by rw [a35 264 (by omega)]; exact z277
                rw [t33] at h34
                rw [t34] at h35
                rw [t35] at h36 ⊢
                refine wp_g (by omega) ?_
                refine wp_l (fun u38 h38 => ?_)
                have hc : ∀ c i, c ≠ kc (W 0 1) → ¬ (c = pc s ∧ (i = 3 ∨ i = 4)) → ¬ (c = 264 ∧ i = 7) → ¬ (c = 266 ∧ i = W 0 1) → u38 c i = x c i := fun c i q1 q2 q3 q4 => by
                  rw [h38, up_n (by omega), h36, up_n (by omega), a35 c q1, h27, up_n (by omega), h26, up_n (by omega)]
                have kk : ∀ i, u38 (kc (W 0 1)) i = u35 (kc (W 0 1)) i := fun i => by rw [h38, up_k (by omega), h36, up_k (by omega)]
                have hap : LR N u38 (ap W s) := LR_ap hN hWb hM hs (by omega) hc
                  (by rw [h38, up_k (by omega), h36, up_k (by omega), a35 _ (by omega), h27, up_j (by decide), h26, up_s])
                  (by rw [h38, up_k (by omega), h36, up_k (by omega), a35 _ (by omega), h27, up_s])
                  (by rw [h38, up_k (by decide), h36, up_s])
                  (by rw [h38, up_s]; exact hkn)
                  (by rw [kk, h35, up_j (by decide), h34, up_j (by decide), h33, up_s])
                  (by rw [kk, h35, up_j (by decide), h34, up_s])
                  (by rw [kk, h35, up_s])
                  (by rw [kk, h35, up_j (by decide), h34, up_j (by decide), h33, up_j (by decide), h31, upA_s]; rfl)
                  (by rw [kk, h35, up_j (by decide), h34, up_j (by decide), h33, up_j (by decide), h31, upA_s]; rfl)
                have f38 : FRn u u38 := fun c i hp9 => by
                  rw [hc c i (fun q => by unfold prot ncell at hp9; omega) (fun q => by unfold prot ncell at hp9; omega) (fun q => by unfold prot ncell at hp9; omega) (fun q => by unfold prot ncell at hp9; omega)]
                  exact xf c i hp9
                have q01 : ap W s 0 1 = W 0 1 + 1 := by unfold ap; rw [up_k (by decide), up_k (by decide), up_s]
                have q11 : ap W s 11 (W 0 1) = -1 := by unfold ap; rw [up_k (by decide), up_k (by decide), up_k (by decide), up_k (by decide), up_s]
                refine wp_b (wvote (p := W 0 1) hN (hn.fr hN f38) (wf_ap hN hW hs (by omega) (by omega)) hap ⟨c1.1, by omega⟩ q11 (f38.mk hk)) (fun r y hy => ?_)
                refine next y (f38.tr hy.1) ?_
                rw [ejd]; exact hy.2
          · refine next x xf ?_
            rw [ejd, if_neg (by omega)]; exact hM
      · have h5 : W 5 s = 1 := by omega
        have ejd : jd N W s = rp N W s := by
          unfold jd
          rw [if_pos h5]
        obtain ⟨q1, q2, q3⟩ := (hWx.1 s s0 (by omega)).2 h5
        have la := hM.la s0 hs.2 h5
        have bq := cP (W 7 s) q2 q3
        have hkq := kc_e q2
        obtain ⟨y1, y2⟩ := hM.px q2 q3 c1.2
        have pp := hM.pp q2 q3
        rw [la]
        refine wp_g (by omega) ?_
        refine wp_g y1 ?_
        refine wp_L ?_
        refine wp_g (by omega) ?_
        refine wp_g y1 ?_
        refine wp_L ?_
        rw [y2, pp, lv]
        refine wp_g (by omega) ?_
        refine wp_l (fun u52 h52 => ?_)
        have m52 : LR N u52 (up W 10 (W 7 s) (maxI (W 10 (W 7 s)) (W 1 s))) := hM.st hN ⟨c1.2, c2.2⟩ 10 (W 7 s) _ h52 rfl (by unfold vl; omega) (by decide) rfl rfl (fun q => by omega)
        have f52 : FRn u u52 := xf.st h52 (by unfold prot ncell; omega)
        have mx : 0 ≤ maxI (W 10 (W 7 s)) (W 1 s) ∧ maxI (W 10 (W 7 s)) (W 1 s) ≤ 9999 := by unfold maxI; split <;> omega
        have w52 : WFb N (up W 10 (W 7 s) (maxI (W 10 (W 7 s)) (W 1 s))) := by
          refine ⟨c0, c1, c2, cS, cI, fun p p0 p1 => ?_, cE⟩
          have bp := cP p p0 p1
          refine ⟨bp.1, bp.2.1, ?_, bp.2.2.2.1, bp.2.2.2.2⟩
          by_cases hp : p = W 7 s
          · subst hp; rw [up_s]; exact mx
          · rw [up_j hp]; exact bp.2.2.1
        have hr := qratio hN (hn.fr hN f52) w52 m52 hs (show W 0 0 < 400 by omega)
        rw [rto_up' (by decide) (by decide)] at hr
        refine wp_e hr ?_
        have e20' := (hn.fr hN f52).1.2.2.2.2.2.2.2.2.2.2.2.1
        rw [e20']
        refine wp_g (by omega) ?_
        refine wp_l (fun j56 h56 => ?_)
        have J56 : ∀ z, z = (if rto N W s < N 0 11 then 0 else 1) → wp (j56 z u52) (fun q => FRn u q.2 ∧ LR N q.2 (tk N V)) := fun z hz => by
          rw [h56]
          have hz2 : z = 0 ∨ z = 1 := by rw [hz]; split <;> omega
          refine wp_g hz2 ?_
          refine wp_l (fun u60 h60 => ?_)
          refine next u60 (f52.st h60 (by unfold prot ncell; omega)) ?_
          rw [ejd]
          unfold rp
          refine m52.st hN ⟨c1.2, c2.2⟩ 5 s _ h60 hz (by unfold vl; omega) (by decide) rfl rfl (fun q h => Or.inl ?_)
          exact (up_k (by decide)).trans h5
        refine wp_i (fun c => ?_) (fun c => ?_)
        · exact J56 0 (by rw [if_pos (by assumption)])
        · exact J56 1 (by rw [if_neg (by assumption)])
  refine wl2 (fun s x => FRn u x ∧ (∀ i, i ≠ 9 → x 264 i = u 264 i) ∧ x 264 9 = V 0 0 + 1 ∧ (∀ c, c ≠ 264 → ¬ (272 ≤ c ∧ c < 288 ∧ c % 2 = 0) → x c = u c) ∧ (∀ q, 0 ≤ q → q < N 0 0 → ∀ t, t ≠ V 0 0 + 1 → x (pc q + 1) t = u (pc q + 1) t) ∧ (∀ q, 0 ≤ q → q < s → x (pc q + 1) (V 0 0 + 1) = V 1 q) ∧ 0 ≤ s ∧ s ≤ N 0 0) (fun s _ => (N 0 0 - s).toNat) (fun go s x hI hg => ?_) FU _ _ ⟨f1, fun i hi => by rw [h1, up_j hi], by rw [h1, up_s], fun c c0 _ => by rw [h1, up_c c0], fun q q0 q1 t _ => by have := pc_e q0; rw [h1, up_k (by omega)], fun q q0 q1 => by omega, by omega, by omega⟩ (FU_l (by omega))
  obtain ⟨xf, x264, x9, xc, xs1, xs2, s0, s1⟩ := hI
  have hnx := hn.fr hN xf
  have e6 := hnx.1.1
  unfold s_X10_pass_12
  rw [e6]
  refine wp_g (by omega) ?_
  refine wp_i (fun c => ?_) (fun c => ?_)
  · have hs : s = N 0 0 := by omega
    subst hs
    exact J2 x xf (LR_smp hN hVc hm ht x264 x9 xc xs1 xs2)
  · have hs : 0 ≤ s ∧ s < N 0 0 := by omega
    obtain ⟨x1, x2⟩ := hnx.px s0 hs.2
    have hp := pc_e s0
    have lv : x (pc s) 2 = V 1 s := by rw [xc (pc s) (by omega) (by omega)]; exact hm.lv s0 hs.2
    refine wp_g (by omega) ?_
    refine wp_g x1 ?_
    refine wp_L ?_
    refine wp_g (by omega) ?_
    refine wp_g x1 ?_
    refine wp_L ?_
    rw [x2, x9, lv]
    refine wp_g (by omega) ?_
    refine wp_l (fun u78 h78 => ?_)
    refine hg _ _ ⟨xf.st h78 (by unfold prot ncell; omega), fun i hi => by rw [h78, up_k (by omega)]; exact x264 i hi, by rw [h78, up_k (by omega)]; exact x9, fun c c0 c1 => by rw [h78, up_c (by omega)]; exact xc c c0 c1, fun q q0 q1 t tt => by rw [h78, up_j tt]; exact xs1 q q0 q1 t tt, fun q q0 q1 => ?_, by omega, by omega⟩ (by omega)
    have hq := pc_e q0
    by_cases hqs : q = s
    · subst hqs; rw [h78, up_s]
    · rw [h78, up_k (by omega)]; exact xs2 q q0 (by omega)
end LT
