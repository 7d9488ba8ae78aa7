/-! the law's network: votes and ticks -/
section LP
variable {u v w N V : uS}
theorem fit_c {p q : Int} : fit N V p q ↔ fit N V q p := by
  have a := absI_b (V 9 p - V 9 q)
  have b := absI_b (V 9 q - V 9 p)
  unfold fit
  rw [tvS_comm N (V 8 p) (V 8 q)]
  exact ⟨fun h => ⟨fun q => h.1 q.symm, h.2.2.1, h.2.1, by omega⟩, fun h => ⟨fun q => h.1 q.symm, h.2.2.1, h.2.1, by omega⟩⟩
theorem gsz_last {p : Int} (hp : 0 ≤ p ∧ p = V 0 1 - 1) : (∀ q, gm N V p (V 0 1).toNat q ↔ gm N V p p.toNat q) ∧ gsz N V p (V 0 1).toNat = gsz N V p p.toNat := by
  have e : (V 0 1).toNat = p.toNat + 1 := by omega
  have h := gm_s0 (N := N) (V := V) (p := p) (i := p.toNat) (fun q => q.1 (by omega))
  rw [e]
  refine ⟨fun q => by rw [h], ?_⟩
  unfold gsz
  rw [h]
/-- the picks of the group before k are marked -/
noncomputable def mkw (V : uS) (g : Int → Int) (k : Int) : uS := fun j q => if j = 11 then cif (∃ i, 0 ≤ i ∧ i < k ∧ g i = 294 + q) (V 0 2) (V 11 q) else V j q
theorem wvote {p : Int} (hN : NWF N) (hn : LN u N) (hV : WFc N V) (hm : LR N u V) (hp : 0 ≤ p ∧ p = V 0 1 - 1) (h11 : V 11 p = -1) (hk : mkOk u) : wp (f_X10_vote (kc p) u) (fun q => FRn u q.2 ∧ LR N q.2 (vt N V p)) := by
  have hVb := hV.1
  have hxP := hV.2.2.1
  have n0 := hN.1
  have n12 := hN.2.2.2.2.2.2.2.2.2.2.2.2.1
  obtain ⟨hV, -⟩ := hV
  obtain ⟨b0, b1, b2, bS, bI, bP, bE⟩ := hV
  have ee := hm.e
  have hpr : 0 ≤ p ∧ p < V 0 1 := by omega
  unfold f_X10_vote
  refine wp_l (fun j1 e1 => ?_)
  refine wp_l (fun j95 e95 => ?_)
  have J95 : ∀ e, 0 ≤ e → e < V 0 2 → fe N V p (V 0 2).toNat 0 = e → wp (j95 e u) (fun q => FRn u q.2 ∧ LR N q.2 (vt N V p)) := fun e e0 e9 hfe => by
    rw [e95]
    refine wp_l (fun u98 h98 => ?_)
    have evt : vt N V p = up V 11 p e := by
      unfold vt
      rw [hfe, if_pos (by omega)]
    have hkp := kc_e hp.1
    rw [evt]
    exact wp_s ⟨FRn.rf.st h98 (by unfold prot ncell; omega), hm.st hN ⟨b1.2, b2.2⟩ 11 p e h98 rfl (by unfold vl; omega) (by decide) rfl rfl (fun q => by omega)⟩
  have J1 : fe N V p (V 0 2).toNat 0 = -1 → wp (j1 u) (fun q => FRn u q.2 ∧ LR N q.2 (vt N V p)) := fun hfe => by
    have hl := gsz_last (N := N) hp
    have evt : vt N V p = if N 0 12 ≤ gsz N V p p.toNat ∧ V 0 2 < 20 then dcl N V p else V := by
      unfold vt
      rw [if_neg (fun h => h hfe), hl.2]
    have hkp := kc_e hp.1
    rw [e1]
    refine wp_g hk ?_
    refine wp_l (fun u5 h5 => ?_)
    refine wp_l (fun u7 h7 => ?_)
    refine wp_l (fun j8 e8 => ?_)
    let GR : uS → Int → Int → Prop := fun w q n => (∀ i, 0 ≤ i → i < n → ∃ r, gm N V p q.toNat r ∧ w 293 i = 294 + r) ∧ (∀ r, gm N V p q.toNat r → ∃ i, 0 ≤ i ∧ i < n ∧ w 293 i = 294 + r)
    have c7 : ∀ c, c ≠ 293 → u7 c = u c := fun c hc => by rw [h7, up_c hc, h5, upA_c hc]
    refine wl3 (fun n q w => (∀ c, c ≠ 293 → w c = u c) ∧ 0 ≤ q ∧ q ≤ p ∧ n = gsz N V p q.toNat ∧ GR w q n) (fun _ q _ => (V 0 1 - q).toNat) (fun go n q w hI hg => ?_) FU _ _ _ ⟨c7, by omega, by omega, (gsz_0 hpr).symm, fun i i0 i1 => ⟨p, rfl, by rw [h7, show i = 0 by omega, up_s]; exact hkp⟩, fun r hr => ⟨0, by decide, by decide, by rw [show r = p from hr, h7, up_s]; exact hkp⟩⟩ (FU_l (by omega))
    obtain ⟨hf, q0, q1, hnn, hG⟩ := hI
    have hmw : LR N w V := hm.sc hN hVb (fun c hc => hf c (fun q => hc (by omega)))
    have fw : FRn u w := FRn.rf.lk (fun c hc => hf c (fun q => hc (by omega)))
    have hnw := hn.fr hN fw
    have en : w 264 7 = V 0 1 := hmw.n
    have gb := gsz_b (N := N) (V := V) (p := p) (i := q.toNat) b1.1
    have gr : ∀ r i, gm N V p i r → i ≤ p.toNat → 0 ≤ r ∧ r < V 0 1 := fun r i hr hi => by rcases gm_in hr with h9 | h9 <;> omega
    unfold s_X10_vote_108
    rw [en]
    refine wp_g (by omega) ?_
    refine wp_i (fun c => ?_) (fun c => ?_)
    · have hq : q = p := by omega
      subst hq
      have e21 := hnw.1.2.2.2.2.2.2.2.2.2.2.2.2.1
      have e88 := hmw.e
      rw [e8]
      show wp (xgd (InR n ∧ InR (w 264 21)) _) _
      rw [e21]
      refine wp_g (by omega) ?_
      refine wp_i (fun c => ?_) (fun c => ?_)
      · refine wp_s ?_
        rw [evt, if_neg (fun h => by omega)]
        exact ⟨fw, hmw⟩
      · rw [e88]
        refine wp_g (by omega) ?_
        refine wp_i (fun c => ?_) (fun c => ?_)
        · refine wp_s ?_
          rw [evt, if_neg (fun h => by omega)]
          exact ⟨fw, hmw⟩
        · rw [evt, if_pos ⟨by omega, by omega⟩]
          refine wp_l (fun j16 e16 => ?_)
          have m0 : LR N w (mkw V (w 293) 0) := hmw.cg rfl rfl rfl (fun _ => rfl) (fun j s hv => by
            show V j s = if j = 11 then _ else _
            by_cases hj : j = 11
            · subst hj
              rw [if_pos rfl, cif_f (fun ⟨i, i0, i1, _⟩ => by omega)]
            · rw [if_neg hj])
          refine wl2 (fun k x => FRn u x ∧ LR N x (mkw V (w 293) k) ∧ x 293 = w 293 ∧ 0 ≤ k ∧ k ≤ n) (fun k _ => (n - k).toNat) (fun go k x hI hg => ?_) FU _ _ ⟨fw, m0, rfl, by omega, by omega⟩ (FU_l (by omega))
          obtain ⟨xf, xM, x9, k0, k1⟩ := hI
          have xe : x 264 8 = V 0 2 := xM.e
          have xt : x 264 9 = V 0 0 := xM.t
          unfold s_X10_vote_234
          refine wp_g (by omega) ?_
          refine wp_i (fun c => ?_) (fun c => ?_)
          · have hkn : k = n := by omega
            have hall : ∀ s, mkw V (w 293) k 11 s = mkg N V q (V 0 1).toNat 11 s := fun s => by
              show cif _ _ _ = cif _ _ _
              refine cif_c ⟨fun ⟨i, i0, i1, i2⟩ => ?_, fun h => ?_⟩
              · obtain ⟨r, r1, r2⟩ := hG.1 i i0 (by omega)
                have : r = s := by omega
                exact (hl.1 s).mpr (this ▸ r1)
              · obtain ⟨i, i0, i1, i2⟩ := hG.2 s ((hl.1 s).mp h)
                exact ⟨i, i0, by omega, i2⟩
            have xM2 : LR N x (mkg N V q (V 0 1).toNat) := xM.cg rfl rfl rfl (fun _ => rfl) (fun j s hv => by
              by_cases hj : j = 11
              · subst hj; exact hall s
              · show (if j = 11 then _ else _) = if j = 11 then _ else _
                rw [if_neg hj, if_neg hj])
            rw [e16]
            show wp (xlet (up x 264 8 (x 264 8 + 1)) fun u18 => xgd (0 ≤ x 264 8 ∧ x 264 8 < 20) (xlet (up u18 268 (x 264 8) (u18 264 9)) fun u20 => some ((0 : Int), u20))) _
            rw [xe]
            refine wp_l (fun u18 e18 => ?_)
            refine wp_g (by omega) ?_
            refine wp_l (fun u20 e20 => ?_)
            have z1 : u18 264 9 = V 0 0 := by rw [e18, up_j (by decide)]; exact xt
            rw [z1] at e20
            have hc : ∀ c i, ¬ (c = 264 ∧ i = 8) → ¬ (c = 268 ∧ i = V 0 2) → u20 c i = x c i := fun c i h1 h2 => by
              rw [e20, up_n (by omega), e18, up_n (by omega)]
            have h264 : u20 264 8 = V 0 2 + 1 := by rw [e20, up_k (by decide), e18, up_s]
            have h268 : u20 268 (V 0 2) = V 0 0 := by rw [e20, up_s]
            have h267 : u20 267 (V 0 2) = 0 := by rw [hc _ _ (by omega) (by omega)]; exact xM2.2.2.2 _ (Int.le_refl _) (by omega)
            suffices fin : LR N u20 (dcl N V q) from wp_s ⟨(xf.st e18 (by unfold prot ncell; omega)).st e20 (by unfold prot ncell; omega), fin⟩
            refine ⟨?_, ?_, ?_, ?_⟩
            · intro j s hv h7
              have hv2 : vl (N 0 0) (V 0 1) (V 0 2 + 1) j s := hv
              have hll := vl_lim hv2 n0.2 b1.2 (by omega)
              have f := lc_f hll
              have b := hv2
              unfold vl at b
              by_cases h1 : j = 14 ∧ s = V 0 2
              · obtain ⟨rfl, rfl⟩ := h1
                show u20 267 (V 0 2) = dcl N V q 14 (V 0 2)
                unfold dcl
                rw [h267, up_k (by decide), up_k (by decide), up_s]
              · by_cases h2 : j = 13 ∧ s = V 0 2
                · obtain ⟨rfl, rfl⟩ := h2
                  show u20 268 (V 0 2) = dcl N V q 13 (V 0 2)
                  unfold dcl
                  rw [h268, up_k (by decide), up_s]
                · by_cases h3 : j = 0 ∧ s = 2
                  · obtain ⟨rfl, rfl⟩ := h3
                    show u20 264 8 = dcl N V q 0 2
                    unfold dcl
                    rw [h264, up_s]
                  · have ed : ∀ j s, ¬ (j = 14 ∧ s = V 0 2) → ¬ (j = 13 ∧ s = V 0 2) → ¬ (j = 0 ∧ s = 2) → dcl N V q j s = mkg N V q (V 0 1).toNat j s := fun j s a1 a2 a3 => by
                      unfold dcl
                      rw [up_n (by omega), up_n (by omega), up_n (by omega)]
                    rw [ed j s h1 h2 h3, hc _ _ (by omega) (by omega)]
                    refine xM2.1 j s (by unfold vl; show _ ∧ ((j = 0 ∧ s < 3) ∨ _ ∨ ((8 ≤ j ∧ j ≤ 12) ∧ s < V 0 1) ∨ ((j = 13 ∨ j = 14) ∧ s < V 0 2)); omega) (fun h9 => ?_)
                    have := h7 h9
                    rw [ed 5 s (by omega) (by omega) (by omega)] at this
                    exact this
            · intro s t s0 s1 t0 t1 t2
              have := pc_e s0
              rw [hc _ _ (by omega) (by omega)]
              exact xM2.2.1 s t s0 s1 t0 t1 t2
            · intro s s0 s1
              rw [hc _ _ (by omega) (by omega)]
              exact xM2.2.2.1 s s0 s1
            · intro s s0 s1
              have s0 : V 0 2 + 1 ≤ s := s0
              rw [hc _ _ (by omega) (by omega)]
              exact xM2.2.2.2 s (show V 0 2 ≤ s by omega) s1
          · obtain ⟨r, r1, r2⟩ := hG.1 k k0 (by omega)
            have rb := gr r _ r1 (Nat.le_refl _)
            have er : x 293 k = 294 + r := by rw [x9]; exact r2
            have hkr := kc_e rb.1
            refine wp_g (by omega) ?_
            refine wp_g (by omega) ?_
            refine wp_L ?_
            rw [show (x 293 k).toNat = kc r by unfold kc; omega, xe]
            refine wp_l (fun u32 e32 => ?_)
            refine hg _ _ ⟨xf.st e32 (by unfold prot ncell; omega), ?_, ?_, by omega, by omega⟩ (by omega)
            · refine (xM.st hN ⟨b1.2, b2.2⟩ 11 r (V 0 2) e32 rfl (show vl 8 (V 0 1) (V 0 2) 11 r by unfold vl; omega) (by decide) rfl rfl (fun q => by omega)).cg rfl rfl rfl (fun _ => rfl) (fun j s hv => ?_)
              by_cases hj : j = 11
              · subst hj
                show _ = cif _ _ _
                by_cases hs : s = r
                · subst hs
                  rw [up_s, cif_t ⟨k, k0, by omega, r2⟩]
                · rw [up_j hs]
                  show cif _ _ _ = _
                  refine cif_c ⟨fun ⟨i, i0, i1, i2⟩ => ⟨i, i0, by omega, i2⟩, fun ⟨i, i0, i1, i2⟩ => ⟨i, i0, ?_, i2⟩⟩
                  by_cases hik : i = k
                  · subst hik; omega
                  · omega
              · rw [up_k hj]
                show (if j = 11 then _ else _) = if j = 11 then _ else _
                rw [if_neg hj, if_neg hj]
            · rw [e32, up_c (by omega)]; exact x9
    · have hqr : 0 ≤ q ∧ q < V 0 1 := by omega
      obtain ⟨x1, x2⟩ := hmw.px hqr.1 hqr.2 b1.2
      have p11 := hmw.pe hqr.1 hqr.2
      have p12 := hmw.pr hqr.1 hqr.2
      have bq := bP q hqr.1 hqr.2
      have eq : ((q.toNat : Nat) : Int) = q := by omega
      have es : (q + 1).toNat = q.toNat + 1 := by omega
      refine wp_g (by omega) ?_
      refine wp_g x1 ?_
      refine wp_L ?_
      rw [x2, p11]
      refine wp_g (by omega) ?_
      refine wp_l (fun j46 e46 => ?_)
      have J46 : ∀ z, (z = 1 ∧ V 11 q = -1 ∧ V 12 q = 0) ∨ (z = 0 ∧ ¬ (V 11 q = -1 ∧ V 12 q = 0)) → wp (j46 z w) (fun q => FRn u q.2 ∧ LR N q.2 (vt N V p)) := fun z hz => by
        rw [e46]
        refine wp_l (fun j50 e50 => ?_)
        have J50 : ∀ b, (b = 0 ∨ b = 1) → (b = 1 ↔ V 11 q = -1 ∧ V 12 q = 0 ∧ ∀ r, gm N V p q.toNat r → fit N V r q) → wp (j50 b w) (fun q => FRn u q.2 ∧ LR N q.2 (vt N V p)) := fun b hb1 hb2 => by
          rw [e50]
          refine wp_g (by omega) ?_
          refine wp_i (fun c => ?_) (fun c => ?_)
          · have h := gm_s0 (N := N) (V := V) (p := p) (i := q.toNat) (fun h => by rw [eq] at h; have := hb2.mpr ⟨h.2.1, h.2.2.1, h.2.2.2⟩; omega)
            refine hg _ _ _ ⟨hf, by omega, by omega, ?_, ?_⟩ (by omega)
            · unfold gsz at hnn ⊢; rw [es, h]; exact hnn
            · show (∀ i, 0 ≤ i → i < n → ∃ r, gm N V p (q + 1).toNat r ∧ w 293 i = 294 + r) ∧ (∀ r, gm N V p (q + 1).toNat r → ∃ i, 0 ≤ i ∧ i < n ∧ w 293 i = 294 + r)
              rw [es, h]; exact hG
          · obtain ⟨k1, k2, k3⟩ := hb2.mp (by omega)
            have hgm : ((q.toNat : Nat) : Int) ≠ p ∧ V 11 (q.toNat : Int) = -1 ∧ V 12 (q.toNat : Int) = 0 ∧ ∀ r, gm N V p q.toNat r → fit N V r (q.toNat : Int) := by rw [eq]; exact ⟨by omega, k1, k2, k3⟩
            have h1 := gsz_s1 (by omega) hgm
            have h2 := gm_s1 hgm
            have gb2 := gsz_b (N := N) (V := V) (p := p) (i := q.toNat + 1) b1.1
            refine wp_g (by omega) ?_
            refine wp_g x1 ?_
            refine wp_L ?_
            rw [x2]
            refine wp_g (by omega) ?_
            refine wp_l (fun u62 e62 => ?_)
            have hkq := kc_e q0
            refine hg _ _ _ ⟨fun c hc => by rw [e62, up_c hc]; exact hf c hc, by omega, by omega, by rw [es, h1]; omega, ?_⟩ (by omega)
            show (∀ i, 0 ≤ i → i < n + 1 → ∃ r, gm N V p (q + 1).toNat r ∧ u62 293 i = 294 + r) ∧ (∀ r, gm N V p (q + 1).toNat r → ∃ i, 0 ≤ i ∧ i < n + 1 ∧ u62 293 i = 294 + r)
            rw [es]
            refine ⟨fun i i0 i1 => ?_, fun r hr => ?_⟩
            · by_cases hi : i = n
              · subst hi
                exact ⟨q, (h2 q).mpr (Or.inl eq.symm), by rw [e62, up_s]; exact hkq⟩
              · obtain ⟨r, r1, r2⟩ := hG.1 i i0 (by omega)
                exact ⟨r, (h2 r).mpr (Or.inr r1), by rw [e62, up_j hi]; exact r2⟩
            · rcases (h2 r).mp hr with h9 | h9
              · exact ⟨n, by omega, by omega, by rw [e62, up_s, h9, eq]; exact hkq⟩
              · obtain ⟨i, i0, i1, i2⟩ := hG.2 r h9
                exact ⟨i, i0, by omega, by rw [e62, up_j (by omega)]; exact i2⟩
        refine wl3 (fun b k x => x = w ∧ 0 ≤ k ∧ k ≤ n ∧ ((b = 1 ∧ (V 11 q = -1 ∧ V 12 q = 0) ∧ ∀ i, 0 ≤ i → i < k → ∀ r, w 293 i = 294 + r → fit N V r q) ∨ (b = 0 ∧ ¬ (V 11 q = -1 ∧ V 12 q = 0 ∧ ∀ r, gm N V p q.toNat r → fit N V r q)))) (fun _ k _ => (n - k).toNat) (fun go b k x hI hg => ?_) FU _ _ _ ⟨rfl, by omega, by omega, ?_⟩ (FU_l (by omega))
        · obtain ⟨rfl, k0, k1, hb⟩ := hI
          unfold s_X10_vote_155
          refine wp_g (by omega) ?_
          refine wp_i (fun c => ?_) (fun c => ?_)
          · refine J50 b (by omega) ?_
            rcases hb with ⟨hb1, hb2, hb3⟩ | ⟨hb1, hb2⟩
            · refine ⟨fun _ => ⟨hb2.1, hb2.2, fun r hr => ?_⟩, fun _ => hb1⟩
              obtain ⟨i, i0, i1, i2⟩ := hG.2 r hr
              exact hb3 i i0 (by omega) r i2
            · exact ⟨fun h => by omega, fun h => absurd h hb2⟩
          · refine wp_g (by omega) ?_
            refine wp_i (fun c => ?_) (fun c => ?_)
            · refine J50 b (by omega) ?_
              rcases hb with ⟨hb1, -⟩ | ⟨hb1, hb2⟩
              · omega
              · exact ⟨fun h => by omega, fun h => absurd h hb2⟩
            · rcases hb with ⟨hb1, hb2, hb3⟩ | ⟨hb1, hb2⟩
              · obtain ⟨r, r1, r2⟩ := hG.1 k k0 (by omega)
                have rb := gr r _ r1 (by omega)
                refine wp_g (by omega) ?_
                refine wp_g (by omega) ?_
                refine wp_L ?_
                rw [show (x 293 k).toNat = kc r by unfold kc; omega]
                refine wp_g (by omega) ?_
                refine wp_g x1 ?_
                refine wp_L ?_
                rw [x2]
                refine wp_e (qfit hN hnw hVb hmw rb hqr) ?_
                by_cases hft : fit N V r q
                · rw [if_pos hft]
                  refine hg _ _ _ ⟨rfl, by omega, by omega, Or.inl ⟨rfl, hb2, fun i i0 i1 r' hr' => ?_⟩⟩ (by omega)
                  by_cases hik : i = k
                  · subst hik
                    have : r' = r := by omega
                    rw [this]; exact hft
                  · exact hb3 i i0 (by omega) r' hr'
                · rw [if_neg hft]
                  exact hg _ _ _ ⟨rfl, by omega, by omega, Or.inr ⟨rfl, fun h => hft (h.2.2 r r1)⟩⟩ (by omega)
              · omega
        · rcases hz with ⟨rfl, z1⟩ | ⟨rfl, z1⟩
          · exact Or.inl ⟨rfl, z1, fun i i0 i1 => by omega⟩
          · exact Or.inr ⟨rfl, fun h => z1 ⟨h.1, h.2.1⟩⟩
      refine wp_l (fun j84 e84 => ?_)
      have J84 : ¬ (V 11 q = -1 ∧ V 12 q = 0) → wp (j84 w) (fun q => FRn u q.2 ∧ LR N q.2 (vt N V p)) := fun h => by
        rw [e84]
        exact J46 0 (Or.inr ⟨rfl, h⟩)
      refine wp_i (fun c => ?_) (fun c => ?_)
      · exact J84 (fun h => by omega)
      · refine wp_g (by omega) ?_
        refine wp_g x1 ?_
        refine wp_L ?_
        rw [p12]
        refine wp_g (by omega) ?_
        refine wp_i (fun c => ?_) (fun c => ?_)
        · exact J46 1 (Or.inl ⟨rfl, by omega, by omega⟩)
        · exact J84 (fun h => by omega)
  refine wl2 (fun i v => v = u ∧ 0 ≤ i ∧ i ≤ V 0 2 ∧ fe N V p (V 0 2 - i).toNat i = fe N V p (V 0 2).toNat 0) (fun i _ => (V 0 2 - i).toNat) (fun go i v hI hg => ?_) FU _ _ ⟨rfl, by omega, by omega, by rw [show V 0 2 - 0 = V 0 2 by omega]⟩ (FU_l (by omega))
  obtain ⟨rfl, i0, i1, hfe⟩ := hI
  unfold s_X10_vote_2
  rw [ee]
  refine wp_g (by omega) ?_
  refine wp_i (fun c => ?_) (fun c => ?_)
  · rw [show V 0 2 - i = 0 by omega] at hfe
    exact J1 hfe.symm
  · have be := bE i i0 (by omega)
    have e14 := hm.re i0 (show i < V 0 2 by omega)
    have en := hm.n
    rw [show (V 0 2 - i).toNat = (V 0 2 - (i + 1)).toNat + 1 by omega] at hfe
    have hfe2 : cif (V 14 i = 0 ∧ fitA N V i p) i (fe N V p (V 0 2 - (i + 1)).toNat (i + 1)) = fe N V p (V 0 2).toNat 0 := hfe
    refine wp_g (by omega) ?_
    rw [e14]
    refine wp_g (by omega) ?_
    refine wp_l (fun j106 e106 => ?_)
    have J106 : ∀ z, (z = 0 ∨ z = 1) → (z = 1 ↔ V 14 i = 0) → wp (j106 z v) (fun q => FRn v q.2 ∧ LR N q.2 (vt N V p)) := fun z hz1 hz2 => by
      rw [e106]
      refine wp_l (fun j109 e109 => ?_)
      refine wl3 (fun b q x => x = v ∧ 0 ≤ q ∧ q ≤ V 0 1 ∧ (b = 0 ∨ b = 1) ∧ (b = 1 ↔ V 14 i = 0 ∧ ∀ r, 0 ≤ r → r < q → V 11 r = i → fit N V r p)) (fun _ q _ => (V 0 1 - q).toNat) (fun go2 b q x hI hg2 => ?_) FU _ _ _ ⟨rfl, by omega, by omega, hz1, hz2.trans ⟨fun h => ⟨h, fun r r0 r1 => by omega⟩, fun h => h.1⟩⟩ (FU_l (by omega))
      obtain ⟨rfl, q0, q1, hb1, hb2⟩ := hI
      unfold s_X10_vote_28
      rw [en]
      refine wp_g (by omega) ?_
      refine wp_i (fun c => ?_) (fun c => ?_)
      · have hfa : b = 1 ↔ V 14 i = 0 ∧ fitA N V i p := by
          refine hb2.trans ⟨fun h => ⟨h.1, fun r r0 r1 r2 _ => h.2 r r0 (by omega) r2⟩, fun h => ⟨h.1, fun r r0 r1 r2 => h.2 r r0 (by omega) r2 (fun hrp => ?_)⟩⟩
          subst hrp; omega
        rw [e109]
        refine wp_g (by omega) ?_
        refine wp_i (fun c => ?_) (fun c => ?_)
        · rw [cif_f (fun h => by have := hfa.mpr h; omega)] at hfe2
          exact hg _ _ ⟨rfl, by omega, by omega, hfe2⟩ (by omega)
        · rw [cif_t (hfa.mp (by omega))] at hfe2
          exact J95 i i0 (by omega) hfe2.symm
      · obtain ⟨x1, x2⟩ := hm.px q0 (show q < V 0 1 by omega) b1.2
        have p11 := hm.pe q0 (show q < V 0 1 by omega)
        have bq := bP q q0 (by omega)
        refine wp_g (by omega) ?_
        refine wp_g x1 ?_
        refine wp_L ?_
        rw [x2, p11]
        refine wp_g (by omega) ?_
        refine wp_i (fun c => ?_) (fun c => ?_)
        · refine wp_g (by omega) ?_
          refine wp_g x1 ?_
          refine wp_L ?_
          refine wp_e (qfit hN hn hVb hm hpr ⟨q0, by omega⟩) ?_
          by_cases hft : fit N V p q
          · rw [if_pos hft]
            refine wp_g (by decide) ?_
            refine wp_f (by decide) ?_
            refine hg2 _ _ _ ⟨rfl, by omega, by omega, hb1, hb2.trans ⟨fun h => ⟨h.1, fun r r0 r1 r2 => ?_⟩, fun h => ⟨h.1, fun r r0 r1 r2 => h.2 r r0 (by omega) r2⟩⟩⟩ (by omega)
            by_cases hr : r = q
            · subst hr; exact fit_c.mp hft
            · exact h.2 r r0 (by omega) r2
          · rw [if_neg hft]
            refine wp_g (by decide) ?_
            refine wp_t rfl ?_
            exact hg2 _ _ _ ⟨rfl, by omega, by omega, Or.inl rfl, ⟨fun h => by omega, fun h => absurd (fit_c.mpr (h.2 q q0 (by omega) (by assumption))) hft⟩⟩ (by omega)
        · refine hg2 _ _ _ ⟨rfl, by omega, by omega, hb1, hb2.trans ⟨fun h => ⟨h.1, fun r r0 r1 r2 => ?_⟩, fun h => ⟨h.1, fun r r0 r1 r2 => h.2 r r0 (by omega) r2⟩⟩⟩ (by omega)
          by_cases hr : r = q
          · subst hr; contradiction
          · exact h.2 r r0 (by omega) r2
    refine wp_i (fun c => ?_) (fun c => ?_)
    · exact J106 1 (Or.inr rfl) ⟨fun _ => by assumption, fun _ => rfl⟩
    · exact J106 0 (Or.inl rfl) ⟨fun h => by omega, fun h => by contradiction⟩
end LP
