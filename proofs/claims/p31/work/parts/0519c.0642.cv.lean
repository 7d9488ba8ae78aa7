/-! pure part, 12: the class's votes and its whole tick -/
theorem CV.fr0 {u u' V : uS} {k : Nat} (h : CV u k V) (hk : 54 ≤ k) (e : ∀ c, c ≠ 28 → c ≠ 29 → u' c = u c) : CV u' k V := h.row (fun j _ => e _ (by omega) (by omega))
theorem CN.fr0 {u u' N : uS} {n : Nat} (h : CN u n N) (e : ∀ c, c ≠ 28 → c ≠ 29 → u' c = u c) : CN u' n N := by
  have h2 := net_at h.1
  exact h.row (fun j _ => e _ (by omega) (by omega))
/-- the engine's group shows who is in -/
def Grp (v : uS) (M : Int → Prop) : Prop := (∀ j, 0 ≤ j → j < v 28 1 → M (v 29 j)) ∧ ∀ q, M q → ∃ j, 0 ≤ j ∧ j < v 28 1 ∧ v 29 j = q
/-- the events' rows while a group is being declared -/
noncomputable def dgi (V u : uS) (i : Int) : uS := fun j s => if j = 11 then cif (∃ m, 0 ≤ m ∧ m < i ∧ u 29 m = s) (V 0 2) (V 11 s) else up (up V 13 (V 0 2) (V 0 0)) 14 (V 0 2) 0 j s
section CV
variable {u N V : uS} {n k : Nat}
theorem cfitsGroup {q : Int} {M : Int → Prop} (hN : NWF N) (hn : CN u n N) (hV : WFb N V) (hk : k < NN ∧ sT k = 11) (hm : CV u k V) (hq : 0 ≤ q ∧ q < V 0 1) (hg : Grp u M) (hM : ∀ r, M r → 0 ≤ r ∧ r < V 0 1) (hz : 0 ≤ u 28 1 ∧ u 28 1 ≤ 60) :
    f_X0_fitsGroup n k q u = some (cif (∀ r, M r → fit N V r q) 1 0, u) := by
  refine wp_eq ?_
  unfold f_X0_fitsGroup
  refine wp_g ⟨hn.1, hk⟩ ?_
  refine wl2 (fun i v => v = u ∧ 0 ≤ i ∧ i ≤ u 28 1 ∧ ∀ j, 0 ≤ j → j < i → fit N V (u 29 j) q) (fun i _ => (u 28 1 - i).toNat) (fun go i v hI hg2 => ?_) FU _ _ ⟨rfl, by omega, by omega, fun q h1 h2 => by omega⟩ (FU_l (by omega))
  obtain ⟨rfl, h0, h1, hf⟩ := hI
  unfold s_X0_fitsGroup_3
  refine wp_g (by omega) ?_
  refine wp_i (fun c => ?_) (fun c => ?_)
  · refine wp_s ?_
    rw [cif_t (fun r hr => by
      obtain ⟨j, j0, j1, rfl⟩ := hg.2 r hr
      exact hf j j0 (by omega))]
  · have hr := hM _ (hg.1 i h0 (by omega))
    repeat (first | (with_reducible refine wp_L ?_) | (with_reducible refine wp_g ?_ ?_; · omega) | (with_reducible refine wp_f ?_ ?_; · omega) | (with_reducible refine wp_t ?_ ?_; · omega))
    refine wp_e (cpicksFit hN hn hV hk hm hr hq) ?_
    by_cases c9 : fit N V (v 29 i) q
    · rw [if_pos c9]
      repeat (first | (with_reducible refine wp_L ?_) | (with_reducible refine wp_g ?_ ?_; · omega) | (with_reducible refine wp_f ?_ ?_; · omega) | (with_reducible refine wp_t ?_ ?_; · omega))
      exact hg2 _ _ ⟨rfl, by omega, by omega, fun j j0 j1 => by
        by_cases hj : j = i
        · subst hj; exact c9
        · exact hf j j0 (by omega)⟩ (by omega)
    · rw [if_neg c9]
      repeat (first | (with_reducible refine wp_L ?_) | (with_reducible refine wp_g ?_ ?_; · omega) | (with_reducible refine wp_f ?_ ?_; · omega) | (with_reducible refine wp_t ?_ ?_; · omega))
      refine wp_s ?_
      rw [cif_f (fun h => c9 (h _ (hg.1 i h0 (by omega))))]
theorem cformGroup {p : Int} (hN : NWF N) (hn : CN u n N) (hV : WFb N V) (hk : k < NN ∧ sT k = 11) (hm : CV u k V) (hp : 0 ≤ p ∧ p < V 0 1) :
    wp (f_X0_formGroup n k p u) (fun q => (∀ c, c ≠ 28 → c ≠ 29 → q.2 c = u c) ∧ Grp q.2 (gm N V p (V 0 1).toNat) ∧ q.2 28 1 = gsz N V p (V 0 1).toNat) := by
  have hkk := sit_at hk
  have hVb := hV
  obtain ⟨b0, b1, b2, bS, bI, bP, bE⟩ := hV
  unfold f_X0_formGroup
  refine wp_g ⟨hn.1, hk⟩ ?_
  refine wp_L ?_
  refine wp_L ?_
  refine wl2 (fun i v => (∀ c, c ≠ 28 → c ≠ 29 → v c = u c) ∧ 0 ≤ i ∧ i ≤ V 0 1 ∧ Grp v (gm N V p i.toNat) ∧ v 28 1 = gsz N V p i.toNat) (fun i _ => (V 0 1 - i).toNat) (fun go i v hI hg2 => ?_) FU _ _ ⟨fun c h1 h2 => (up_c h1).trans (up_c h2), by omega, by omega, ⟨fun j j0 j1 => ?_, fun q hq => ?_⟩, ?_⟩ (FU_l (by omega))
  · obtain ⟨hf, h0, h1, hG, hz⟩ := hI
    have mv : CV v k V := hm.fr0 hkk.1 hf
    have nv : CN v n N := hn.fr0 hf
    have e1 := mv.n
    have gb := gsz_b (N := N) (V := V) (p := p) (i := i.toNat) b1.1
    have hin : ∀ r, gm N V p i.toNat r → 0 ≤ r ∧ r < V 0 1 := fun r hr => by
      rcases gm_in hr with h | h <;> omega
    unfold s_X0_formGroup_15
    refine wp_g (by omega) ?_
    refine wp_i (fun c => ?_) (fun c => ?_)
    · refine wp_s ⟨hf, ?_⟩
      rw [show (V 0 1).toNat = i.toNat by omega]
      exact ⟨hG, hz⟩
    · have p11 := mv.pe h0 (by omega)
      have p12 := mv.pr h0 (by omega)
      have bp := bP i h0 (by omega)
      have en : ((i.toNat : Nat) : Int) = i := by omega
      have es : (i + 1).toNat = i.toNat + 1 := by omega
      have no : ¬ (i ≠ p ∧ V 11 i = -1 ∧ V 12 i = 0 ∧ ∀ r, gm N V p i.toNat r → fit N V r i) → wp (go (i + 1) v) (fun q => (∀ c, c ≠ 28 → c ≠ 29 → q.2 c = u c) ∧ Grp q.2 (gm N V p (V 0 1).toNat) ∧ q.2 28 1 = gsz N V p (V 0 1).toNat) := by
        intro h
        have e := gm_s0 (N := N) (V := V) (p := p) (i := i.toNat) (by rw [en]; exact h)
        refine hg2 _ _ ⟨hf, by omega, by omega, ?_, ?_⟩ (by omega)
        · rw [es, e]; exact hG
        · unfold gsz at hz ⊢; rw [es, e]; exact hz
      repeat (first | (with_reducible refine wp_L ?_) | (with_reducible refine wp_g ?_ ?_; · omega) | (with_reducible refine wp_f ?_ ?_; · omega) | (with_reducible refine wp_t ?_ ?_; · omega))
      refine wp_i (fun c => ?_) (fun c => ?_)
      · repeat (first | (with_reducible refine wp_L ?_) | (with_reducible refine wp_g ?_ ?_; · omega) | (with_reducible refine wp_f ?_ ?_; · omega) | (with_reducible refine wp_t ?_ ?_; · omega))
        refine wp_i (fun c => ?_) (fun c => ?_)
        · repeat (first | (with_reducible refine wp_L ?_) | (with_reducible refine wp_g ?_ ?_; · omega) | (with_reducible refine wp_f ?_ ?_; · omega) | (with_reducible refine wp_t ?_ ?_; · omega))
          refine wp_e (cfitsGroup hN nv hVb hk mv ⟨h0, by omega⟩ hG hin (by omega)) ?_
          by_cases hall : ∀ r, gm N V p i.toNat r → fit N V r i
          · rw [cif_t hall]
            have hgm : i ≠ p ∧ V 11 i = -1 ∧ V 12 i = 0 ∧ ∀ r, gm N V p i.toNat r → fit N V r i := ⟨fun h => (hall p gm_p).1 (by rw [h]), by omega, by omega, hall⟩
            have hgm2 := hgm
            rw [← en] at hgm2
            have hs1 := gsz_s1 (N := N) (V := V) (p := p) (i := i.toNat) (by omega) hgm2
            have gb1 := gsz_b (N := N) (V := V) (p := p) (i := i.toNat + 1) b1.1
            repeat (first | (with_reducible refine wp_L ?_) | (with_reducible refine wp_g ?_ ?_; · omega) | (with_reducible refine wp_f ?_ ?_; · omega) | (with_reducible refine wp_t ?_ ?_; · omega))
            have z1 : up (up v 29 (v 28 1) i) 28 1 (up v 29 (v 28 1) i 28 1 + 1) 28 1 = v 28 1 + 1 := by rw [up_s, up_k (by decide)]
            have z2 : ∀ j, up (up v 29 (v 28 1) i) 28 1 (up v 29 (v 28 1) i 28 1 + 1) 29 j = if j = v 28 1 then i else v 29 j := fun j => by
              rw [up_k (by decide)]
              by_cases hj : j = v 28 1
              · subst hj; rw [up_s, if_pos rfl]
              · rw [up_j hj, if_neg hj]
            refine hg2 _ _ ⟨fun c c1 c2 => by rw [up_c c1, up_c c2]; exact hf c c1 c2, by omega, by omega, ⟨fun j j0 j1 => ?_, fun q hq => ?_⟩, ?_⟩ (by omega)
            · rw [z2, es]
              rw [z1] at j1
              by_cases hj : j = v 28 1
              · rw [if_pos hj]; exact (gm_s1 hgm2 i).mpr (Or.inl (by omega))
              · rw [if_neg hj]; exact Or.inl (hG.1 j j0 (by omega))
            · rw [es] at hq
              rcases (gm_s1 hgm2 q).mp hq with h | h
              · exact ⟨v 28 1, by omega, by rw [z1]; omega, by rw [z2, if_pos rfl]; omega⟩
              · obtain ⟨j, j0, j1, j2⟩ := hG.2 q h
                exact ⟨j, j0, by rw [z1]; omega, by rw [z2, if_neg (by omega)]; exact j2⟩
            · rw [z1, es, hs1]; omega
          · rw [cif_f hall]
            repeat (first | (with_reducible refine wp_L ?_) | (with_reducible refine wp_g ?_ ?_; · omega) | (with_reducible refine wp_f ?_ ?_; · omega) | (with_reducible refine wp_t ?_ ?_; · omega))
            exact no (fun h => hall h.2.2.2)
        · repeat (first | (with_reducible refine wp_L ?_) | (with_reducible refine wp_g ?_ ?_; · omega) | (with_reducible refine wp_f ?_ ?_; · omega) | (with_reducible refine wp_t ?_ ?_; · omega))
          exact no (fun h => by omega)
      · repeat (first | (with_reducible refine wp_L ?_) | (with_reducible refine wp_g ?_ ?_; · omega) | (with_reducible refine wp_f ?_ ?_; · omega) | (with_reducible refine wp_t ?_ ?_; · omega))
        exact no (fun h => by omega)
  · have h1 : j = 0 := by
      have : up (up u 29 0 p) 28 1 1 28 1 = 1 := up_s _ _ _ _
      omega
    subst h1
    show up (up u 29 0 p) 28 1 1 29 0 = p
    rw [up_k (by decide), up_s]
  · have hq : q = p := hq
    subst hq
    exact ⟨0, by decide, by rw [up_s]; decide, by rw [up_k (by decide), up_s]⟩
  · rw [up_s]; exact (gsz_0 hp).symm
theorem cdeclareGroup {p : Int} (hV : WFb N V) (hk : k < NN ∧ sT k = 11) (hm : CV u k V) (h20 : V 0 2 < 20) (hp : 0 ≤ p ∧ p < V 0 1) (hg : Grp u (gm N V p (V 0 1).toNat)) (hz : 0 ≤ u 28 1 ∧ u 28 1 ≤ 60) :
    wp (f_X0_declareGroup k u) (fun q => FrK k u q.2 ∧ CV q.2 k (dcl N V p) ∧ q.2 (k + 3) = u (k + 3) ∧ q.2 (k + 4) = u (k + 4)) := by
  have hkk := sit_at hk
  obtain ⟨b0, b1, b2, bS, bI, bP, bE⟩ := hV
  have e0 := hm.t
  have e2 := hm.e
  unfold f_X0_declareGroup
  refine wp_g hk ?_
  repeat (first | (with_reducible refine wp_g ?_ ?_; · omega) | (with_reducible refine wp_f ?_ ?_; · omega) | (with_reducible refine wp_t ?_ ?_; · omega))
  refine wp_l (fun w1 g1 => ?_)
  rw [e2, e0] at g1
  have s1 := VE.stC hm 13 (V 0 2) (V 0 0) g1 rfl
  have r1 : w1 k 2 = V 0 2 := by rw [g1]; exact (up_k (by omega)).trans e2
  rw [r1]
  repeat (first | (with_reducible refine wp_g ?_ ?_; · omega) | (with_reducible refine wp_f ?_ ?_; · omega) | (with_reducible refine wp_t ?_ ?_; · omega))
  refine wp_l (fun w2 g2 => ?_)
  have s2 := VE.stC s1 14 (V 0 2) 0 g2 rfl
  have r2 : w2 k 2 = V 0 2 := by rw [g2]; exact (up_k (by omega)).trans r1
  have f1 : FrK k u w1 := by rw [g1]; exact FrK.rf.st (by omega)
  have f2 : FrK k u w2 := by rw [g2]; exact f1.st (by omega)
  have c2 : ∀ c, c = 28 ∨ c = 29 ∨ c = k + 3 ∨ c = k + 4 → w2 c = u c := fun c hc => by rw [g2, up_c (by omega), g1, up_c (by omega)]
  refine wp_L ?_
  refine wl2 (fun i v => FrK k u v ∧ (∀ c, c = 28 ∨ c = 29 ∨ c = k + 3 ∨ c = k + 4 → v c = u c) ∧ 0 ≤ i ∧ i ≤ u 28 1 ∧ VE (V 0 1) (V 0 2) (fun j s => v (k + j) s) (dgi V u i) ∧ v (k + 13) (V 0 2) = V 0 0 ∧ v (k + 14) (V 0 2) = 0) (fun i _ => (u 28 1 - i).toNat) (fun go i v hI hg2 => ?_) FU _ _ ⟨f2, c2, by omega, by omega, ?_, ?_, ?_⟩ (FU_l (by omega))
  · obtain ⟨hf, hc, h0, h1, hE, h13, h14⟩ := hI
    have z : v 28 1 = u 28 1 := by rw [hc 28 (by omega)]
    have r : v k 2 = V 0 2 := hE 0 2 (by unfold vd; omega)
    unfold s_X0_declareGroup_42
    refine wp_g (by omega) ?_
    refine wp_i (fun c => ?_) (fun c => ?_)
    · refine wp_L ?_
      refine wp_s ⟨hf.st (j := 0) (by omega), ?_, ?_, ?_⟩
      · rw [r]
        have s3 := VE.stC hE 0 2 (V 0 2 + 1) (w := up v (k + 0) 2 (V 0 2 + 1)) rfl rfl
        have s4 : VE (V 0 1) (V 0 2) (fun j s => up v (k + 0) 2 (V 0 2 + 1) (k + j) s) (dcl N V p) := by
          refine VE.cg s3 (fun j s hv => ?_)
          have hh : ∀ j s, dgi V u i j s = up (up (mkg N V p (V 0 1).toNat) 14 (V 0 2) 0) 13 (V 0 2) (V 0 0) j s := by
            intro j s
            unfold dgi
            by_cases hj : j = 11
            · subst hj
              rw [if_pos rfl, up_k (by decide), up_k (by decide)]
              show _ = cif (gm N V p (V 0 1).toNat s) (V 0 2) (V 11 s)
              refine cif_c ⟨fun ⟨m, m0, m1, m2⟩ => by rw [← m2]; exact hg.1 m m0 (by omega), fun h => ?_⟩
              obtain ⟨m, m0, m1, m2⟩ := hg.2 s h
              exact ⟨m, m0, by omega, m2⟩
            · rw [if_neg hj]
              have em : mkg N V p (V 0 1).toNat j s = V j s := if_neg hj
              unfold up
              rw [em]
              by_cases h1 : j = 13 ∧ s = V 0 2
              · rw [if_neg (by omega), if_pos h1, if_pos h1]
              · rw [if_neg h1, if_neg h1]
          unfold dcl
          show up (dgi V u i) 0 2 (V 0 2 + 1) j s = _
          rw [show dgi V u i = up (up (mkg N V p (V 0 1).toNat) 14 (V 0 2) 0) 13 (V 0 2) (V 0 0) from funext fun j => funext fun s => hh j s]
        refine VE.extE s4 ?_ ?_
        · show up v (k + 0) 2 (V 0 2 + 1) (k + 13) (V 0 2) = up (up (mkg N V p (V 0 1).toNat) 14 (V 0 2) 0) 13 (V 0 2) (V 0 0) 13 (V 0 2)
          rw [up_k (by omega), up_s, h13]
        · show up v (k + 0) 2 (V 0 2 + 1) (k + 14) (V 0 2) = up (up (mkg N V p (V 0 1).toNat) 14 (V 0 2) 0) 13 (V 0 2) (V 0 0) 14 (V 0 2)
          rw [up_k (by omega), up_k (by decide), up_s, h14]
      · exact (up_c (by omega)).trans (hc _ (by omega))
      · exact (up_c (by omega)).trans (hc _ (by omega))
    · have z9 : v 29 i = u 29 i := by rw [hc 29 (by omega)]
      have hin : 0 ≤ u 29 i ∧ u 29 i < V 0 1 := by
        rcases gm_in (hg.1 i h0 (by omega)) with h | h <;> omega
      repeat (first | (with_reducible refine wp_L ?_) | (with_reducible refine wp_g ?_ ?_; · omega) | (with_reducible refine wp_f ?_ ?_; · omega) | (with_reducible refine wp_t ?_ ?_; · omega))
      refine hg2 _ _ ⟨hf.st (by omega), fun c h => (up_c (by omega)).trans (hc c h), by omega, by omega, ?_, (up_k (by omega)).trans h13, (up_k (by omega)).trans h14⟩ (by omega)
      rw [z9, r]
      refine VE.cg (VE.stC hE 11 (u 29 i) (V 0 2) rfl rfl) (fun j s hv => ?_)
      unfold up dgi
      by_cases hj : j = 11
      · subst hj
        by_cases hs : s = u 29 i
        · rw [if_pos ⟨rfl, hs⟩, if_pos rfl, cif_t ⟨i, h0, by omega, hs.symm⟩]
        · rw [if_neg (fun h => hs h.2), if_pos rfl, if_pos rfl]
          refine cif_c ⟨fun ⟨m, m0, m1, m2⟩ => ⟨m, m0, by omega, m2⟩, fun ⟨m, m0, m1, m2⟩ => ⟨m, m0, ?_, m2⟩⟩
          by_cases hm : m = i
          · subst hm; exact absurd m2.symm hs
          · omega
      · rw [if_neg (fun h => hj h.1), if_neg hj, if_neg hj]
  · refine VE.cg s2 (fun j s hv => ?_)
    unfold dgi
    by_cases hj : j = 11
    · subst hj
      rw [if_pos rfl, cif_f (fun ⟨m, m0, m1, m2⟩ => by omega)]
      rfl
    · rw [if_neg hj]
  · rw [g2, up_k (by omega), g1, up_s]
  · rw [g2, up_s]
theorem cvote {p : Int} (hN : NWF N) (hn : CN u n N) (hV : WFc N V) (hm : CS N u k V) (hp : 0 ≤ p ∧ p < V 0 1) (h11 : V 11 p = -1) :
    wp (f_X0_vote n k p u) (fun q => FrK k u q.2 ∧ CS N q.2 k (vt N V p)) := by
  have hk := hm.1
  have hL := hm.2.2
  have hM := hm.2.1
  have hkk := sit_at hk
  have hnn := net_at hn.1
  have hVb := hV.1
  have n12 := hN.2.2.2.2.2.2.2.2.2.2.2.2.1
  obtain ⟨hV, -⟩ := hV
  obtain ⟨b0, b1, b2, bS, bI, bP, bE⟩ := hV
  have e2 := hM.e
  unfold f_X0_vote
  refine wp_g ⟨hn.1, hk⟩ ?_
  repeat (first | (with_reducible refine wp_L ?_) | (with_reducible refine wp_g ?_ ?_; · omega) | (with_reducible refine wp_f ?_ ?_; · omega) | (with_reducible refine wp_t ?_ ?_; · omega))
  refine wl2 (fun i v => v = u ∧ 0 ≤ i ∧ i ≤ V 0 2 ∧ fe N V p (V 0 2 - i).toNat i = fe N V p (V 0 2).toNat 0) (fun i _ => (V 0 2 - i).toNat) (fun go i v hI hg => ?_) FU _ _ ⟨rfl, by omega, by omega, by rw [show V 0 2 - 0 = V 0 2 by omega]⟩ (FU_l (by omega))
  obtain ⟨rfl, h0, h1, hfe⟩ := hI
  have done : i = V 0 2 → wp (xbd (f_X0_formGroup n k p v) fun _ u9 => xgd (InR (u9 28 1) ∧ InR (u9 n 7)) <| if u9 28 1 < u9 n 7 then some ((0 : Int), u9) else xgd (InR (u9 k 2)) <| if 20 ≤ u9 k 2 then some ((0 : Int), u9) else xbd (f_X0_declareGroup k u9) fun _ u15 => some ((0 : Int), u15)) (fun q => FrK k v q.2 ∧ CS N q.2 k (vt N V p)) := by
    intro hi
    rw [show V 0 2 - i = 0 by omega] at hfe
    have hfe2 : fe N V p (V 0 2).toNat 0 = -1 := hfe.symm
    have evt : vt N V p = if N 0 12 ≤ gsz N V p (V 0 1).toNat ∧ V 0 2 < 20 then dcl N V p else V := by
      unfold vt
      rw [if_neg (fun h => h hfe2)]
    refine wp_b (cformGroup hN hn hVb hk hM hp) (fun r w hw => ?_)
    obtain ⟨hw, hG, hz⟩ := hw
    have hw : ∀ c, c ≠ 28 → c ≠ 29 → w c = v c := hw
    have hz : w 28 1 = gsz N V p (V 0 1).toNat := hz
    have fw : FrK k v w := fun c c1 c2 _ => hw c c1 c2
    have mw : CV w k V := hM.fr0 hkk.1 hw
    have a7 : w n 7 = N 0 12 := by rw [hw n (by omega) (by omega)]; exact hn.2.1.2.2.2.2.2.2.2.2.2.2.2.2.1
    have ew := mw.e
    have gb := gsz_b (N := N) (V := V) (p := p) (i := (V 0 1).toNat) b1.1
    have sw : CS N w k V := hm.row (fun j hj => hw _ (by omega) (by omega))
    refine wp_g (by omega) ?_
    refine wp_i (fun c => ?_) (fun c => ?_)
    · refine wp_s ⟨fw, ?_⟩
      rw [evt, if_neg (by omega)]; exact sw
    · refine wp_g (by omega) ?_
      refine wp_i (fun c => ?_) (fun c => ?_)
      · refine wp_s ⟨fw, ?_⟩
        rw [evt, if_neg (by omega)]; exact sw
      · refine wp_b (cdeclareGroup hVb hk mw (by omega) hp hG (by omega)) (fun r2 w2 h2 => wp_s ?_)
        rw [evt, if_pos ⟨by omega, by omega⟩]
        exact ⟨fw.tr h2.1, hk, h2.2.1, CL.cg sw.2.2 h2.2.2.1 h2.2.2.2 (funext fun i => rfl) rfl⟩
  unfold s_X0_vote_14
  refine wp_g (by omega) ?_
  refine wp_i (fun c => ?_) (fun c => ?_)
  · exact done (by omega)
  · have r14 := hM.re h0 (by omega)
    have be := bE i h0 (by omega)
    rw [show (V 0 2 - i).toNat = (V 0 2 - (i + 1)).toNat + 1 by omega] at hfe
    have hfe2 : cif (V 14 i = 0 ∧ fitA N V i p) i (fe N V p (V 0 2 - (i + 1)).toNat (i + 1)) = fe N V p (V 0 2).toNat 0 := hfe
    repeat (first | (with_reducible refine wp_L ?_) | (with_reducible refine wp_g ?_ ?_; · omega) | (with_reducible refine wp_f ?_ ?_; · omega) | (with_reducible refine wp_t ?_ ?_; · omega))
    refine wp_i (fun c => ?_) (fun c => ?_)
    · refine wp_e (cfitsAllOf hN hn hVb hk hM hp (by omega) (by omega)) ?_
      by_cases hfa : fitA N V i p
      · rw [cif_t hfa]
        rw [cif_t ⟨by omega, hfa⟩] at hfe2
        repeat (first | (with_reducible refine wp_L ?_) | (with_reducible refine wp_g ?_ ?_; · omega) | (with_reducible refine wp_f ?_ ?_; · omega) | (with_reducible refine wp_t ?_ ?_; · omega))
        refine wp_s ?_
        have evt : vt N V p = up V 11 p i := by
          unfold vt
          rw [← hfe2, if_pos (by omega)]
        rw [evt]
        exact ⟨FrK.rf.st (by omega), hk, VE.stC hM 11 p i rfl rfl, CL.cg hL (up_c (by omega)) (up_c (by omega)) (funext fun i => rfl) rfl⟩
      · rw [cif_f hfa]
        rw [cif_f (fun h => hfa h.2)] at hfe2
        repeat (first | (with_reducible refine wp_L ?_) | (with_reducible refine wp_g ?_ ?_; · omega) | (with_reducible refine wp_f ?_ ?_; · omega) | (with_reducible refine wp_t ?_ ?_; · omega))
        exact hg _ _ ⟨rfl, by omega, by omega, hfe2⟩ (by omega)
    · rw [cif_f (fun h => by omega)] at hfe2
      exact hg _ _ ⟨rfl, by omega, by omega, hfe2⟩ (by omega)
theorem cdoTick (hN : NWF N) (hn : CN u n N) (hV : WFc N V) (hm : CS N u k V) (ht : V 0 0 ≤ 10198) :
    wp (f_X0_doTick n k u) (fun q => FrK k u q.2 ∧ CS N q.2 k (tk N V)) := by
  have hk := hm.1
  have hL := hm.2.2
  have hM := hm.2.1
  have hkk := sit_at hk
  have hnn := net_at hn.1
  have hVc := hV
  have hN2 := hN
  obtain ⟨n0, n1, n2, n3, n4, n5, n6, n7, n8, n9, n10, n11, n12, n13, n14, nS, nR⟩ := hN
  obtain ⟨hV, -⟩ := hV
  have hVb := hV
  obtain ⟨b0, b1, b2, bS, bI, bP, bE⟩ := hV
  have e0 := hM.t
  unfold f_X0_doTick
  refine wp_g ⟨hn.1, hk⟩ ?_
  refine wp_l (fun w1 g1 => ?_)
  have f1 : FrK k u w1 := by rw [g1]; exact FrK.rf.st (j := 0) (by omega)
  have s1 : CV w1 k (smp V 0) := by
    have s := VE.stC hM 0 0 (V 0 0 + 1) g1 (by rw [e0])
    exact CV.cg (V := up V 0 0 (V 0 0 + 1)) s rfl rfl (fun j s _ => smp_0)
  refine wp_L ?_
  refine wl2 (fun i v => FrK k u v ∧ CV v k (smp V i) ∧ (0 ≤ i ∧ i ≤ N 0 0) ∧ ∀ s, 0 ≤ s → s < N 0 0 → (s < i → v (k + 3) s = lat (smp V (N 0 0)) s (N 0 8) ∧ v (k + 4) s = lat (smp V (N 0 0)) s (N 0 9)) ∧ (i ≤ s → v (k + 3) s = lat V s (N 0 8) ∧ v (k + 4) s = lat V s (N 0 9))) (fun i _ => (N 0 0 - i).toNat) (fun go i v hI hg => ?_) FU _ _ ⟨f1, s1, by omega, fun s q0 q1 => ⟨fun h => by omega, fun _ => ?_⟩⟩ (FU_l (by omega))
  · obtain ⟨hf, hC, hi, hS⟩ := hI
    have nv : CN v n N := hn.fr hk hf
    have a0 := nv.2.1.1
    unfold s_X0_doTick_12
    refine wp_g (by omega) ?_
    refine wp_i (fun c => ?_) (fun c => ?_)
    · have hi0 : i = N 0 0 := by omega
      subst hi0
      have sv : CS N v k (smp V (N 0 0)) := ⟨hk, hC, fun s q0 q1 => (hS s q0 q1).1 q1⟩
      refine wl2 (fun i w => FrK k u w ∧ (0 ≤ i ∧ i ≤ N 0 0) ∧ ∃ W, CS N w k W ∧ WFc N W ∧ itj N (N 0 0 - i).toNat i W = tk N V) (fun i _ => (N 0 0 - i).toNat) (fun go i w hI hg => ?_) FU _ _ ⟨hf, ⟨by omega, by omega⟩, smp V (N 0 0), sv, wf_smp hVc ht (by omega), by rw [show N 0 0 - 0 = N 0 0 by omega]; rfl⟩ (FU_l (by omega))
      obtain ⟨hf, hi, W, hW, hWc, hit⟩ := hI
      have nw : CN w n N := hn.fr hk hf
      have a0 := nw.2.1.1
      unfold s_X0_doTick_40
      refine wp_g (by omega) ?_
      refine wp_i (fun c => ?_) (fun c => ?_)
      · rw [show (N 0 0 - i).toNat = 0 by omega] at hit
        refine wp_s ⟨hf, ?_⟩
        rw [← hit]
        exact hW
      · rw [show (N 0 0 - i).toNat = (N 0 0 - (i + 1)).toNat + 1 by omega] at hit
        have hit2 : itj N (N 0 0 - (i + 1)).toNat (i + 1) (jd N W i) = tk N V := hit
        have hJ := wf_jd hN2 hWc (s := i) (by omega)
        repeat (first | (with_reducible refine wp_L ?_) | (with_reducible refine wp_g ?_ ?_; · omega) | (with_reducible refine wp_f ?_ ?_; · omega) | (with_reducible refine wp_t ?_ ?_; · omega))
        refine wp_b (cjudge hN2 nw hWc hW (s := i) (by omega)) (fun r w2 h2 => ?_)
        obtain ⟨hf2, ⟨hr, h3⟩ | ⟨hr, h3, h4, h5, h6⟩⟩ := h2
        · have hr : r = 0 := hr
          subst hr
          repeat (first | (with_reducible refine wp_L ?_) | (with_reducible refine wp_g ?_ ?_; · omega) | (with_reducible refine wp_f ?_ ?_; · omega) | (with_reducible refine wp_t ?_ ?_; · omega))
          exact hg _ _ ⟨hf.tr hf2, ⟨by omega, by omega⟩, _, h3, hJ, hit2⟩ (by omega)
        · have hr : r = 1 := hr
          subst hr
          have wf2 := wf_ap hN2 hWc (s := i) (by omega) h5 h6
          have en : w2 k 1 = W 0 1 + 1 := h3.2.1.n
          have c1 := hWc.1.2.1
          repeat (first | (with_reducible refine wp_L ?_) | (with_reducible refine wp_g ?_ ?_; · omega) | (with_reducible refine wp_f ?_ ?_; · omega) | (with_reducible refine wp_t ?_ ?_; · omega))
          rw [en, show W 0 1 + 1 - 1 = W 0 1 by omega]
          refine wp_b (cvote hN2 (nw.fr hk hf2) wf2 h3 (p := W 0 1) ⟨c1.1, by show W 0 1 < W 0 1 + 1; omega⟩ (up_s _ 11 _ _)) (fun r3 w3 h7 => ?_)
          exact hg _ _ ⟨(hf.tr hf2).tr h7.1, ⟨by omega, by omega⟩, _, by rw [h4]; exact h7.2, hJ, hit2⟩ (by omega)
    · repeat (first | (with_reducible refine wp_L ?_) | (with_reducible refine wp_g ?_ ?_; · omega) | (with_reducible refine wp_f ?_ ?_; · omega) | (with_reducible refine wp_t ?_ ?_; · omega))
      refine wp_b (ctakeSample hN2 nv hVb ht hk hC (i := i) ⟨hi.1, by omega⟩) (fun r w h => ?_)
      obtain ⟨h1, h2, h3, h4, h5⟩ := h
      refine hg _ _ ⟨hf.tr h1, h2, by omega, fun s q0 q1 => ⟨fun h => ?_, fun h => ?_⟩⟩ (by omega)
      · by_cases hs : s = i
        · subst hs
          have l8 := lat_smp (V := V) (n := N 0 0) (s := s) (m := N 0 8) ⟨q0, q1⟩ (by omega) b0.1
          have l9 := lat_smp (V := V) (n := N 0 0) (s := s) (m := N 0 9) ⟨q0, q1⟩ (by omega) b0.1
          have o := (hS s q0 q1).2 (by omega)
          rw [l8, l9, ← o.1, ← o.2]
          exact ⟨h4, h5⟩
        · have o := (hS s q0 q1).1 (by omega)
          rw [← o.1, ← o.2]
          exact h3 s hs
      · have o := (hS s q0 q1).2 (by omega)
        rw [← o.1, ← o.2]
        exact h3 s (by omega)
  · rw [g1]
    have := hL s q0 q1
    rw [← this.1, ← this.2]
    exact ⟨up_k (by omega), up_k (by omega)⟩
end CV
