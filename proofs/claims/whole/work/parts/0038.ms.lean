/-! pure part, 8: the reference's tick -/
theorem VE.cg {a b : Int} {A V V' : uS} (h : VE a b A V) (e : ∀ j s, vd a b j s → V j s = V' j s) : VE a b A V' := fun j s hv => (h j s hv).trans (e j s hv)
theorem VE.extE {a b : Int} {A V : uS} (h : VE a b A V) (h13 : A 13 b = V 13 b) (h14 : A 14 b = V 14 b) : VE a (b + 1) A V := fun j s hv => by
  by_cases h1 : (j = 13 ∨ j = 14) ∧ s = b
  · obtain ⟨rfl | rfl, rfl⟩ := h1
    · exact h13
    · exact h14
  · exact h j s (by unfold vd at *; omega)
theorem VE.extP {a b : Int} {A V : uS} (h : VE a b A V) (hp : ∀ j, 8 ≤ j → j ≤ 12 → A j a = V j a) : VE (a + 1) b A V := fun j s hv => by
  by_cases h1 : (8 ≤ j ∧ j ≤ 12) ∧ s = a
  · obtain ⟨⟨h2, h3⟩, rfl⟩ := h1
    exact hp j h2 h3
  · exact h j s (by unfold vd at *; omega)
theorem VE.rd {a b : Int} {u V : uS} {c : Nat} (h : VE a b (fun j s => u c (ix j s)) V) {j : Nat} {s i : Int} (hv : vd a b j s) (hi : i = ix j s) : u c i = V j s := by
  subst hi; exact h j s hv
theorem VE.upM' {a b : Int} {u V : uS} {c : Nat} (h : VE a b (fun j s => u c (ix j s)) V) (ha : a ≤ 60) (hb : b ≤ 20) (j : Nat) (s i v : Int) (hv : vd 60 20 j s) (hi : i = ix j s) : VE a b (fun j s => (up u c i v) c (ix j s)) (up V j s v) := h.upM ha hb hv hi
theorem MS.cg {u V V' : uS} (h : MS u V) (e1 : V' 0 1 = V 0 1) (e2 : V' 0 2 = V 0 2) (e : ∀ j s, vd (V 0 1) (V 0 2) j s → V j s = V' j s) : MS u V' := by
  unfold MS
  rw [e1, e2]
  exact VE.cg h e
theorem rto_up {N V : uS} {j : Nat} {i v s : Int} (h0 : j ≠ 0) (h2 : j ≠ 2) : rto N (up V j i v) s = rto N V s := by
  have e2 : up V j i v 2 = V 2 := up_c (Ne.symm h2)
  have e0 : up V j i v 0 = V 0 := up_c (Ne.symm h0)
  unfold rto lat smA
  rw [e2, e0]
section MT
variable {u N V : uS}
theorem fri_fr {e i : Int} {j : Nat} {s : Int} (h : j = 11 → s < i) : fri V e i j s = fr V e j s := by
  unfold fri fr
  by_cases hj : j = 11
  · have hs := h hj
    subst hj
    by_cases h9 : V 11 s = e
    · rw [if_pos ⟨rfl, hs, h9⟩, if_pos ⟨rfl, h9⟩]
    · rw [if_neg (fun h => h9 h.2.2), if_neg (fun h => h9 h.2)]
  · rw [if_neg (fun h => hj h.1), if_neg (fun h => hj h.1)]
theorem fri_0 {e : Int} {j : Nat} {s : Int} (h : j = 11 → 0 ≤ s) : V j s = fri V e 0 j s := by
  unfold fri
  rw [if_neg (fun h2 => by have := h h2.1; omega)]
theorem fri_s {e i : Int} {j : Nat} {s : Int} (h : V 11 i = e) : up (fri V e i) 11 i (-1) j s = fri V e (i + 1) j s := by
  unfold up fri
  by_cases hj : j = 11
  · subst hj
    by_cases hs : s = i
    · subst hs
      rw [if_pos ⟨rfl, rfl⟩, if_pos ⟨rfl, by omega, h⟩]
    · rw [if_neg (fun h => hs h.2)]
      by_cases h9 : s < i ∧ V 11 s = e
      · rw [if_pos ⟨rfl, h9⟩, if_pos ⟨rfl, by omega, h9.2⟩]
      · rw [if_neg (fun h => h9 h.2), if_neg (fun h => h9 ⟨by omega, h.2.2⟩)]
  · rw [if_neg (fun h => hj h.1), if_neg (fun h => hj h.1), if_neg (fun h => hj h.1)]
theorem fri_n {e i : Int} {j : Nat} {s : Int} (h : V 11 i ≠ e) : fri V e i j s = fri V e (i + 1) j s := by
  unfold fri
  by_cases hj : j = 11
  · subst hj
    by_cases hs : s = i
    · subst hs
      rw [if_neg (by omega), if_neg (by omega)]
    · by_cases h9 : s < i ∧ V 11 s = e
      · rw [if_pos ⟨rfl, h9⟩, if_pos ⟨rfl, by omega, h9.2⟩]
      · rw [if_neg (fun h => h9 h.2), if_neg (fun h => h9 ⟨by omega, h.2.2⟩)]
  · rw [if_neg (fun h => hj h.1), if_neg (fun h => hj h.1)]
theorem vd11 {a b s : Int} (h : vd a b 11 s) : 0 ≤ s ∧ s < a := by unfold vd at h; omega
theorem wfrees {e : Int} (hV : WFb N V) (hm : MS u V) (he : InR e) : wp (f_X10_frees e u) (fun q => (∀ c, c ≠ 41 → q.2 c = u c) ∧ MS q.2 (fr V e)) := by
  have hV2 := hV
  obtain ⟨b0, b1, b2, bS, bI, bP, bE⟩ := hV
  unfold f_X10_frees
  refine wl2 (fun i v => (∀ c, c ≠ 41 → v c = u c) ∧ MS v (fri V e i) ∧ 0 ≤ i ∧ i ≤ V 0 1) (fun i _ => (V 0 1 - i).toNat) (fun go i v hI hg => ?_) FU _ _ ⟨fun _ _ => rfl, hm.cg rfl rfl (fun j s hv => fri_0 (fun hj => by subst hj; exact (vd11 hv).1)), by omega, by omega⟩ (FU_l (by omega))
  obtain ⟨hf, hM, h0, h1⟩ := hI
  have e1 : v 41 1 = V 0 1 := hM.n
  unfold s_X10_frees_2
  refine wp_g (by omega) ?_
  refine wp_i (fun c => ?_) (fun c => ?_)
  · refine wp_s ⟨hf, hM.cg rfl rfl (fun j s hv => fri_fr (fun hj => ?_))⟩
    subst hj
    have := (vd11 hv).2
    have e9 : fri V e i 0 1 = V 0 1 := rfl
    omega
  · have p11 : v 41 (827 + 5 * i + 3) = V 11 i := (hM.pe h0 (by show i < V 0 1; omega)).trans (if_neg (by omega))
    have bp := bP i h0 (by omega)
    repeat (first | (with_reducible refine wp_L ?_) | (with_reducible refine wp_g ?_ ?_; · omega) | (with_reducible refine wp_f ?_ ?_; · omega) | (with_reducible refine wp_t ?_ ?_; · omega) | (with_reducible refine wp_e (eof _ _ _) ?_) | (with_reducible refine wp_e (eat _ _ _) ?_) | (with_reducible refine wp_e (enodes _) ?_))
    refine wp_i (fun c => ?_) (fun c => ?_)
    · repeat (first | (with_reducible refine wp_L ?_) | (with_reducible refine wp_g ?_ ?_; · omega) | (with_reducible refine wp_f ?_ ?_; · omega) | (with_reducible refine wp_t ?_ ?_; · omega) | (with_reducible refine wp_e (eof _ _ _) ?_) | (with_reducible refine wp_e (eat _ _ _) ?_) | (with_reducible refine wp_e (enodes _) ?_))
      refine hg _ _ ⟨fun c hc => by rw [up_c hc]; exact hf c hc, ?_, by omega, by omega⟩ (by omega)
      exact MS.cg (V := up (fri V e i) 11 i (-1)) (VE.upM hM b1.2 b2.2 (j := 11) (s := i) (by unfold vd; omega) rfl) rfl rfl (fun j s hv => fri_s (by omega))
    · exact hg _ _ ⟨hf, hM.cg rfl rfl (fun j s hv => fri_n (by omega)), by omega, by omega⟩ (by omega)
/-- the marks of a group are bounds' matter too -/
theorem wfb_mkg {p : Int} {i : Nat} (hV : WFb N V) : WFb N (mkg N V p i) := by
  obtain ⟨b0, b1, b2, bS, bI, bP, bE⟩ := hV
  refine ⟨b0, b1, b2, bS, bI, fun q h0 h1 => ?_, bE⟩
  have b := bP q h0 h1
  refine ⟨b.1, b.2.1, b.2.2.1, ?_, b.2.2.2.2⟩
  show -1 ≤ cif (gm N V p i q) (V 0 2) (V 11 q) ∧ cif (gm N V p i q) (V 0 2) (V 11 q) ≤ 20
  by_cases hq : gm N V p i q
  · rw [cif_t hq]; omega
  · rw [cif_f hq]; exact b.2.2.2.1
theorem gsz_0 {p : Int} (hp : 0 ≤ p ∧ p < V 0 1) : gsz N V p 0 = 1 := by
  unfold gsz
  rw [sg_one (f := fun _ => 0) (g := fun q => cif (gm N V p 0 q) 1 0) (i := p) hp.1 (by omega) (fun q _ _ hq => cif_f hq), sg_z (fun _ _ _ => rfl), cif_t (show gm N V p 0 p from rfl)]
  rfl
theorem gm_s0 {p : Int} {i : Nat} (h : ¬ ((i : Int) ≠ p ∧ V 11 (i : Int) = -1 ∧ V 12 (i : Int) = 0 ∧ ∀ r, gm N V p i r → fit N V r (i : Int))) : gm N V p (i + 1) = gm N V p i := by
  funext q
  refine propext ⟨fun hq => ?_, fun hq => Or.inl hq⟩
  rcases hq with hq | ⟨h1, h2, h3, h4, h5⟩
  · exact hq
  · subst h1; exact absurd ⟨h2, h3, h4, h5⟩ h
theorem gm_s1 {p : Int} {i : Nat} (h : (i : Int) ≠ p ∧ V 11 (i : Int) = -1 ∧ V 12 (i : Int) = 0 ∧ ∀ r, gm N V p i r → fit N V r (i : Int)) (q : Int) : gm N V p (i + 1) q ↔ (q = (i : Int) ∨ gm N V p i q) := by
  refine ⟨fun hq => ?_, fun hq => ?_⟩
  · rcases hq with hq | ⟨h1, -⟩
    · exact Or.inr hq
    · exact Or.inl h1
  · rcases hq with hq | hq
    · subst hq; exact Or.inr ⟨rfl, h⟩
    · exact Or.inl hq
theorem gm_no {p : Int} {i : Nat} (h : (i : Int) ≠ p) : ¬ gm N V p i (i : Int) := fun hq => by
  rcases gm_in hq with h1 | h1
  · exact h h1
  · omega
theorem gsz_s1 {p : Int} {i : Nat} (hi : (i : Int) < V 0 1) (h : (i : Int) ≠ p ∧ V 11 (i : Int) = -1 ∧ V 12 (i : Int) = 0 ∧ ∀ r, gm N V p i r → fit N V r (i : Int)) : gsz N V p (i + 1) = gsz N V p i + 1 := by
  unfold gsz
  rw [sg_one (f := fun q => cif (gm N V p i q) 1 0) (g := fun q => cif (gm N V p (i + 1) q) 1 0) (i := (i : Int)) (by omega) (by omega) (fun q _ _ hq => cif_c ((gm_s1 h q).trans ⟨fun h9 => h9.resolve_left hq, Or.inr⟩)), cif_t ((gm_s1 h i).mpr (Or.inl rfl)), cif_f (gm_no h.1)]
  omega
theorem gsz_b {p : Int} {i : Nat} (h : 0 ≤ V 0 1) : 0 ≤ gsz N V p i ∧ gsz N V p i ≤ V 0 1 := by
  have h2 := @sg_le (fun q => cif (gm N V p i q) 1 0) 1 (V 0 1).toNat (fun q _ _ => by
    show 0 ≤ cif (gm N V p i q) (1 : Int) 0 ∧ cif (gm N V p i q) (1 : Int) 0 ≤ 1
    by_cases hq : gm N V p i q
    · rw [cif_t hq]; omega
    · rw [cif_f hq]; omega)
  unfold gsz
  omega
theorem wvotes {p : Int} (hN : NWF N) (hn : MN u N) (hV : WFc N V) (hm : MS u V) (hp : 0 ≤ p ∧ p < V 0 1) (h11 : V 11 p = -1) : wp (f_X10_votes p u) (fun q => (∀ c, c ≠ 41 → q.2 c = u c) ∧ MS q.2 (vt N V p)) := by
  have hVb := hV.1
  have hxP := hV.2.2.1
  have n12 := hN.2.2.2.2.2.2.2.2.2.2.2.2.1
  obtain ⟨hV, -⟩ := hV
  obtain ⟨b0, b1, b2, bS, bI, bP, bE⟩ := hV
  have e2 := hm.e
  unfold f_X10_votes
  refine wp_L ?_
  refine wp_L ?_
  refine wl2 (fun i v => v = u ∧ 0 ≤ i ∧ i ≤ V 0 2 ∧ fe N V p (V 0 2 - i).toNat i = fe N V p (V 0 2).toNat 0) (fun i _ => (V 0 2 - i).toNat) (fun go i v hI hg => ?_) FU _ _ ⟨rfl, by omega, by omega, by rw [show V 0 2 - 0 = V 0 2 by omega]⟩ (FU_l (by omega))
  obtain ⟨rfl, h0, h1, hfe⟩ := hI
  unfold s_X10_votes_2
  refine wp_g (by omega) ?_
  refine wp_i (fun c => ?_) (fun c => ?_)
  · rw [show V 0 2 - i = 0 by omega] at hfe
    have hfe2 : fe N V p (V 0 2).toNat 0 = -1 := hfe.symm
    have evt : vt N V p = if N 0 12 ≤ gsz N V p (V 0 1).toNat ∧ V 0 2 < 20 then dcl N V p else V := by
      unfold vt
      rw [if_neg (fun h => h hfe2)]
    repeat (first | (with_reducible refine wp_L ?_) | (with_reducible refine wp_g ?_ ?_; · omega) | (with_reducible refine wp_f ?_ ?_; · omega) | (with_reducible refine wp_t ?_ ?_; · omega) | (with_reducible refine wp_e (eof _ _ _) ?_) | (with_reducible refine wp_e (eat _ _ _) ?_) | (with_reducible refine wp_e (enodes _) ?_))
    have hm0 : MS (up v 41 (827 + 5 * p + 3) (v 41 2)) (mkg N V p 0) := by
      refine MS.cg (V := up V 11 p (V 0 2)) (by rw [e2]; exact VE.upM hm b1.2 b2.2 (j := 11) (s := p) (by unfold vd; omega) rfl) rfl rfl (fun j s hv => ?_)
      unfold up mkg
      by_cases hj : j = 11
      · subst hj
        rw [if_pos rfl]
        by_cases hs : s = p
        · rw [if_pos ⟨rfl, hs⟩, cif_t (show gm N V p 0 s from hs)]
        · rw [if_neg (fun h => hs h.2), cif_f (show ¬ gm N V p 0 s from hs)]
      · rw [if_neg (fun h => hj h.1), if_neg hj]
    refine wl3 (fun f i w => (∀ c, c ≠ 41 → w c = v c) ∧ MS w (mkg N V p i.toNat) ∧ 0 ≤ i ∧ i ≤ V 0 1 ∧ f = gsz N V p i.toNat) (fun _ i _ => (V 0 1 - i).toNat) (fun go f i w hI hg => ?_) FU _ _ _ ⟨fun c hc => up_c hc, hm0, by omega, by omega, (gsz_0 hp).symm⟩ (FU_l (by omega))
    obtain ⟨hf, hM, h0, h1, rfl⟩ := hI
    have e1 : w 41 1 = V 0 1 := hM.n
    have e22 : v 41 2 = V 0 2 := e2
    have hnw : MN w N := hn.row (fun c h3 h4 => hf c (by omega))
    have gb := gsz_b (N := N) (V := V) (p := p) (i := i.toNat) b1.1
    unfold s_X10_votes_70
    refine wp_g (by omega) ?_
    refine wp_i (fun c => ?_) (fun c => ?_)
    · have hi : i.toNat = (V 0 1).toNat := by omega
      rw [hi] at hM gb ⊢
      have e12 := hnw.1 12 (by decide) (by decide)
      have free : wp (f_X10_frees (v 41 2) w) (fun q => (∀ c, c ≠ 41 → q.2 c = w c) ∧ MS q.2 V) := by
        refine wp_w (wfrees (wfb_mkg hVb) hM (by omega)) (fun q hq => ⟨hq.1, hq.2.cg rfl rfl (fun j s hv => ?_)⟩)
        rw [e22]
        unfold fr
        by_cases hj : j = 11
        · subst hj
          have hs : 0 ≤ s ∧ s < V 0 1 := by
            have : vd (V 0 1) (V 0 2) 11 s := hv
            unfold vd at this; omega
          by_cases hq : gm N V p (V 0 1).toNat s
          · refine (if_pos ⟨rfl, (cif_t hq : mkg N V p (V 0 1).toNat 11 s = V 0 2)⟩).trans ?_
            rcases gm_in hq with h9 | h9
            · subst h9; exact h11.symm
            · exact h9.2.2.2.1.symm
          · have e9 : mkg N V p (V 0 1).toNat 11 s = V 11 s := cif_f hq
            refine (if_neg (fun h => ?_)).trans e9
            have := (hxP s hs.1 hs.2).1
            omega
        · rw [if_neg (fun h => hj h.1)]
          exact if_neg hj
      repeat (first | (with_reducible refine wp_L ?_) | (with_reducible refine wp_g ?_ ?_; · omega) | (with_reducible refine wp_f ?_ ?_; · omega) | (with_reducible refine wp_t ?_ ?_; · omega) | (with_reducible refine wp_e (eof _ _ _) ?_) | (with_reducible refine wp_e (eat _ _ _) ?_) | (with_reducible refine wp_e (enodes _) ?_))
      refine wp_i (fun c => ?_) (fun c => ?_)
      · refine wp_b free (fun r u2 h => wp_s ?_)
        rw [evt, if_neg (fun h => by omega)]
        exact ⟨fun c hc => (h.1 c hc).trans (hf c hc), h.2⟩
      · repeat (first | (with_reducible refine wp_L ?_) | (with_reducible refine wp_g ?_ ?_; · omega) | (with_reducible refine wp_f ?_ ?_; · omega) | (with_reducible refine wp_t ?_ ?_; · omega) | (with_reducible refine wp_e (eof _ _ _) ?_) | (with_reducible refine wp_e (eat _ _ _) ?_) | (with_reducible refine wp_e (enodes _) ?_))
        refine wp_i (fun c => ?_) (fun c => ?_)
        · refine wp_b free (fun r u2 h => wp_s ?_)
          rw [evt, if_neg (fun h => by omega)]
          exact ⟨fun c hc => (h.1 c hc).trans (hf c hc), h.2⟩
        · repeat (first | (with_reducible refine wp_L ?_) | (with_reducible refine wp_g ?_ ?_; · omega) | (with_reducible refine wp_f ?_ ?_; · omega) | (with_reducible refine wp_t ?_ ?_; · omega) | (with_reducible refine wp_e (eof _ _ _) ?_) | (with_reducible refine wp_e (eat _ _ _) ?_) | (with_reducible refine wp_e (enodes _) ?_))
          refine wp_s ?_
          rw [evt, if_pos ⟨by omega, by omega⟩]
          refine ⟨fun c hc => (up_c hc).trans ((up_c hc).trans ((up_c hc).trans (hf c hc))), ?_⟩
          rw [e22]
          have e0 : w 41 0 = V 0 0 := hM.t
          have s1 := VE.upM' hM b1.2 b2.2 14 (V 0 2) (1127 + 2 * V 0 2) 0 (by unfold vd; omega) rfl
          have r1 : up w 41 (1127 + 2 * V 0 2) 0 41 0 = V 0 0 := (up_j (by omega)).trans e0
          have s2 := VE.upM' s1 b1.2 b2.2 13 (V 0 2) (1127 + 2 * V 0 2 + 1) (V 0 0) (by unfold vd; omega) rfl
          have r2 : up (up w 41 (1127 + 2 * V 0 2) 0) 41 (1127 + 2 * V 0 2 + 1) (V 0 0) 41 2 = V 0 2 := (up_j (by omega)).trans ((up_j (by omega)).trans hM.e)
          have s3 := VE.upM' s2 b1.2 b2.2 0 2 2 (V 0 2 + 1) (by unfold vd; omega) rfl
          rw [r1, r2]
          refine VE.extE s3 ?_ ?_
          · show up (up (up w 41 (1127 + 2 * V 0 2) 0) 41 (1127 + 2 * V 0 2 + 1) (V 0 0)) 41 2 (V 0 2 + 1) 41 (1127 + 2 * V 0 2 + 1) = _
            rw [up_j (by omega), up_s]
            exact (up_s _ 13 _ _).symm
          · show up (up (up w 41 (1127 + 2 * V 0 2) 0) 41 (1127 + 2 * V 0 2 + 1) (V 0 0)) 41 2 (V 0 2 + 1) 41 (1127 + 2 * V 0 2) = _
            rw [up_j (by omega), up_j (by omega), up_s]
            exact (up_s _ 14 _ _).symm
    · have p11 : w 41 (827 + 5 * i + 3) = cif (gm N V p i.toNat i) (V 0 2) (V 11 i) := hM.pe h0 (by show i < V 0 1; omega)
      have p12 : w 41 (827 + 5 * i + 4) = V 12 i := hM.pr h0 (by show i < V 0 1; omega)
      have bp := bP i h0 (by omega)
      have en : ((i.toNat : Nat) : Int) = i := by omega
      have es : (i + 1).toNat = i.toNat + 1 := by omega
      have no : ¬ (i ≠ p ∧ V 11 i = -1 ∧ V 12 i = 0 ∧ ∀ r, gm N V p i.toNat r → fit N V r i) → wp (go (gsz N V p i.toNat) (i + 1) w) (fun q => (∀ c, c ≠ 41 → q.2 c = v c) ∧ MS q.2 (vt N V p)) := by
        intro h
        have e := gm_s0 (N := N) (V := V) (p := p) (i := i.toNat) (by rw [en]; exact h)
        refine hg _ _ _ ⟨hf, ?_, by omega, by omega, ?_⟩ (by omega)
        · unfold mkg at hM ⊢; rw [es, e]; exact hM
        · unfold gsz; rw [es, e]
      have ib : InR (cif (gm N V p i.toNat i) (V 0 2) (V 11 i)) := by
        by_cases hq : gm N V p i.toNat i
        · rw [cif_t hq]; omega
        · rw [cif_f hq]; omega
      repeat (first | (with_reducible refine wp_L ?_) | (with_reducible refine wp_g ?_ ?_; · omega) | (with_reducible refine wp_f ?_ ?_; · omega) | (with_reducible refine wp_t ?_ ?_; · omega) | (with_reducible refine wp_e (eof _ _ _) ?_) | (with_reducible refine wp_e (eat _ _ _) ?_) | (with_reducible refine wp_e (enodes _) ?_))
      refine wp_i (fun c => ?_) (fun c => ?_)
      · have h9 : ¬ gm N V p i.toNat i ∧ V 11 i = -1 := by
          by_cases hq : gm N V p i.toNat i
          · rw [cif_t hq] at p11; omega
          · rw [cif_f hq] at p11; exact ⟨hq, by omega⟩
        repeat (first | (with_reducible refine wp_L ?_) | (with_reducible refine wp_g ?_ ?_; · omega) | (with_reducible refine wp_f ?_ ?_; · omega) | (with_reducible refine wp_t ?_ ?_; · omega) | (with_reducible refine wp_e (eof _ _ _) ?_) | (with_reducible refine wp_e (eat _ _ _) ?_) | (with_reducible refine wp_e (enodes _) ?_))
        refine wp_i (fun c => ?_) (fun c => ?_)
        · refine wp_e (efitsAll hN hnw (wfb_mkg hVb) hM (p := i) (e := v 41 2) ⟨h0, by show i < V 0 1; omega⟩ (by omega)) ?_
          have hfa : fitA N (mkg N V p i.toNat) (v 41 2) i ↔ ∀ r, gm N V p i.toNat r → fit N V r i := by
            refine ⟨fun h r hr => ?_, fun h r h2 h3 h4 h5 => ?_⟩
            · have hr2 : 0 ≤ r ∧ r < V 0 1 := by rcases gm_in hr with h7 | h7 <;> omega
              refine h r hr2.1 hr2.2 ?_ (fun h8 => h9.1 (h8 ▸ hr))
              show cif (gm N V p i.toNat r) (V 0 2) (V 11 r) = v 41 2
              rw [cif_t hr, e22]
            · have h6 : cif (gm N V p i.toNat r) (V 0 2) (V 11 r) = v 41 2 := h4
              by_cases hr : gm N V p i.toNat r
              · exact h r hr
              · rw [cif_f hr, e22] at h6
                have := (hxP r h2 h3).1
                omega
          by_cases hall : ∀ r, gm N V p i.toNat r → fit N V r i
          · rw [cif_t (hfa.mpr hall)]
            have hgm : i ≠ p ∧ V 11 i = -1 ∧ V 12 i = 0 ∧ ∀ r, gm N V p i.toNat r → fit N V r i := ⟨fun h => h9.1 (by rw [h]; exact gm_p), h9.2, by omega, hall⟩
            have hgm2 := hgm
            rw [← en] at hgm2
            repeat (first | (with_reducible refine wp_L ?_) | (with_reducible refine wp_g ?_ ?_; · omega) | (with_reducible refine wp_f ?_ ?_; · omega) | (with_reducible refine wp_t ?_ ?_; · omega) | (with_reducible refine wp_e (eof _ _ _) ?_) | (with_reducible refine wp_e (eat _ _ _) ?_) | (with_reducible refine wp_e (enodes _) ?_))
            refine hg _ _ _ ⟨fun c hc => by rw [up_c hc]; exact hf c hc, ?_, by omega, by omega, ?_⟩ (by omega)
            · refine MS.cg (V := up (mkg N V p i.toNat) 11 i (V 0 2)) (by rw [e22]; exact VE.upM hM b1.2 b2.2 (j := 11) (s := i) (by unfold vd; omega) rfl) rfl rfl (fun j s hv => ?_)
              unfold up mkg
              by_cases hj : j = 11
              · subst hj
                rw [if_pos rfl, if_pos rfl, es]
                by_cases hs : s = i
                · rw [if_pos ⟨rfl, hs⟩, cif_t ((gm_s1 hgm2 s).mpr (Or.inl (by omega)))]
                · rw [if_neg (fun h => hs h.2)]
                  exact cif_c ((gm_s1 hgm2 s).trans ⟨fun h => h.resolve_left (by omega), Or.inr⟩).symm
              · rw [if_neg (fun h => hj h.1), if_neg hj, if_neg hj]
            · rw [es, gsz_s1 (by omega) hgm2]
          · rw [cif_f (fun h => hall (hfa.mp h))]
            repeat (first | (with_reducible refine wp_L ?_) | (with_reducible refine wp_g ?_ ?_; · omega) | (with_reducible refine wp_f ?_ ?_; · omega) | (with_reducible refine wp_t ?_ ?_; · omega) | (with_reducible refine wp_e (eof _ _ _) ?_) | (with_reducible refine wp_e (eat _ _ _) ?_) | (with_reducible refine wp_e (enodes _) ?_))
            exact no (fun h => hall h.2.2.2)
        · exact no (fun h => by omega)
      · refine no (fun h => ?_)
        by_cases hq : gm N V p i.toNat i
        · rcases gm_in hq with h7 | h7 <;> omega
        · rw [cif_f hq] at p11; omega
  · refine wp_e (eisRetracted hVb hm ⟨h0, by omega⟩) ?_
    have be := bE i h0 (by omega)
    rw [show (V 0 2 - i).toNat = (V 0 2 - (i + 1)).toNat + 1 by omega] at hfe
    have hfe2 : cif (V 14 i = 0 ∧ fitA N V i p) i (fe N V p (V 0 2 - (i + 1)).toNat (i + 1)) = fe N V p (V 0 2).toNat 0 := hfe
    by_cases hr : V 14 i = 1
    · rw [if_pos hr]
      repeat (first | (with_reducible refine wp_L ?_) | (with_reducible refine wp_g ?_ ?_; · omega) | (with_reducible refine wp_f ?_ ?_; · omega) | (with_reducible refine wp_t ?_ ?_; · omega) | (with_reducible refine wp_e (eof _ _ _) ?_) | (with_reducible refine wp_e (eat _ _ _) ?_) | (with_reducible refine wp_e (enodes _) ?_))
      rw [cif_f (fun h => by omega)] at hfe2
      exact hg _ _ ⟨rfl, by omega, by omega, hfe2⟩ (by omega)
    · rw [if_neg hr]
      repeat (first | (with_reducible refine wp_L ?_) | (with_reducible refine wp_g ?_ ?_; · omega) | (with_reducible refine wp_f ?_ ?_; · omega) | (with_reducible refine wp_t ?_ ?_; · omega) | (with_reducible refine wp_e (eof _ _ _) ?_) | (with_reducible refine wp_e (eat _ _ _) ?_) | (with_reducible refine wp_e (enodes _) ?_))
      refine wp_e (efitsAll hN hn hVb hm hp (by omega)) ?_
      by_cases hfa : fitA N V i p
      · rw [cif_t hfa]
        rw [cif_t ⟨by omega, hfa⟩] at hfe2
        repeat (first | (with_reducible refine wp_L ?_) | (with_reducible refine wp_g ?_ ?_; · omega) | (with_reducible refine wp_f ?_ ?_; · omega) | (with_reducible refine wp_t ?_ ?_; · omega) | (with_reducible refine wp_e (eof _ _ _) ?_) | (with_reducible refine wp_e (eat _ _ _) ?_) | (with_reducible refine wp_e (enodes _) ?_))
        refine wp_s ?_
        have evt : vt N V p = up V 11 p i := by
          unfold vt
          rw [← hfe2, if_pos (by omega)]
        rw [evt]
        exact ⟨fun c hc => up_c hc, VE.upM hm b1.2 b2.2 (j := 11) (s := p) (by unfold vd; omega) rfl⟩
      · rw [cif_f hfa]
        rw [cif_f (fun h => hfa h.2)] at hfe2
        repeat (first | (with_reducible refine wp_L ?_) | (with_reducible refine wp_g ?_ ?_; · omega) | (with_reducible refine wp_f ?_ ?_; · omega) | (with_reducible refine wp_t ?_ ?_; · omega) | (with_reducible refine wp_e (eof _ _ _) ?_) | (with_reducible refine wp_e (eat _ _ _) ?_) | (with_reducible refine wp_e (enodes _) ?_))
        exact hg _ _ ⟨rfl, by omega, by omega, hfe2⟩ (by omega)
end MT
