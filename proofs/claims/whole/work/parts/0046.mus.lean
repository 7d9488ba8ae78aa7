/-! pure part, 16: muting and retracting keep a situation sound; both sides do them -/
theorem mt1_11 {V : uS} {s p : Int} : mt1 V s 11 p = if 0 ≤ p ∧ p < V 0 1 ∧ V 8 p = s then -1 else V 11 p := by rw [← mt1i_e, mt1i_11]
theorem mt1_12 {V : uS} {s p : Int} : mt1 V s 12 p = if 0 ≤ p ∧ p < V 0 1 ∧ V 8 p = s then 1 else V 12 p := by rw [← mt1i_e, mt1i_12]
theorem mt1_r {V : uS} {s i : Int} {j : Nat} (h1 : j ≠ 11) (h2 : j ≠ 12) : mt1 V s j i = up (up V 6 s 1) 5 s 0 j i := by rw [← mt1i_e, mt1i_r h1 h2]
theorem mt_r {N V : uS} {s i : Int} {j : Nat} (h1 : j ≠ 11) (h2 : j ≠ 12) (h3 : j ≠ 14) : mt N V s j i = up (up V 6 s 1) 5 s 0 j i := by
  unfold mt
  rw [mt2_r h1 h3, mt1_r h1 h2]
theorem mt_q {N V : uS} {s i : Int} {j : Nat} (h1 : j ≠ 11) (h2 : j ≠ 12) (h3 : j ≠ 14) (h5 : j ≠ 5) (h6 : j ≠ 6) : mt N V s j i = V j i := by
  rw [mt_r h1 h2 h3, up_k h5, up_k h6]
theorem wf_mt {N V : uS} {s : Int} (hN : NWF N) (hV : WFc N V) (hs : 0 ≤ s ∧ s < 8) : WFc N (mt N V s) := by
  have n12 := hN.2.2.2.2.2.2.2.2.2.2.2.2.1
  obtain ⟨⟨b0, b1, b2, bS, bI, bP, bE⟩, xS, xP, xE⟩ := hV
  have q0 : ∀ i, mt N V s 0 i = V 0 i := fun i => mt_q (by decide) (by decide) (by decide) (by decide) (by decide)
  have q1 : ∀ i, mt N V s 1 i = V 1 i := fun i => mt_q (by decide) (by decide) (by decide) (by decide) (by decide)
  have q2 : ∀ i, mt N V s 2 i = V 2 i := fun i => mt_q (by decide) (by decide) (by decide) (by decide) (by decide)
  have q7 : ∀ i, mt N V s 7 i = V 7 i := fun i => mt_q (by decide) (by decide) (by decide) (by decide) (by decide)
  have q8 : ∀ i, mt N V s 8 i = V 8 i := fun i => mt_q (by decide) (by decide) (by decide) (by decide) (by decide)
  have q9 : ∀ i, mt N V s 9 i = V 9 i := fun i => mt_q (by decide) (by decide) (by decide) (by decide) (by decide)
  have q10 : ∀ i, mt N V s 10 i = V 10 i := fun i => mt_q (by decide) (by decide) (by decide) (by decide) (by decide)
  have q13 : ∀ i, mt N V s 13 i = V 13 i := fun i => mt_q (by decide) (by decide) (by decide) (by decide) (by decide)
  have q5 : ∀ i, mt N V s 5 i = if i = s then 0 else V 5 i := fun i => by
    rw [mt_r (by decide) (by decide) (by decide)]
    by_cases h : i = s
    · subst h; rw [up_s, if_pos rfl]
    · rw [up_j h, up_k (by decide), if_neg h]
  have q6 : ∀ i, mt N V s 6 i = if i = s then 1 else V 6 i := fun i => by
    rw [mt_r (by decide) (by decide) (by decide), up_k (by decide)]
    by_cases h : i = s
    · subst h; rw [up_s, if_pos rfl]
    · rw [up_j h, if_neg h]
  have q12 : ∀ p, mt N V s 12 p = mt1 V s 12 p := fun p => mt2_r (by decide) (by decide)
  have w14 : ∀ e, mt1 V s 14 e = V 14 e := fun e => by rw [mt1_r (by decide) (by decide), up_k (by decide), up_k (by decide)]
  have q11 : ∀ p, mt N V s 11 p = if 0 ≤ mt1 V s 11 p ∧ mt1 V s 11 p < V 0 2 ∧ V 14 (mt1 V s 11 p) = 0 ∧ pk (mt1 V s) (mt1 V s 11 p) < N 0 12 then -1 else mt1 V s 11 p := fun p => by
    unfold mt
    rw [mt2_11, w14]
  have q14 : ∀ e, mt N V s 14 e = if 0 ≤ e ∧ e < V 0 2 ∧ V 14 e = 0 ∧ pk (mt1 V s) e < N 0 12 then 1 else V 14 e := fun e => by
    unfold mt
    rw [mt2_14i, w14]
  have w11 : ∀ p, 0 ≤ p → p < V 0 1 → (mt1 V s 11 p = -1 ∨ (mt1 V s 11 p = V 11 p ∧ V 8 p ≠ s)) := fun p p0 p1 => by
    rw [mt1_11]
    by_cases h : V 8 p = s
    · left; rw [if_pos ⟨p0, p1, h⟩]
    · right; rw [if_neg (fun q => h q.2.2)]; exact ⟨rfl, h⟩
  have e11 : ∀ p, 0 ≤ p → p < V 0 1 → mt N V s 11 p = -1 ∨ (mt N V s 11 p = V 11 p ∧ mt1 V s 11 p = V 11 p ∧ V 8 p ≠ s ∧ ¬ (0 ≤ V 11 p ∧ V 11 p < V 0 2 ∧ V 14 (V 11 p) = 0 ∧ pk (mt1 V s) (V 11 p) < N 0 12)) := fun p p0 p1 => by
    rw [q11]
    rcases w11 p p0 p1 with h | ⟨h, h8⟩
    · rw [h, if_neg (by omega)]; exact Or.inl rfl
    · rw [h]
      by_cases hc : 0 ≤ V 11 p ∧ V 11 p < V 0 2 ∧ V 14 (V 11 p) = 0 ∧ pk (mt1 V s) (V 11 p) < N 0 12
      · rw [if_pos hc]; exact Or.inl rfl
      · rw [if_neg hc]; exact Or.inr ⟨rfl, rfl, h8, hc⟩
  refine ⟨⟨by rw [q0]; exact b0, by rw [q0]; exact b1, by rw [q0]; exact b2, fun q h0 h1 => ?_, fun i h0 h1 => by rw [q2]; exact bI i h0 h1, fun p h0 h1 => ?_, fun e h0 h1 => ?_⟩, fun q h0 h1 => ?_, fun p h0 h1 => ?_, fun e h0 h1 h2 => ?_⟩
  · have b := bS q h0 h1
    rw [q1, q5, q6]
    exact ⟨b.1, by split <;> omega, by split <;> omega⟩
  · rw [q0] at h1
    have b := bP p h0 h1
    rw [q8, q9, q10, q12, mt1_12]
    refine ⟨b.1, b.2.1, b.2.2.1, ?_, by split <;> omega⟩
    rcases e11 p h0 h1 with h | h
    · rw [h]; omega
    · rw [h.1]; exact b.2.2.2.1
  · rw [q0] at h1
    have b := bE e h0 h1
    rw [q13, q14]
    exact ⟨by split <;> omega, b.2⟩
  · have x := xS q h0 h1
    rw [q5, q6, q7, q0]
    by_cases h : q = s
    · rw [if_pos h, if_pos h]; exact ⟨fun _ => rfl, fun h => by omega⟩
    · rw [if_neg h, if_neg h]; exact x
  · rw [q0] at h1
    have x := xP p h0 h1
    rw [q0, q12, mt1_12, q14]
    rcases e11 p h0 h1 with h | ⟨h, h3, h4, h5⟩
    · rw [h]; exact ⟨by omega, fun _ => rfl, fun h => by omega⟩
    · rw [h, if_neg (fun q => h4 q.2.2)]
      refine ⟨x.1, x.2.1, fun h6 => ?_⟩
      rw [if_neg h5]; exact x.2.2 h6
  · rw [q0] at h1
    rw [q14] at h2
    have hc : ¬ (0 ≤ e ∧ e < V 0 2 ∧ V 14 e = 0 ∧ pk (mt1 V s) e < N 0 12) := fun h => by rw [if_pos h] at h2; omega
    rw [if_neg hc] at h2
    have h3 : N 0 12 ≤ pk (mt1 V s) e := by
      by_cases h : pk (mt1 V s) e < N 0 12
      · exact absurd ⟨h0, h1, h2, h⟩ hc
      · omega
    have h4 : pk (mt1 V s) e ≤ pk (mt N V s) e := by
      have e1 : mt N V s 0 1 = mt1 V s 0 1 := by unfold mt; exact mt2_0i
      have e2 : mt1 V s 0 1 = V 0 1 := by rw [← e1]; exact q0 1
      show sg _ (mt1 V s 0 1).toNat ≤ sg _ (mt N V s 0 1).toNat
      rw [e1]
      refine sg_pt (fun p p0 p1 => ?_)
      show (if mt1 V s 11 p = e then (1 : Int) else 0) ≤ if mt N V s 11 p = e then 1 else 0
      by_cases hp : mt1 V s 11 p = e
      · have hv : mt N V s 11 p = e := by
          rw [q11, hp, if_neg hc]
        rw [if_pos hp, if_pos hv]; omega
      · rw [if_neg hp]; split <;> omega
    omega
theorem wf_rtr {N V : uS} {e : Int} (hV : WFc N V) (he : 0 ≤ e ∧ e < V 0 2) : WFc N (rtr V e) := by
  obtain ⟨⟨b0, b1, b2, bS, bI, bP, bE⟩, xS, xP, xE⟩ := hV
  have q11 : ∀ p, rtr V e 11 p = if V 11 p = e then -1 else V 11 p := fun p => fr_11
  have q14 : ∀ d, rtr V e 14 d = if d = e then 1 else V 14 d := fun d => by
    unfold rtr
    rw [fr_r (by decide)]
    by_cases h : d = e
    · subst h; rw [up_s, if_pos rfl]
    · rw [up_j h, if_neg h]
  refine ⟨⟨b0, b1, b2, bS, bI, fun p h0 h1 => ?_, fun d h0 h1 => ?_⟩, xS, fun p h0 h1 => ?_, fun d h0 h1 h2 => ?_⟩
  · have b := bP p h0 h1
    refine ⟨b.1, b.2.1, b.2.2.1, ?_, b.2.2.2.2⟩
    rw [q11]
    split <;> omega
  · have b := bE d h0 h1
    rw [q14]
    exact ⟨by split <;> omega, b.2⟩
  · have x := xP p h0 h1
    show rtr V e 11 p < V 0 2 ∧ (V 12 p = 1 → rtr V e 11 p = -1) ∧ (0 ≤ rtr V e 11 p → rtr V e 14 (rtr V e 11 p) = 0)
    rw [q14]
    have h3 := q11 p
    by_cases h : V 11 p = e
    · rw [if_pos h] at h3
      rw [h3]; exact ⟨by omega, fun _ => rfl, fun h => by omega⟩
    · rw [if_neg h] at h3
      rw [h3, if_neg h]; exact x
  · rw [q14] at h2
    have hd : d ≠ e := fun h => by rw [if_pos h] at h2; omega
    rw [if_neg hd] at h2
    have h3 := xE d h0 h1 h2
    have h4 : pk V d ≤ pk (rtr V e) d := sg_pt (fun p _ _ => by
      show (if V 11 p = d then (1 : Int) else 0) ≤ if rtr V e 11 p = d then 1 else 0
      by_cases hp : V 11 p = d
      · have hv : rtr V e 11 p = d := by rw [q11, if_neg (by omega)]; exact hp
        rw [if_pos hp, if_pos hv]; omega
      · rw [if_neg hp]; split <;> omega)
    omega
theorem wf_lev {N V : uS} {s l : Int} (hV : WFc N V) (hl : 0 ≤ l ∧ l ≤ 9999) : WFc N (up V 1 s l) := by
  obtain ⟨⟨b0, b1, b2, bS, bI, bP, bE⟩, xS, xP, xE⟩ := hV
  refine ⟨⟨b0, b1, b2, fun q h0 h1 => ?_, bI, bP, bE⟩, xS, xP, xE⟩
  have b := bS q h0 h1
  refine ⟨?_, b.2⟩
  by_cases h : q = s
  · subst h; rw [up_s]; exact hl
  · rw [up_j h]; exact b.1
theorem wf_unm {N V : uS} {s : Int} (hV : WFc N V) : WFc N (up V 6 s 0) := by
  obtain ⟨⟨b0, b1, b2, bS, bI, bP, bE⟩, xS, xP, xE⟩ := hV
  refine ⟨⟨b0, b1, b2, fun q h0 h1 => ?_, bI, bP, bE⟩, fun q h0 h1 => ?_, xP, xE⟩
  · have b := bS q h0 h1
    refine ⟨b.1, b.2.1, ?_⟩
    by_cases h : q = s
    · subst h; rw [up_s]; omega
    · rw [up_j h]; exact b.2.2
  · have x := xS q h0 h1
    show (up V 6 s 0 6 q = 1 → V 5 q = 0) ∧ _
    refine ⟨fun h2 => ?_, x.2⟩
    by_cases h : q = s
    · subst h; rw [up_s] at h2; omega
    · rw [up_j h] at h2; exact x.1 h2
/-- bounds while muting goes on -/
theorem wfb_mt1i {N V : uS} {s n : Int} (hV : WFb N V) : WFb N (mt1i V s n) := by
  obtain ⟨b0, b1, b2, bS, bI, bP, bE⟩ := hV
  have r : ∀ j i, j ≠ 11 → j ≠ 12 → j ≠ 5 → j ≠ 6 → mt1i V s n j i = V j i := fun j i h1 h2 h3 h4 => by rw [mt1i_r h1 h2, up_k h3, up_k h4]
  have q0 : ∀ i, mt1i V s n 0 i = V 0 i := fun i => r 0 i (by decide) (by decide) (by decide) (by decide)
  refine ⟨by rw [q0]; exact b0, by rw [q0]; exact b1, by rw [q0]; exact b2, fun q h0 h1 => ?_, fun i h0 h1 => by rw [r 2 i (by decide) (by decide) (by decide) (by decide)]; exact bI i h0 h1, fun p h0 h1 => ?_, fun e h0 h1 => ?_⟩
  · have b := bS q h0 h1
    rw [r 1 q (by decide) (by decide) (by decide) (by decide), mt1i_r (j := 5) (by decide) (by decide), mt1i_r (j := 6) (by decide) (by decide), up_k (k := 5) (i := 6) (by decide)]
    refine ⟨b.1, ?_, ?_⟩
    · by_cases h : q = s
      · subst h; rw [up_s]; omega
      · rw [up_j h, up_k (by decide)]; exact b.2.1
    · by_cases h : q = s
      · subst h; rw [up_s]; omega
      · rw [up_j h]; exact b.2.2
  · rw [q0] at h1
    have b := bP p h0 h1
    rw [r 8 p (by decide) (by decide) (by decide) (by decide), r 9 p (by decide) (by decide) (by decide) (by decide), r 10 p (by decide) (by decide) (by decide) (by decide), mt1i_11, mt1i_12]
    exact ⟨b.1, b.2.1, b.2.2.1, by split <;> omega, by split <;> omega⟩
  · rw [q0] at h1
    rw [r 14 e (by decide) (by decide) (by decide) (by decide), r 13 e (by decide) (by decide) (by decide) (by decide)]
    exact bE e h0 h1
theorem wfb_mt2 {N V : uS} {n : Int} (hV : WFb N V) : WFb N (mt2 N V n) := by
  obtain ⟨b0, b1, b2, bS, bI, bP, bE⟩ := hV
  have r : ∀ j i, j ≠ 11 → j ≠ 14 → mt2 N V n j i = V j i := fun j i h1 h2 => mt2_r h1 h2
  have q0 : ∀ i, mt2 N V n 0 i = V 0 i := fun i => r 0 i (by decide) (by decide)
  refine ⟨by rw [q0]; exact b0, by rw [q0]; exact b1, by rw [q0]; exact b2, fun q h0 h1 => ?_, fun i h0 h1 => by rw [r 2 i (by decide) (by decide)]; exact bI i h0 h1, fun p h0 h1 => ?_, fun e h0 h1 => ?_⟩
  · rw [r 1 q (by decide) (by decide), r 5 q (by decide) (by decide), r 6 q (by decide) (by decide)]; exact bS q h0 h1
  · rw [q0] at h1
    have b := bP p h0 h1
    rw [r 8 p (by decide) (by decide), r 9 p (by decide) (by decide), r 10 p (by decide) (by decide), r 12 p (by decide) (by decide), mt2_11]
    exact ⟨b.1, b.2.1, b.2.2.1, by split <;> omega, b.2.2.2.2⟩
  · rw [q0] at h1
    have b := bE e h0 h1
    rw [r 13 e (by decide) (by decide), mt2_14i]
    exact ⟨by split <;> omega, b.2⟩
theorem wfb_up14 {N V : uS} {e : Int} (hV : WFb N V) : WFb N (up V 14 e 1) := by
  obtain ⟨b0, b1, b2, bS, bI, bP, bE⟩ := hV
  refine ⟨b0, b1, b2, bS, bI, bP, fun d h0 h1 => ?_⟩
  have b := bE d h0 h1
  refine ⟨?_, b.2⟩
  by_cases h : d = e
  · subst h; rw [up_s]; omega
  · rw [up_j h]; exact b.1
section MU
variable {u N V : uS} {n k : Nat}
theorem wretracts {e : Int} (hV : WFb N V) (hm : MS u V) (he : 0 ≤ e ∧ e < V 0 2) : wp (f_X10_retracts e u) (fun q => (∀ c, c ≠ 41 → q.2 c = u c) ∧ MS q.2 (rtr V e)) := by
  have hVb := hV
  obtain ⟨b0, b1, b2, bS, bI, bP, bE⟩ := hV
  unfold f_X10_retracts
  repeat (first | (with_reducible refine wp_g ?_ ?_; · omega) | (with_reducible refine wp_f ?_ ?_; · omega) | (with_reducible refine wp_t ?_ ?_; · omega))
  refine wp_l (fun w g => ?_)
  have s := VE.st hm b1.2 b2.2 14 e 1 g rfl (by unfold vd; omega) rfl
  have f0 : ∀ c, c ≠ 41 → u c = u c := fun _ _ => rfl
  have f := fr_st f0 g
  refine wp_b (wfrees (wfb_up14 hVb) (show MS w (up V 14 e 1) from s) (by omega)) (fun r w2 h => wp_s ?_)
  exact ⟨fun c hc => (h.1 c hc).trans (f c hc), h.2⟩
theorem wmutes {s : Int} (hN : NWF N) (hn : MN u N) (hV : WFc N V) (hm : MS u V) (hs : 0 ≤ s ∧ s < N 0 0) : wp (f_X10_mutes s u) (fun q => q.1 = mtn N (mt1 V s) (V 0 2) ∧ (∀ c, c ≠ 41 → q.2 c = u c) ∧ MS q.2 (mt N V s)) := by
  have hVc := hV
  have hN2 := hN
  obtain ⟨n0, n1, n2, n3, n4, n5, n6, n7, n8, n9, n10, n11, n12, n13, n14, nS, nR⟩ := hN
  obtain ⟨hV, -⟩ := hV
  have hVb := hV
  obtain ⟨b0, b1, b2, bS, bI, bP, bE⟩ := hV
  have f0 : ∀ c, c ≠ 41 → u c = u c := fun _ _ => rfl
  have m01 : mt1 V s 0 1 = V 0 1 := by rw [mt1_r (by decide) (by decide), up_k (by decide), up_k (by decide)]
  have m02 : mt1 V s 0 2 = V 0 2 := by rw [mt1_r (by decide) (by decide), up_k (by decide), up_k (by decide)]
  unfold f_X10_mutes
  refine wp_e (eat _ _ _) ?_
  refine wp_g (by omega) ?_
  refine wp_l (fun w1 g1 => ?_)
  have s1 := VE.st hm b1.2 b2.2 6 s 1 g1 rfl (by unfold vd; omega) rfl
  have f1 := fr_st f0 g1
  refine wp_e (eat _ _ _) ?_
  refine wp_g (by omega) ?_
  refine wp_l (fun w2 g2 => ?_)
  have s2 := VE.st s1 b1.2 b2.2 5 s 0 g2 rfl (by unfold vd; omega) rfl
  have f2 := fr_st f1 g2
  refine wp_L ?_
  refine wl3 (fun L i v => (∀ c, c ≠ 41 → v c = u c) ∧ VE (V 0 1) (V 0 2) (fun j s => v 41 (ix j s)) (mt1i V s i) ∧ (0 ≤ i ∧ i ≤ V 0 1) ∧ (0 ≤ L ∧ L < 2 ^ (20 : Int).toNat) ∧ ∀ e, 0 ≤ e → e < 20 → (shrI L e % 2 = 1 ↔ ∃ p, 0 ≤ p ∧ p < i ∧ V 8 p = s ∧ V 11 p = e)) (fun _ i _ => (V 0 1 - i).toNat) (fun go L i v hI hg => ?_) FU _ _ _ ⟨f2, VE.cg s2 (fun j i _ => mt1i_0), ⟨by omega, by omega⟩, by decide, fun e e0 e1 => ⟨fun h => ?_, fun ⟨p, p0, p1, _⟩ => by omega⟩⟩ (FU_l (by omega))
  · obtain ⟨hf, hE, hi, hL, hbit⟩ := hI
    have nv : MN v N := hn.row (fun c h3 h4 => hf c (by omega))
    have e1 : v 41 1 = V 0 1 := (hE.rd (j := 0) (s := 1) (by unfold vd; omega) rfl).trans (by rw [mt1i_r (by decide) (by decide), up_k (by decide), up_k (by decide)])
    have e220 : (2 : Int) ^ (20 : Int).toNat = 1048576 := by decide
    unfold s_X10_mutes_26
    refine wp_g (by omega) ?_
    refine wp_i (fun c => ?_) (fun c => ?_)
    · have hi2 : i = V 0 1 := by omega
      subst hi2
      rw [mt1i_e] at hE
      show wp (xl3 (s_X10_mutes_116 L) FU 0 0 v) _
      refine wl3 (fun (c : Int) (e : Int) (w : uS) => (∀ c, c ≠ 41 → w c = u c) ∧ VE (V 0 1) (V 0 2) (fun j s => w 41 (ix j s)) (mt2 N (mt1 V s) e) ∧ (0 ≤ e ∧ e ≤ V 0 2) ∧ c = mtn N (mt1 V s) e) (fun (_ : Int) (e : Int) (_ : uS) => (V 0 2 - e).toNat) (fun go cc e w hI hg => ?_) FU 0 0 v ⟨hf, by rw [mt2_0]; exact hE, ⟨by omega, by omega⟩, show (0 : Int) = mtn N (mt1 V s) 0 from rfl⟩ (FU_l (by omega))
      obtain ⟨hf, hE2, he, hc⟩ := hI
      have nw : MN w N := hn.row (fun c h3 h4 => hf c (by omega))
      have a12 := nw.1 12 (by decide) (by decide)
      have w02 : mt2 N (mt1 V s) e 0 2 = V 0 2 := mt2_0i.trans m02
      have w01 : mt2 N (mt1 V s) e 0 1 = V 0 1 := mt2_0i.trans m01
      have mw : MS w (mt2 N (mt1 V s) e) := by unfold MS; rw [w01, w02]; exact hE2
      have e2 : w 41 2 = V 0 2 := mw.e.trans w02
      have wb : WFb N (mt2 N (mt1 V s) e) := wfb_mt2 (by rw [← mt1i_e]; exact wfb_mt1i hVb)
      unfold s_X10_mutes_116
      refine wp_g (by omega) ?_
      refine wp_i (fun c => ?_) (fun c => ?_)
      · refine wp_s ⟨?_, hf, ?_⟩
        · show cc = _
          rw [hc, show e = V 0 2 by omega]
        · rw [show e = V 0 2 by omega] at mw; exact mw
      · have ml := mt_lost hVc (s := s) (e := e) ⟨by omega, by omega⟩
        have hb := hbit e (by omega) (by omega)
        have b2x : 0 ≤ shrI L e % 2 ∧ shrI L e % 2 < 2 := by omega
        have es : (e + 1).toNat = e.toNat + 1 := by omega
        have w14 : mt1 V s 14 e = V 14 e := by rw [mt1_r (by decide) (by decide), up_k (by decide), up_k (by decide)]
        have pke : pk (mt2 N (mt1 V s) e) e = pk (mt1 V s) e := pk_mt2 (Int.le_refl _) (by omega)
        have pb := pk_b (mt1 V s) e (by rw [m01]; omega)
        have no : ¬ (V 14 e = 0 ∧ pk (mt1 V s) e < N 0 12) → wp (go cc (e + 1) w) (fun q => q.1 = mtn N (mt1 V s) (V 0 2) ∧ (∀ c, c ≠ 41 → q.2 c = u c) ∧ MS q.2 (mt N V s)) := fun h => by
          refine hg _ _ _ ⟨hf, ?_, by omega, ?_⟩ (by omega)
          · rw [mt2_n (by rw [w14]; exact h)]; exact hE2
          · rw [hc]
            unfold mtn
            rw [sg_s (by omega), if_neg (by rw [w14]; exact h)]; omega
        repeat (first | (with_reducible refine wp_L ?_) | (with_reducible refine wp_g ?_ ?_; · omega) | (with_reducible refine wp_f ?_ ?_; · omega) | (with_reducible refine wp_t ?_ ?_; · omega))
        refine wp_i (fun c => ?_) (fun c => ?_)
        · refine wp_e (epicksOf wb mw (by omega)) ?_
          rw [pke, a12]
          refine wp_g (by omega) ?_
          refine wp_i (fun c => ?_) (fun c => ?_)
          · exact no (fun h => by omega)
          · have hy : V 14 e = 0 ∧ pk (mt1 V s) e < N 0 12 := ml.mp ⟨hb.mp (by omega), by omega⟩
            refine wp_b (wretracts wb mw ⟨by omega, by rw [w02]; omega⟩) (fun r w3 h => ?_)
            refine hg _ _ _ ⟨fun c hc => (h.1 c hc).trans (hf c hc), ?_, by omega, ?_⟩ (by omega)
            · have h2 : MS w3 (rtr (mt2 N (mt1 V s) e) e) := h.2
              rw [mt2_s (by omega) (by rw [w14]; exact hy)] at h2
              have x1 : mt2 N (mt1 V s) (e + 1) 0 1 = V 0 1 := mt2_0i.trans m01
              have x2 : mt2 N (mt1 V s) (e + 1) 0 2 = V 0 2 := mt2_0i.trans m02
              unfold MS at h2
              rw [x1, x2] at h2
              exact h2
            · rw [hc]
              unfold mtn
              rw [sg_s (by omega), if_pos (by rw [w14]; exact hy)]
        · exact no (fun h => by
            have := (ml.mpr h).1
            have := hb.mpr this
            omega)
    · have p8 : v 41 (827 + 5 * i + 0) = V 8 i := (hE.rd (j := 8) (s := i) (by unfold vd; omega) rfl).trans (by rw [mt1i_r (by decide) (by decide), up_k (by decide), up_k (by decide)])
      have p11 : v 41 (827 + 5 * i + 3) = V 11 i := (hE.rd (j := 11) (s := i) (by unfold vd; omega) rfl).trans (by rw [mt1i_11, if_neg (by omega)])
      have bp := bP i hi.1 (by omega)
      have xp := hVc.2.2.1 i hi.1 (by omega)
      repeat (first | (with_reducible refine wp_L ?_) | (with_reducible refine wp_g ?_ ?_; · omega) | (with_reducible refine wp_f ?_ ?_; · omega) | (with_reducible refine wp_t ?_ ?_; · omega) | (with_reducible refine wp_e (eof _ _ _) ?_) | (with_reducible refine wp_e (eat _ _ _) ?_) | (with_reducible refine wp_e (enodes _) ?_))
      refine wp_i (fun c => ?_) (fun c => ?_)
      · have h8 : V 8 i = s := by omega
        have stp : ∀ L2, (0 ≤ L2 ∧ L2 < 2 ^ (20 : Int).toNat) → (∀ e, 0 ≤ e → e < 20 → (shrI L2 e % 2 = 1 ↔ ∃ p, 0 ≤ p ∧ p < i + 1 ∧ V 8 p = s ∧ V 11 p = e)) → ∀ w2 w3, w2 = up v 41 (827 + 5 * i + 3) (-1) → w3 = up w2 41 (827 + 5 * i + 4) 1 → wp (go L2 (i + 1) w3) (fun q => q.1 = mtn N (mt1 V s) (V 0 2) ∧ (∀ c, c ≠ 41 → q.2 c = u c) ∧ MS q.2 (mt N V s)) := by
          intro L2 hL2 hb2 w2 w3 k2 k3
          have t2 := VE.st hE b1.2 b2.2 11 i (-1) k2 rfl (by unfold vd; omega) rfl
          have t3 := VE.st t2 b1.2 b2.2 12 i 1 k3 rfl (by unfold vd; omega) rfl
          exact hg _ _ _ ⟨fr_st (fr_st hf k2) k3, VE.cg t3 (fun j q _ => mt1i_s hi.1 h8), by omega, hL2, hb2⟩ (by omega)
        repeat (first | (with_reducible refine wp_L ?_) | (with_reducible refine wp_g ?_ ?_; · omega) | (with_reducible refine wp_f ?_ ?_; · omega) | (with_reducible refine wp_t ?_ ?_; · omega) | (with_reducible refine wp_e (eof _ _ _) ?_) | (with_reducible refine wp_e (eat _ _ _) ?_) | (with_reducible refine wp_e (enodes _) ?_))
        refine wp_i (fun c => ?_) (fun c => ?_)
        · repeat (first | (with_reducible refine wp_L ?_) | (with_reducible refine wp_g ?_ ?_; · omega) | (with_reducible refine wp_f ?_ ?_; · omega) | (with_reducible refine wp_t ?_ ?_; · omega) | (with_reducible refine wp_e (eof _ _ _) ?_) | (with_reducible refine wp_e (eat _ _ _) ?_) | (with_reducible refine wp_e (enodes _) ?_))
          rw [or_0 (by omega)]
          refine stp L hL (fun e e0 e1 => (hbit e e0 e1).trans ⟨fun ⟨p, p0, p1, p2⟩ => ⟨p, p0, by omega, p2⟩, fun ⟨p, p0, p1, p2, p3⟩ => ⟨p, p0, ?_, p2, p3⟩⟩) _ _ rfl rfl
          by_cases hp : p = i
          · subst hp; omega
          · omega
        · repeat (first | (with_reducible refine wp_L ?_) | (with_reducible refine wp_g ?_ ?_; · omega) | (with_reducible refine wp_f ?_ ?_; · omega) | (with_reducible refine wp_t ?_ ?_; · omega) | (with_reducible refine wp_e (eof _ _ _) ?_) | (with_reducible refine wp_e (eat _ _ _) ?_) | (with_reducible refine wp_e (enodes _) ?_))
          rw [p11]
          have ob := or_bit (L := L) (x := V 11 i) (n := 20) (by decide) hL ⟨by omega, by omega⟩
          refine stp _ ob.1 (fun e e0 e1 => ?_) _ _ rfl rfl
          rw [ob.2 e e0]
          by_cases he : e = V 11 i
          · rw [if_pos he]
            exact ⟨fun _ => ⟨i, hi.1, by omega, h8, he.symm⟩, fun _ => rfl⟩
          · rw [if_neg he]
            refine (hbit e e0 e1).trans ⟨fun ⟨p, p0, p1, p2⟩ => ⟨p, p0, by omega, p2⟩, fun ⟨p, p0, p1, p2, p3⟩ => ⟨p, p0, ?_, p2, p3⟩⟩
            by_cases hp : p = i
            · subst hp; omega
            · omega
      · refine hg _ _ _ ⟨hf, VE.cg hE (fun j q _ => mt1i_o (Or.inr (by omega))), by omega, hL, fun e e0 e1 => (hbit e e0 e1).trans ⟨fun ⟨p, p0, p1, p2⟩ => ⟨p, p0, by omega, p2⟩, fun ⟨p, p0, p1, p2, p3⟩ => ⟨p, p0, ?_, p2, p3⟩⟩⟩ (by omega)
        by_cases hp : p = i
        · subst hp; omega
        · omega
  · exfalso
    have : shrI 0 e % 2 = 0 := by
      unfold shrI
      rw [Int.zero_ediv]; rfl
    omega
end MU
