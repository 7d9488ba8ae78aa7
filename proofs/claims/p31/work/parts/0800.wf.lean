/-! of the values after muting and retracting -/
/-! pure part, 16: muting and retracting keep a situation sound; both sides do them -/
theorem mt1_11 {V : uS} {s p : Int} : mt1 V s 11 p = if 0 ≤ p ∧ p < V 0 1 ∧ V 8 p = s then -1 else V 11 p := by rw [← mt1i_e, mt1i_11]
theorem mt1_12 {V : uS} {s p : Int} : mt1 V s 12 p = if 0 ≤ p ∧ p < V 0 1 ∧ V 8 p = s then 1 else V 12 p := by rw [← mt1i_e, mt1i_12]
theorem wf_mt {N V : uS} {s : Int} (hN : NWF N) (hV : WFc N V) (hs : 0 ≤ s ∧ s < 8) : WFc N (mt N V s) := by
  have n12 := hN.2.2.2.2.2.2.2.2.2.2.2.2.1
  obtain ⟨⟨b0, b1, b2, bS, bI, bP, bE⟩, xS, xP, xE⟩ := hV
  have q0 : ∀ i, mt N V s 0 i = V 0 i := fun i => mt_q (by decide) (by decide) (by decide) (by decide) (by decide)
  have q1 : ∀ i, mt N V s 1 i = V 1 i := fun i => mt_q (by decide) (by decide) (by decide) (by decide) (by decide)
  have q2 : ∀ i, mt N V s 2 i = V 2 i := fun i => mt_q (by decide) (by decide) (by decide) (by decide) (by decide)
  have q7 : ∀ i, mt N V s 7 i = V 7 i := fun i => mt_q (by decide) (by decide) (by decide) (by decide) (by decide)
  have q8 : ∀ i, mt N V s 8 i = V 8 i := fun i => mt_q (by decide) (by decide) (by decide) (by decide) (by decide)
  have q9 : ∀ i, mt N V s 9 i = V 9 i := fun i => mt_q (by decide) (by decide) (by decide) (by decide) (by decide)
  have q10 : ∀ i, mt N V s 10 i = V 10 i := fun i => mt_q (by decide) (by decide) (by decide) (by decide) (by decide)
  have q13 : ∀ i, mt N V s 13 i = V 13 i := fun i => mt_q (by decide) (by decide) (by decide) (by decide) (by decide)
  have q5 : ∀ i, mt N V s 5 i = if i = s then 0 else V 5 i := fun i => by
    rw [mt_r (by decide) (by decide) (by decide)]
    by_cases h : i = s
    · subst h; rw [up_s, if_pos rfl]
    · rw [up_j h, up_k (by decide), if_neg h]
  have q6 : ∀ i, mt N V s 6 i = if i = s then 1 else V 6 i := fun i => by
    rw [mt_r (by decide) (by decide) (by decide), up_k (by decide)]
    by_cases h : i = s
    · subst h; rw [up_s, if_pos rfl]
    · rw [up_j h, if_neg h]
  have q12 : ∀ p, mt N V s 12 p = mt1 V s 12 p := fun p => mt2_r (by decide) (by decide)
  have w14 : ∀ e, mt1 V s 14 e = V 14 e := fun e => by rw [mt1_r (by decide) (by decide), up_k (by decide), up_k (by decide)]
  have q11 : ∀ p, mt N V s 11 p = if 0 ≤ mt1 V s 11 p ∧ mt1 V s 11 p < V 0 2 ∧ V 14 (mt1 V s 11 p) = 0 ∧ pk (mt1 V s) (mt1 V s 11 p) < N 0 12 then -1 else mt1 V s 11 p := fun p => by
    unfold mt
    rw [mt2_11, w14]
  have q14 : ∀ e, mt N V s 14 e = if 0 ≤ e ∧ e < V 0 2 ∧ V 14 e = 0 ∧ pk (mt1 V s) e < N 0 12 then 1 else V 14 e := fun e => by
    unfold mt
    rw [mt2_14i, w14]
  have w11 : ∀ p, 0 ≤ p → p < V 0 1 → (mt1 V s 11 p = -1 ∨ (mt1 V s 11 p = V 11 p ∧ V 8 p ≠ s)) := fun p p0 p1 => by
    rw [mt1_11]
    by_cases h : V 8 p = s
    · left; rw [if_pos ⟨p0, p1, h⟩]
    · right; rw [if_neg (fun q => h q.2.2)]; exact ⟨rfl, h⟩
  have e11 : ∀ p, 0 ≤ p → p < V 0 1 → mt N V s 11 p = -1 ∨ (mt N V s 11 p = V 11 p ∧ mt1 V s 11 p = V 11 p ∧ V 8 p ≠ s ∧ ¬ (0 ≤ V 11 p ∧ V 11 p < V 0 2 ∧ V 14 (V 11 p) = 0 ∧ pk (mt1 V s) (V 11 p) < N 0 12)) := fun p p0 p1 => by
    rw [q11]
    rcases w11 p p0 p1 with h | ⟨h, h8⟩
    · rw [h, if_neg (by omega)]; exact Or.inl rfl
    · rw [h]
      by_cases hc : 0 ≤ V 11 p ∧ V 11 p < V 0 2 ∧ V 14 (V 11 p) = 0 ∧ pk (mt1 V s) (V 11 p) < N 0 12
      · rw [if_pos hc]; exact Or.inl rfl
      · rw [if_neg hc]; exact Or.inr ⟨rfl, rfl, h8, hc⟩
  refine ⟨⟨by rw [q0]; exact b0, by rw [q0]; exact b1, by rw [q0]; exact b2, fun q h0 h1 => ?_, fun i h0 h1 => by rw [q2]; exact bI i h0 h1, fun p h0 h1 => ?_, fun e h0 h1 => ?_⟩, fun q h0 h1 => ?_, fun p h0 h1 => ?_, fun e h0 h1 h2 => ?_⟩
  · have b := bS q h0 h1
    rw [q1, q5, q6]
    exact ⟨b.1, by split <;> omega, by split <;> omega⟩
  · rw [q0] at h1
    have b := bP p h0 h1
    rw [q8, q9, q10, q12, mt1_12]
    refine ⟨b.1, b.2.1, b.2.2.1, ?_, by split <;> omega⟩
    rcases e11 p h0 h1 with h | h
    · rw [h]; omega
    · rw [h.1]; exact b.2.2.2.1
  · rw [q0] at h1
    have b := bE e h0 h1
    rw [q13, q14]
    exact ⟨by split <;> omega, b.2⟩
  · have x := xS q h0 h1
    rw [q5, q6, q7, q0]
    by_cases h : q = s
    · rw [if_pos h, if_pos h]; exact ⟨fun _ => rfl, fun h => by omega⟩
    · rw [if_neg h, if_neg h]; exact x
  · rw [q0] at h1
    have x := xP p h0 h1
    rw [q0, q12, mt1_12, q14]
    rcases e11 p h0 h1 with h | ⟨h, h3, h4, h5⟩
    · rw [h]; exact ⟨by omega, fun _ => rfl, fun h => by omega⟩
    · rw [h, if_neg (fun q => h4 q.2.2)]
      refine ⟨x.1, x.2.1, fun h6 => ?_⟩
      rw [if_neg h5]; exact x.2.2 h6
  · rw [q0] at h1
    rw [q14] at h2
    have hc : ¬ (0 ≤ e ∧ e < V 0 2 ∧ V 14 e = 0 ∧ pk (mt1 V s) e < N 0 12) := fun h => by rw [if_pos h] at h2; omega
    rw [if_neg hc] at h2
    have h3 : N 0 12 ≤ pk (mt1 V s) e := by
      by_cases h : pk (mt1 V s) e < N 0 12
      · exact absurd ⟨h0, h1, h2, h⟩ hc
      · omega
    have h4 : pk (mt1 V s) e ≤ pk (mt N V s) e := by
      have e1 : mt N V s 0 1 = mt1 V s 0 1 := by unfold mt; exact mt2_0i
      have e2 : mt1 V s 0 1 = V 0 1 := by rw [← e1]; exact q0 1
      show sg _ (mt1 V s 0 1).toNat ≤ sg _ (mt N V s 0 1).toNat
      rw [e1]
      refine sg_pt (fun p p0 p1 => ?_)
      show (if mt1 V s 11 p = e then (1 : Int) else 0) ≤ if mt N V s 11 p = e then 1 else 0
      by_cases hp : mt1 V s 11 p = e
      · have hv : mt N V s 11 p = e := by
          rw [q11, hp, if_neg hc]
        rw [if_pos hp, if_pos hv]; omega
      · rw [if_neg hp]; split <;> omega
    omega
theorem wf_rtr {N V : uS} {e : Int} (hV : WFc N V) (he : 0 ≤ e ∧ e < V 0 2) : WFc N (rtr V e) := by
  obtain ⟨⟨b0, b1, b2, bS, bI, bP, bE⟩, xS, xP, xE⟩ := hV
  have q11 : ∀ p, rtr V e 11 p = if V 11 p = e then -1 else V 11 p := fun p => fr_11
  have q14 : ∀ d, rtr V e 14 d = if d = e then 1 else V 14 d := fun d => by
    unfold rtr
    rw [fr_r (by decide)]
    by_cases h : d = e
    · subst h; rw [up_s, if_pos rfl]
    · rw [up_j h, if_neg h]
  refine ⟨⟨b0, b1, b2, bS, bI, fun p h0 h1 => ?_, fun d h0 h1 => ?_⟩, xS, fun p h0 h1 => ?_, fun d h0 h1 h2 => ?_⟩
  · have b := bP p h0 h1
    refine ⟨b.1, b.2.1, b.2.2.1, ?_, b.2.2.2.2⟩
    rw [q11]
    split <;> omega
  · have b := bE d h0 h1
    rw [q14]
    exact ⟨by split <;> omega, b.2⟩
  · have x := xP p h0 h1
    show rtr V e 11 p < V 0 2 ∧ (V 12 p = 1 → rtr V e 11 p = -1) ∧ (0 ≤ rtr V e 11 p → rtr V e 14 (rtr V e 11 p) = 0)
    rw [q14]
    have h3 := q11 p
    by_cases h : V 11 p = e
    · rw [if_pos h] at h3
      rw [h3]; exact ⟨by omega, fun _ => rfl, fun h => by omega⟩
    · rw [if_neg h] at h3
      rw [h3, if_neg h]; exact x
  · rw [q14] at h2
    have hd : d ≠ e := fun h => by rw [if_pos h] at h2; omega
    rw [if_neg hd] at h2
    have h3 := xE d h0 h1 h2
    have h4 : pk V d ≤ pk (rtr V e) d := sg_pt (fun p _ _ => by
      show (if V 11 p = d then (1 : Int) else 0) ≤ if rtr V e 11 p = d then 1 else 0
      by_cases hp : V 11 p = d
      · have hv : rtr V e 11 p = d := by rw [q11, if_neg (by omega)]; exact hp
        rw [if_pos hp, if_pos hv]; omega
      · rw [if_neg hp]; split <;> omega)
    omega
theorem wf_lev {N V : uS} {s l : Int} (hV : WFc N V) (hl : 0 ≤ l ∧ l ≤ 9999) : WFc N (up V 1 s l) := by
  obtain ⟨⟨b0, b1, b2, bS, bI, bP, bE⟩, xS, xP, xE⟩ := hV
  refine ⟨⟨b0, b1, b2, fun q h0 h1 => ?_, bI, bP, bE⟩, xS, xP, xE⟩
  have b := bS q h0 h1
  refine ⟨?_, b.2⟩
  by_cases h : q = s
  · subst h; rw [up_s]; exact hl
  · rw [up_j h]; exact b.1
theorem wf_unm {N V : uS} {s : Int} (hV : WFc N V) : WFc N (up V 6 s 0) := by
  obtain ⟨⟨b0, b1, b2, bS, bI, bP, bE⟩, xS, xP, xE⟩ := hV
  refine ⟨⟨b0, b1, b2, fun q h0 h1 => ?_, bI, bP, bE⟩, fun q h0 h1 => ?_, xP, xE⟩
  · have b := bS q h0 h1
    refine ⟨b.1, b.2.1, ?_⟩
    by_cases h : q = s
    · subst h; rw [up_s]; omega
    · rw [up_j h]; exact b.2.2
  · have x := xS q h0 h1
    show (up V 6 s 0 6 q = 1 → V 5 q = 0) ∧ _
    refine ⟨fun h2 => ?_, x.2⟩
    by_cases h : q = s
    · subst h; rw [up_s] at h2; omega
    · rw [up_j h] at h2; exact x.1 h2
theorem wfb_up14 {N V : uS} {e : Int} (hV : WFb N V) : WFb N (up V 14 e 1) := by
  obtain ⟨b0, b1, b2, bS, bI, bP, bE⟩ := hV
  refine ⟨b0, b1, b2, bS, bI, bP, fun d h0 h1 => ?_⟩
  have b := bE d h0 h1
  refine ⟨?_, b.2⟩
  by_cases h : d = e
  · subst h; rw [up_s]; omega
  · rw [up_j h]; exact b.1
