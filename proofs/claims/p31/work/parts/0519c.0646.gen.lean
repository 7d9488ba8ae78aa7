/-! of the values, for both sides -/
section GE
variable {u N V : uS} {n k : Nat}
theorem mt1_r {V : uS} {s i : Int} {j : Nat} (h1 : j ≠ 11) (h2 : j ≠ 12) : mt1 V s j i = up (up V 6 s 1) 5 s 0 j i := by rw [← mt1i_e, mt1i_r h1 h2]
theorem mt_r {N V : uS} {s i : Int} {j : Nat} (h1 : j ≠ 11) (h2 : j ≠ 12) (h3 : j ≠ 14) : mt N V s j i = up (up V 6 s 1) 5 s 0 j i := by
  unfold mt
  rw [mt2_r h1 h3, mt1_r h1 h2]
theorem mt_q {N V : uS} {s i : Int} {j : Nat} (h1 : j ≠ 11) (h2 : j ≠ 12) (h3 : j ≠ 14) (h5 : j ≠ 5) (h6 : j ≠ 6) : mt N V s j i = V j i := by
  rw [mt_r h1 h2 h3, up_k h5, up_k h6]
/-- bounds while muting goes on -/
theorem wfb_mt1i {N V : uS} {s n : Int} (hV : WFb N V) : WFb N (mt1i V s n) := by
  obtain ⟨b0, b1, b2, bS, bI, bP, bE⟩ := hV
  have r : ∀ j i, j ≠ 11 → j ≠ 12 → j ≠ 5 → j ≠ 6 → mt1i V s n j i = V j i := fun j i h1 h2 h3 h4 => by rw [mt1i_r h1 h2, up_k h3, up_k h4]
  have q0 : ∀ i, mt1i V s n 0 i = V 0 i := fun i => r 0 i (by decide) (by decide) (by decide) (by decide)
  refine ⟨by rw [q0]; exact b0, by rw [q0]; exact b1, by rw [q0]; exact b2, fun q h0 h1 => ?_, fun i h0 h1 => by rw [r 2 i (by decide) (by decide) (by decide) (by decide)]; exact bI i h0 h1, fun p h0 h1 => ?_, fun e h0 h1 => ?_⟩
  · have b := bS q h0 h1
    rw [r 1 q (by decide) (by decide) (by decide) (by decide), mt1i_r (j := 5) (by decide) (by decide), mt1i_r (j := 6) (by decide) (by decide), up_k (k := 5) (i := 6) (by decide)]
    refine ⟨b.1, ?_, ?_⟩
    · by_cases h : q = s
      · subst h; rw [up_s]; omega
      · rw [up_j h, up_k (by decide)]; exact b.2.1
    · by_cases h : q = s
      · subst h; rw [up_s]; omega
      · rw [up_j h]; exact b.2.2
  · rw [q0] at h1
    have b := bP p h0 h1
    rw [r 8 p (by decide) (by decide) (by decide) (by decide), r 9 p (by decide) (by decide) (by decide) (by decide), r 10 p (by decide) (by decide) (by decide) (by decide), mt1i_11, mt1i_12]
    exact ⟨b.1, b.2.1, b.2.2.1, by split <;> omega, by split <;> omega⟩
  · rw [q0] at h1
    rw [r 14 e (by decide) (by decide) (by decide) (by decide), r 13 e (by decide) (by decide) (by decide) (by decide)]
    exact bE e h0 h1
theorem wfb_mt2 {N V : uS} {n : Int} (hV : WFb N V) : WFb N (mt2 N V n) := by
  obtain ⟨b0, b1, b2, bS, bI, bP, bE⟩ := hV
  have r : ∀ j i, j ≠ 11 → j ≠ 14 → mt2 N V n j i = V j i := fun j i h1 h2 => mt2_r h1 h2
  have q0 : ∀ i, mt2 N V n 0 i = V 0 i := fun i => r 0 i (by decide) (by decide)
  refine ⟨by rw [q0]; exact b0, by rw [q0]; exact b1, by rw [q0]; exact b2, fun q h0 h1 => ?_, fun i h0 h1 => by rw [r 2 i (by decide) (by decide)]; exact bI i h0 h1, fun p h0 h1 => ?_, fun e h0 h1 => ?_⟩
  · rw [r 1 q (by decide) (by decide), r 5 q (by decide) (by decide), r 6 q (by decide) (by decide)]; exact bS q h0 h1
  · rw [q0] at h1
    have b := bP p h0 h1
    rw [r 8 p (by decide) (by decide), r 9 p (by decide) (by decide), r 10 p (by decide) (by decide), r 12 p (by decide) (by decide), mt2_11]
    exact ⟨b.1, b.2.1, b.2.2.1, by split <;> omega, b.2.2.2.2⟩
  · rw [q0] at h1
    have b := bE e h0 h1
    rw [r 13 e (by decide) (by decide), mt2_14i]
    exact ⟨by split <;> omega, b.2⟩
end GE
