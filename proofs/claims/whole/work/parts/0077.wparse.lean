/-! pure part, 47: the reference's parse -/
section WP2
variable {u N V : uS} {U S : Int → uS} {f : Int → Int} {c L E : Int} {B : Int → Int} {D : List Int}
theorem wlifts {k : Nat} {h : Int} (hk : k < NN ∧ sT k = 100) (hs : (sN k : Int) = 2 * h) (hh : 0 ≤ h ∧ h ≤ 100) : wp (f_X10_lifts k u) (fun q => (∀ d, d ≠ k → q.2 d = u d) ∧ ∀ j, 0 ≤ j → j < h → q.2 k j = u k (h + j)) := by
  have et : Int.tdiv (sN k : Int) 2 = h := by rw [hs, Int.tdiv_eq_ediv_of_nonneg (by omega)]; omega
  unfold f_X10_lifts
  refine wp_g hk ?_
  refine wl2 (fun i v => (0 ≤ i ∧ i ≤ h) ∧ (∀ d, d ≠ k → v d = u d) ∧ (∀ j, h ≤ j → v k j = u k j) ∧ ∀ j, 0 ≤ j → j < i → v k j = u k (h + j)) (fun i _ => (h - i).toNat) (fun go i v hI hg => ?_) FU _ _ ⟨by omega, fun _ _ => rfl, fun _ _ => rfl, fun j h1 h2 => by omega⟩ (FU_l (by omega))
  obtain ⟨hi, hf, hu, hv⟩ := hI
  unfold s_X10_lifts_2
  rw [et]
  refine wp_g (by omega) ?_
  refine wp_g (by omega) ?_
  refine wp_i (fun cc => ?_) (fun cc => ?_)
  · exact wp_s ⟨hf, fun j j0 j1 => hv j j0 (by omega)⟩
  · repeat (first | (with_reducible refine wp_L ?_) | (with_reducible refine wp_g ?_ ?_; · omega) | (with_reducible refine wp_f ?_ ?_; · omega) | (with_reducible refine wp_t ?_ ?_; · omega))
    refine hg _ _ ⟨by omega, fun d hd => (up_c hd).trans (hf d hd), fun j j0 => by rw [up_j (by omega)]; exact hu j j0, fun j j0 j1 => ?_⟩ (by omega)
    by_cases hj : j = i
    · rw [hj, up_s]; exact hu _ (by omega)
    · rw [up_j hj]; exact hv j j0 (by omega)
theorem wliftsAll {M : uS} (hDb : DRb u M) (hDn : DRn u (M 0)) (hM : NWF M) : wp (f_X10_liftsAll u) (fun q => (∀ d, (d < 42 ∨ 46 < d) → q.2 d = u d) ∧ MN q.2 M) := by
  have rk : ∀ d, d < 47 → 43 ≤ d → (d < NN ∧ sT d = 100) ∧ (sN d : Int) = 2 * 8 := by decide +kernel
  have r42 : ((42 : Nat) < NN ∧ sT 42 = 100) ∧ (sN 42 : Int) = 2 * 15 := by decide +kernel
  have n0 := hM.1
  have n1 := hM.2.1
  unfold f_X10_liftsAll
  refine wp_b (wlifts r42.1 r42.2 (by decide)) (fun r a1 h1 => ?_)
  refine wp_b (wlifts (k := 43) (rk 43 (by decide) (by decide)).1 (rk 43 (by decide) (by decide)).2 (by decide)) (fun r a2 h2 => ?_)
  refine wp_b (wlifts (k := 44) (rk 44 (by decide) (by decide)).1 (rk 44 (by decide) (by decide)).2 (by decide)) (fun r a3 h3 => ?_)
  refine wp_b (wlifts (k := 45) (rk 45 (by decide) (by decide)).1 (rk 45 (by decide) (by decide)).2 (by decide)) (fun r a4 h4 => ?_)
  refine wp_b (wlifts (k := 46) (rk 46 (by decide) (by decide)).1 (rk 46 (by decide) (by decide)).2 (by decide)) (fun r a5 h5 => ?_)
  have f1 : ∀ d, d ≠ 42 → a1 d = u d := h1.1
  have f2 : ∀ d, d ≠ 43 → a2 d = a1 d := h2.1
  have f3 : ∀ d, d ≠ 44 → a3 d = a2 d := h3.1
  have f4 : ∀ d, d ≠ 45 → a4 d = a3 d := h4.1
  have f5 : ∀ d, d ≠ 46 → a5 d = a4 d := h5.1
  have z1 : ∀ j, 0 ≤ j → j < 15 → a1 42 j = u 42 (15 + j) := h1.2
  have z2 : ∀ j, 0 ≤ j → j < 8 → a2 43 j = a1 43 (8 + j) := h2.2
  have z3 : ∀ j, 0 ≤ j → j < 8 → a3 44 j = a2 44 (8 + j) := h3.2
  have z4 : ∀ j, 0 ≤ j → j < 8 → a4 45 j = a3 45 (8 + j) := h4.2
  have z5 : ∀ j, 0 ≤ j → j < 8 → a5 46 j = a4 46 (8 + j) := h5.2
  refine wp_s ⟨fun d hd => ?_, fun i i0 i1 => ?_, fun s s0 s1 => ?_, fun r r0 r1 => ?_⟩
  · show a5 d = u d
    rw [f5 d (by omega), f4 d (by omega), f3 d (by omega), f2 d (by omega), f1 d (by omega)]
  · show a5 42 i = M 0 i
    rw [f5 42 (by decide), f4 42 (by decide), f3 42 (by decide), f2 42 (by decide), z1 i i0 i1]; exact hDn i i0 i1
  · show a5 43 s = M 1 s ∧ a5 44 s = M 2 s
    rw [f5 43 (by decide), f4 43 (by decide), f3 43 (by decide), z2 s s0 (by omega), f1 43 (by decide), f5 44 (by decide), f4 44 (by decide), z3 s s0 (by omega), f2 44 (by decide), f1 44 (by decide)]
    exact hDb.1 s s0 s1
  · show a5 45 r = M 3 r ∧ a5 46 r = M 4 r
    rw [f5 45 (by decide), z4 r r0 (by omega), f3 45 (by decide), f2 45 (by decide), f1 45 (by decide), z5 r r0 (by omega), f4 46 (by decide), f3 46 (by decide), f2 46 (by decide), f1 46 (by decide)]
    exact hDb.2 r r0 r1
theorem wbegins : wp (f_X10_begins u) (fun q => (∀ d, d ≠ 40 → d ≠ 41 → d ≠ 53 → q.2 d = u d) ∧ (∀ j, j ≠ 22 → q.2 40 j = u 40 j) ∧ q.2 40 22 = 0 ∧ (q.2 53 0 = 0 ∧ q.2 53 1 = 0) ∧ ∀ j, 0 ≤ j → j < 1167 → q.2 41 j = 0) := by
  unfold f_X10_begins
  refine wp_l (fun j1 e1 => ?_)
  refine wl2 (fun i v => (0 ≤ i ∧ i ≤ 1167) ∧ (∀ d, d ≠ 41 → v d = u d) ∧ ∀ j, 0 ≤ j → j < i → v 41 j = 0) (fun i _ => (1167 - i).toNat) (fun go i v hI hg => ?_) FU _ _ ⟨by omega, fun _ _ => rfl, fun j h1 h2 => by omega⟩ (FU_l (by omega))
  obtain ⟨hi, hf, hv⟩ := hI
  unfold s_X10_begins_2
  refine wp_g (by omega) ?_
  refine wp_i (fun cc => ?_) (fun cc => ?_)
  · rw [e1]
    show wp (xlet (up v 40 22 0) fun u3 => xlet (up u3 53 0 0) fun u4 => xlet (up u4 53 1 0) fun u5 => some ((0 : Int), u5)) _
    refine wp_l (fun w1 g1 => ?_)
    refine wp_l (fun w2 g2 => ?_)
    refine wp_l (fun w3 g3 => ?_)
    refine wp_s ⟨fun d d0 d1 d2 => ?_, fun j hj => ?_, ?_, ⟨?_, ?_⟩, fun j j0 j1 => ?_⟩
    · show w3 d = u d
      rw [g3, up_c d2, g2, up_c d2, g1, up_c d0]; exact hf d d1
    · show w3 40 j = u 40 j
      rw [g3, up_k (by decide), g2, up_k (by decide), g1, up_j hj, hf 40 (by decide)]
    · show w3 40 22 = 0
      rw [g3, up_k (by decide), g2, up_k (by decide), g1, up_s]
    · show w3 53 0 = 0
      rw [g3, up_j (by decide), g2, up_s]
    · show w3 53 1 = 0
      rw [g3, up_s]
    · show w3 41 j = 0
      rw [g3, up_k (by decide), g2, up_k (by decide), g1, up_k (by decide)]; exact hv j j0 (by omega)
  · repeat (first | (with_reducible refine wp_L ?_) | (with_reducible refine wp_g ?_ ?_; · omega) | (with_reducible refine wp_f ?_ ?_; · omega) | (with_reducible refine wp_t ?_ ?_; · omega))
    refine hg _ _ ⟨by omega, fun d hd => (up_c hd).trans (hf d hd), fun j j0 j1 => ?_⟩ (by omega)
    by_cases hj : j = i
    · rw [hj, up_s]
    · rw [up_j hj]; exact hv j j0 (by omega)
theorem edraft {i x : Int} (hi : 0 ≤ i ∧ i < 15) : f_X10_draft i x u = some (0, up u 42 (15 + i) x) := by
  refine wp_eq ?_
  unfold f_X10_draft
  repeat (first | (with_reducible refine wp_L ?_) | (with_reducible refine wp_g ?_ ?_; · omega) | (with_reducible refine wp_f ?_ ?_; · omega) | (with_reducible refine wp_t ?_ ?_; · omega))
  exact wp_s rfl
theorem wclearDraft : wp (f_X10_clearDraft u) (fun q => FrP u q.2 ∧ (∀ d, d ≠ 42 → q.2 d = u d) ∧ DRn q.2 (dN 0)) := by
  unfold f_X10_clearDraft
  iterate 15 refine wp_e (edraft (by decide)) ?_
  refine wp_s ⟨⟨fun d a b => ?_, fun j hj => ?_, fun j hj => ?_, fun d a b j hj => ?_⟩, fun d hd => ?_, fun q q0 q1 => ?_⟩
  · show up (up (up (up (up (up (up (up (up (up (up (up (up (up (up u 42 (15 + 0) 0) 42 (15 + 1) 0) 42 (15 + 2) 0) 42 (15 + 3) 0) 42 (15 + 4) 5) 42 (15 + 5) 5) 42 (15 + 6) 20) 42 (15 + 7) 60) 42 (15 + 8) 3) 42 (15 + 9) 12) 42 (15 + 10) 300) 42 (15 + 11) 150) 42 (15 + 12) 3) 42 (15 + 13) 2) 42 (15 + 14) 1 d = u d
    iterate 15 rw [up_c (by omega)]
  · show up (up (up (up (up (up (up (up (up (up (up (up (up (up (up u 42 (15 + 0) 0) 42 (15 + 1) 0) 42 (15 + 2) 0) 42 (15 + 3) 0) 42 (15 + 4) 5) 42 (15 + 5) 5) 42 (15 + 6) 20) 42 (15 + 7) 60) 42 (15 + 8) 3) 42 (15 + 9) 12) 42 (15 + 10) 300) 42 (15 + 11) 150) 42 (15 + 12) 3) 42 (15 + 13) 2) 42 (15 + 14) 1 40 j = u 40 j
    iterate 15 rw [up_k (by decide)]
  · show up (up (up (up (up (up (up (up (up (up (up (up (up (up (up u 42 (15 + 0) 0) 42 (15 + 1) 0) 42 (15 + 2) 0) 42 (15 + 3) 0) 42 (15 + 4) 5) 42 (15 + 5) 5) 42 (15 + 6) 20) 42 (15 + 7) 60) 42 (15 + 8) 3) 42 (15 + 9) 12) 42 (15 + 10) 300) 42 (15 + 11) 150) 42 (15 + 12) 3) 42 (15 + 13) 2) 42 (15 + 14) 1 42 j = u 42 j
    iterate 15 rw [up_j (by omega)]
  · show up (up (up (up (up (up (up (up (up (up (up (up (up (up (up u 42 (15 + 0) 0) 42 (15 + 1) 0) 42 (15 + 2) 0) 42 (15 + 3) 0) 42 (15 + 4) 5) 42 (15 + 5) 5) 42 (15 + 6) 20) 42 (15 + 7) 60) 42 (15 + 8) 3) 42 (15 + 9) 12) 42 (15 + 10) 300) 42 (15 + 11) 150) 42 (15 + 12) 3) 42 (15 + 13) 2) 42 (15 + 14) 1 d j = u d j
    iterate 15 rw [up_k (by omega)]
  · show up (up (up (up (up (up (up (up (up (up (up (up (up (up (up u 42 (15 + 0) 0) 42 (15 + 1) 0) 42 (15 + 2) 0) 42 (15 + 3) 0) 42 (15 + 4) 5) 42 (15 + 5) 5) 42 (15 + 6) 20) 42 (15 + 7) 60) 42 (15 + 8) 3) 42 (15 + 9) 12) 42 (15 + 10) 300) 42 (15 + 11) 150) 42 (15 + 12) 3) 42 (15 + 13) 2) 42 (15 + 14) 1 d = u d
    iterate 15 rw [up_c hd]
  · rcases i15 ⟨q0, q1⟩ with rfl | rfl | rfl | rfl | rfl | rfl | rfl | rfl | rfl | rfl | rfl | rfl | rfl | rfl | rfl <;> rfl
end WP2
