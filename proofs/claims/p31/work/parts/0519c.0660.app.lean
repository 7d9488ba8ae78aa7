/-! pure part, 30: bytes, on both sides -/
/-- the buffer with k of a word's bytes behind its first l -/
def wbk (B : Int → Int) (l a : Int) : Nat → Int → Int
  | 0 => B
  | k + 1 => fun j => if j = l + k then shrI a (24 - 8 * k) % 256 else wbk B l a k j
theorem wbk_b {B : Int → Int} {l a : Int} : ∀ {k : Nat}, (∀ j, 0 ≤ j → j < l → 0 ≤ B j ∧ B j < 256) → ∀ j, 0 ≤ j → j < l + k → 0 ≤ wbk B l a k j ∧ wbk B l a k j < 256 := by
  intro k
  induction k with
  | zero => intro h j j0 j1; exact h j j0 (by omega)
  | succ k ih =>
    intro h j j0 j1
    show 0 ≤ (if j = l + k then shrI a (24 - 8 * k) % 256 else wbk B l a k j) ∧ (if j = l + k then shrI a (24 - 8 * k) % 256 else wbk B l a k j) < 256
    split
    · omega
    · exact ih h j j0 (by omega)
/-- five words -/
def wb5 (B : Int → Int) (l x1 x2 x3 x4 x5 : Int) : Int → Int := wbk (wbk (wbk (wbk (wbk B l x1 4) (l + 4) x2 4) (l + 8) x3 4) (l + 12) x4 4) (l + 16) x5 4
section AP
variable {u N V : uS} {U S : Int → uS} {f : Int → Int} {c L E : Int} {B : Int → Int} {D : List Int}
theorem CI.buf {w : uS} {L2 : Int} {B2 : Int → Int} (h : CI N V U S f c L E B D u) (hw : ∀ d, d ≠ 0 → d ≠ 1 → w d = u d) (h0 : ∀ j, j ≠ 1 → w 0 j = u 0 j) (h1 : w 0 1 = L2) (h2 : ∀ j, 0 ≤ j → j < L2 → w 1 j = B2 j) : CI N V U S f c L2 E B2 D w := by
  obtain ⟨a1, a2, a3, a4, a5, a6, a7, a8⟩ := h
  have n1 := net_at a2.1
  unfold CI
  rw [h0 4 (by decide), h0 5 (by decide)]
  refine ⟨a1, a2.row (fun j hj => hw _ (by omega) (by omega)), a3.row (fun j hj => hw _ (by omega) (by omega)), a4.row (hw _ (by omega) (by omega)) (fun d d0 d1 => hw _ (by omega) (by omega)), a5.row (hw _ (by omega) (by omega)) (fun d d0 d1 => hw _ (by omega) (by omega)), ⟨h1, by rw [h0 2 (by decide)]; exact a6.2⟩, h2, ?_⟩
  exact rfl
theorem cword {a : Int} (hC : CI N V U S f c L E B D u) (hL : 0 ≤ L ∧ L + 4 ≤ 500) (ha : InR a) : wp (f_X9_appendWord a u) (fun q => FC u q.2 ∧ CI N V U S f c (L + 4) E (wbk B L a 4) D q.2) := by
  unfold f_X9_appendWord
  refine wl2 (fun s v => ∃ k : Nat, k ≤ 4 ∧ s = 24 - 8 * (k : Int) ∧ FC u v ∧ CI N V U S f c (L + k) E (wbk B L a k) D v) (fun s _ => (s + 8).toNat) (fun go s v hI hg => ?_) FU _ _ ⟨0, by decide, by decide, fun _ _ _ => rfl, by rw [show L + ((0 : Nat) : Int) = L by omega]; exact hC⟩ (FU_l (by decide))
  obtain ⟨k, hk, rfl, hF, hCv⟩ := hI
  have e1 : v 0 1 = L + k := hCv.2.2.2.2.2.1.1
  unfold s_X9_appendWord_3
  refine wp_g (by omega) ?_
  refine wp_i (fun cc => ?_) (fun cc => ?_)
  · have h4 : k = 4 := by omega
    subst h4
    exact wp_s ⟨hF, hCv⟩
  · repeat (first | (with_reducible refine wp_L ?_) | (with_reducible refine wp_g ?_ ?_; · omega) | (with_reducible refine wp_f ?_ ?_; · omega) | (with_reducible refine wp_t ?_ ?_; · omega))
    rw [e1]
    refine hg _ _ ⟨k + 1, by omega, by omega, fun d d0 d1 => (up_c (by omega)).trans ((up_c (by omega)).trans (hF d d0 d1)), ?_⟩ (by omega)
    refine hCv.buf (fun d d0 d1 => (up_c d0).trans (up_c d1)) (fun j hj => (up_j hj).trans (up_k (by decide))) ?_ (fun j j0 j1 => ?_)
    · rw [up_s, up_k (by decide), e1]; omega
    · rw [up_k (by decide)]
      show _ = if j = L + k then shrI a (24 - 8 * k) % 256 else wbk B L a k j
      by_cases hj : j = L + k
      · subst hj; rw [up_s, if_pos rfl]
      · rw [up_j hj, if_neg hj]
        exact hCv.2.2.2.2.2.2.1 j j0 (by omega)
theorem cAppend {x1 x2 x3 x4 x5 : Int} (hC : CI N V U S f c L E B D u) (hP : PW N V U S f c L E B D) (h1 : InR x1) (h2 : InR x2) (h3 : InR x3) (h4 : InR x4) (h5 : InR x5) (hL : L + 20 ≤ 500) : wp (f_X9_append x1 x2 x3 x4 x5 u) (fun q => q.1 = L + 20 ∧ FC u q.2 ∧ CI N V U S f c (L + 20) E (wb5 B L x1 x2 x3 x4 x5) D q.2) := by
  have l0 := hP.2.2.2.2.1
  have e1 : u 0 1 = L := hC.2.2.2.2.2.1.1
  unfold f_X9_append
  rw [e1]
  refine wp_g (by omega) ?_
  refine wp_t (by omega) ?_
  refine wp_b (cword hC (by omega) h1) (fun r v1 hv => ?_)
  obtain ⟨f1, c1⟩ := hv
  refine wp_b (cword c1 (by omega) h2) (fun r v2 hv => ?_)
  obtain ⟨f2, c2⟩ := hv
  refine wp_b (cword c2 (by omega) h3) (fun r v3 hv => ?_)
  obtain ⟨f3, c3⟩ := hv
  refine wp_b (cword c3 (by omega) h4) (fun r v4 hv => ?_)
  obtain ⟨f4, c4⟩ := hv
  refine wp_b (cword c4 (by omega) h5) (fun r v5 hv => ?_)
  obtain ⟨f5, c5⟩ := hv
  have f1 : FC u v1 := f1
  have f2 : FC v1 v2 := f2
  have f3 : FC v2 v3 := f3
  have f4 : FC v3 v4 := f4
  have f5 : FC v4 v5 := f5
  have c5 : CI N V U S f c (L + 4 + 4 + 4 + 4 + 4) E (wbk (wbk (wbk (wbk (wbk B L x1 4) (L + 4) x2 4) (L + 4 + 4) x3 4) (L + 4 + 4 + 4) x4 4) (L + 4 + 4 + 4 + 4) x5 4) D v5 := c5
  rw [show L + 4 + 4 + 4 + 4 + 4 = L + 20 by omega, show L + 4 + 4 + 4 + 4 = L + 16 by omega, show L + 4 + 4 + 4 = L + 12 by omega, show L + 4 + 4 = L + 8 by omega] at c5
  exact wp_s ⟨c5.2.2.2.2.2.1.1, fun d d0 d1 => (f5 d d0 d1).trans ((f4 d d0 d1).trans ((f3 d d0 d1).trans ((f2 d d0 d1).trans (f1 d d0 d1)))), c5⟩
theorem cAppendN {x1 x2 x3 x4 x5 : Int} (hC : CI N V U S f c L E B D u) (hP : PW N V U S f c L E B D) (hL : ¬ L + 20 ≤ 500) : f_X9_append x1 x2 x3 x4 x5 u = some (-1, u) := by
  have l0 := hP.2.2.2.2.1
  have e1 : u 0 1 = L := hC.2.2.2.2.2.1.1
  refine wp_eq ?_
  unfold f_X9_append
  rw [e1]
  refine wp_g (by omega) ?_
  refine wp_f (by omega) ?_
  exact wp_s rfl
end AP
