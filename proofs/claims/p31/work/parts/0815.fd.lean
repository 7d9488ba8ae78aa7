/-! the text is fed to the class -/
section FD0
variable {u N V : uS} {U S : Int → uS} {f : Int → Int} {c L E : Int} {B : Int → Int} {D : List Int}
def F01 (u w : uS) : Prop := ∀ d, d ≠ 0 → d ≠ 1 → w d = u d
theorem lword {a : Int} (hC : CI N V U S f c L E B D u) (hL : 0 ≤ L ∧ L + 4 ≤ 500) (ha : InR a) : wp (f_X9_appendWord a u) (fun q => F01 u q.2 ∧ CI N V U S f c (L + 4) E (wbk B L a 4) D q.2) := by
  unfold f_X9_appendWord
  refine wl2 (fun s v => ∃ k : Nat, k ≤ 4 ∧ s = 24 - 8 * (k : Int) ∧ F01 u v ∧ CI N V U S f c (L + k) E (wbk B L a k) D v) (fun s _ => (s + 8).toNat) (fun go s v hI hg => ?_) FU _ _ ⟨0, by decide, by decide, fun _ _ _ => rfl, by rw [show L + ((0 : Nat) : Int) = L by omega]; exact hC⟩ (FU_l (by omega))
  obtain ⟨k, hk, rfl, hF, hCv⟩ := hI
  have e1 : v 0 1 = L + k := hCv.2.2.2.2.2.1.1
  unfold s_X9_appendWord_3
  refine wp_g (by omega) ?_
  refine wp_i (fun cc => ?_) (fun cc => ?_)
  · have h4 : k = 4 := by omega
    subst h4
    exact wp_s ⟨hF, hCv⟩
  · repeat (first | (with_reducible refine wp_L ?_) | (with_reducible refine wp_g ?_ ?_; · omega) | (with_reducible refine wp_f ?_ ?_; · omega) | (with_reducible refine wp_t ?_ ?_; · omega))
    rw [e1]
    refine hg _ _ ⟨k + 1, by omega, by omega, fun d d0 d1 => (up_c (by omega)).trans ((up_c (by omega)).trans (hF d d0 d1)), ?_⟩ (by omega)
    refine hCv.buf (fun d d0 d1 => (up_c d0).trans (up_c d1)) (fun j hj => (up_j hj).trans (up_k (by decide))) ?_ (fun j j0 j1 => ?_)
    · rw [up_s, up_k (by decide), e1]; omega
    · rw [up_k (by decide)]
      show _ = if j = L + k then shrI a (24 - 8 * k) % 256 else wbk B L a k j
      by_cases hj : j = L + k
      · subst hj; rw [up_s, if_pos rfl]
      · rw [up_j hj, if_neg hj]
        exact hCv.2.2.2.2.2.2.1 j j0 (by omega)
theorem F01.tr {v w : uS} (h : F01 u v) (h2 : F01 v w) : F01 u w := fun d a b => (h2 d a b).trans (h d a b)
theorem lAppend {x1 x2 x3 x4 x5 : Int} (hC : CI N V U S f c L E B D u) (hL0 : 0 ≤ L) (h1 : InR x1) (h2 : InR x2) (h3 : InR x3) (h4 : InR x4) (h5 : InR x5) (hL : L + 20 ≤ 500) : wp (f_X9_append x1 x2 x3 x4 x5 u) (fun q => q.1 = L + 20 ∧ F01 u q.2 ∧ CI N V U S f c (L + 20) E (wb5 B L x1 x2 x3 x4 x5) D q.2) := by
  have e1 : u 0 1 = L := hC.2.2.2.2.2.1.1
  unfold f_X9_append
  rw [e1]
  refine wp_g (by omega) ?_
  refine wp_t (by omega) ?_
  refine wp_b (lword hC (by omega) h1) (fun r v1 hv => ?_)
  obtain ⟨f1, c1⟩ := hv
  refine wp_b (lword c1 (by omega) h2) (fun r v2 hv => ?_)
  obtain ⟨f2, c2⟩ := hv
  refine wp_b (lword c2 (by omega) h3) (fun r v3 hv => ?_)
  obtain ⟨f3, c3⟩ := hv
  refine wp_b (lword c3 (by omega) h4) (fun r v4 hv => ?_)
  obtain ⟨f4, c4⟩ := hv
  refine wp_b (lword c4 (by omega) h5) (fun r v5 hv => ?_)
  obtain ⟨f5, c5⟩ := hv
  have c5 : CI N V U S f c (L + 4 + 4 + 4 + 4 + 4) E (wbk (wbk (wbk (wbk (wbk B L x1 4) (L + 4) x2 4) (L + 4 + 4) x3 4) (L + 4 + 4 + 4) x4 4) (L + 4 + 4 + 4 + 4) x5 4) D v5 := c5
  rw [show L + 4 + 4 + 4 + 4 + 4 = L + 20 by omega, show L + 4 + 4 + 4 + 4 = L + 16 by omega, show L + 4 + 4 + 4 = L + 12 by omega, show L + 4 + 4 = L + 8 by omega] at c5
  exact wp_s ⟨c5.2.2.2.2.2.1.1, F01.tr f1 (F01.tr f2 (F01.tr f3 (F01.tr f4 f5))), c5⟩
theorem wbk_o {L a j : Int} (h : j < L ∨ L + 4 ≤ j) : wbk B L a 4 j = B j := by
  show (if j = L + ((3 : Nat) : Int) then _ else if j = L + ((2 : Nat) : Int) then _ else if j = L + ((1 : Nat) : Int) then _ else if j = L + ((0 : Nat) : Int) then _ else B j) = _
  rw [if_neg (by omega), if_neg (by omega), if_neg (by omega), if_neg (by omega)]
/-- four bytes of a word -/
def by4 (b0 b1 b2 b3 : Int) : Int := ((b0 * 256 + b1) * 256 + b2) * 256 + b3
theorem wbk_i {L b0 b1 b2 b3 i : Int} (h0 : 0 ≤ b0 ∧ b0 < 128) (h1 : 0 ≤ b1 ∧ b1 < 128) (h2 : 0 ≤ b2 ∧ b2 < 128) (h3 : 0 ≤ b3 ∧ b3 < 128) (h : 0 ≤ i ∧ i < 4) : wbk B L (by4 b0 b1 b2 b3) 4 (L + i) = if i = 0 then b0 else if i = 1 then b1 else if i = 2 then b2 else b3 := by
  show (if L + i = L + ((3 : Nat) : Int) then (by4 b0 b1 b2 b3) / 1 % 256 else if L + i = L + ((2 : Nat) : Int) then (by4 b0 b1 b2 b3) / 256 % 256 else if L + i = L + ((1 : Nat) : Int) then (by4 b0 b1 b2 b3) / 65536 % 256 else if L + i = L + ((0 : Nat) : Int) then (by4 b0 b1 b2 b3) / 16777216 % 256 else B (L + i)) = _
  unfold by4
  have hi : i = 0 ∨ i = 1 ∨ i = 2 ∨ i = 3 := by omega
  rcases hi with rfl | rfl | rfl | rfl
  · rw [if_neg (by omega), if_neg (by omega), if_neg (by omega), if_pos (by omega), if_pos rfl]; omega
  · rw [if_neg (by omega), if_neg (by omega), if_pos (by omega), if_neg (by decide), if_pos rfl]; omega
  · rw [if_neg (by omega), if_pos (by omega), if_neg (by decide), if_neg (by decide), if_pos rfl]; omega
  · rw [if_pos (by omega), if_neg (by decide), if_neg (by decide), if_neg (by decide)]; omega
/-- twenty bytes -/
def wf5 (g : Int → Int) (k : Int) : Int := by4 (g k) (g (k + 1)) (g (k + 2)) (g (k + 3))
theorem wbk_g {L k i : Int} {g : Int → Int} (hg : ∀ i, 0 ≤ g i ∧ g i < 128) (hk : k = L) (h : 0 ≤ i ∧ i < 4) : wbk B L (wf5 g k) 4 (L + i) = g (L + i) := by
  subst hk
  unfold wf5
  rw [wbk_i (hg _) (hg _) (hg _) (hg _) h]
  have hi : i = 0 ∨ i = 1 ∨ i = 2 ∨ i = 3 := by omega
  rcases hi with rfl | rfl | rfl | rfl
  · rw [if_pos rfl, Int.add_zero]
  · rw [if_neg (by decide), if_pos rfl]
  · rw [if_neg (by decide), if_neg (by decide), if_pos rfl]
  · rw [if_neg (by decide), if_neg (by decide), if_neg (by decide)]
theorem wb5_g {L j : Int} {g : Int → Int} (hg : ∀ i, 0 ≤ g i ∧ g i < 128) (h : L ≤ j ∧ j < L + 20) : wb5 B L (wf5 g L) (wf5 g (L + 4)) (wf5 g (L + 8)) (wf5 g (L + 12)) (wf5 g (L + 16)) j = g j := by
  unfold wb5
  by_cases c4 : L + 16 ≤ j
  · have e := wbk_g (B := wbk (wbk (wbk (wbk B L (wf5 g L) 4) (L + 4) (wf5 g (L + 4)) 4) (L + 8) (wf5 g (L + 8)) 4) (L + 12) (wf5 g (L + 12)) 4) (L := L + 16) (i := j - (L + 16)) hg rfl (by omega)
    rw [show L + 16 + (j - (L + 16)) = j by omega] at e
    exact e
  · rw [wbk_o (by omega)]
    by_cases c3 : L + 12 ≤ j
    · have e := wbk_g (B := wbk (wbk (wbk B L (wf5 g L) 4) (L + 4) (wf5 g (L + 4)) 4) (L + 8) (wf5 g (L + 8)) 4) (L := L + 12) (i := j - (L + 12)) hg rfl (by omega)
      rw [show L + 12 + (j - (L + 12)) = j by omega] at e
      exact e
    · rw [wbk_o (by omega)]
      by_cases c2 : L + 8 ≤ j
      · have e := wbk_g (B := wbk (wbk B L (wf5 g L) 4) (L + 4) (wf5 g (L + 4)) 4) (L := L + 8) (i := j - (L + 8)) hg rfl (by omega)
        rw [show L + 8 + (j - (L + 8)) = j by omega] at e
        exact e
      · rw [wbk_o (by omega)]
        by_cases c1 : L + 4 ≤ j
        · have e := wbk_g (B := wbk B L (wf5 g L) 4) (L := L + 4) (i := j - (L + 4)) hg rfl (by omega)
          rw [show L + 4 + (j - (L + 4)) = j by omega] at e
          exact e
        · rw [wbk_o (by omega)]
          have e := wbk_g (B := B) (L := L) (i := j - L) hg rfl (by omega)
          rw [show L + (j - L) = j by omega] at e
          exact e
theorem wb5_o {L j x1 x2 x3 x4 x5 : Int} (h : j < L) : wb5 B L x1 x2 x3 x4 x5 j = B j := by
  unfold wb5
  rw [wbk_o (by omega), wbk_o (by omega), wbk_o (by omega), wbk_o (by omega), wbk_o (by omega)]
theorem wf5_r {g : Int → Int} (hg : ∀ i, 0 ≤ g i ∧ g i < 128) (k : Int) : InR (wf5 g k) := by
  have h0 := hg k
  have h1 := hg (k + 1)
  have h2 := hg (k + 2)
  have h3 := hg (k + 3)
  unfold wf5 by4
  omega
theorem or_8 {a x : Int} (ha : 0 ≤ a ∧ a < 8388608) (hx : 0 ≤ x ∧ x < 256) : orI (shlI a 8) x = a * 256 + x := by
  have e : shlI a 8 = a * 256 := rfl
  rw [e, orI_nat (by omega) (by omega)]
  have h := Nat.shiftLeft_add_eq_or_of_lt (i := 8) (b := x.toNat) (by omega) a.toNat
  rw [Nat.shiftLeft_eq] at h
  rw [show (a * 256).toNat = a.toNat * 2 ^ 8 by omega, ← h]
  omega
/-- a word of which n bytes are there -/
def pv (g : Int → Int) (k n : Int) : Int := if n ≤ 0 then 0 else if n = 1 then g k else if n = 2 then g k * 256 + g (k + 1) else if n = 3 then (g k * 256 + g (k + 1)) * 256 + g (k + 2) else wf5 g k
theorem pv_s {g : Int → Int} {k n : Int} (hg : ∀ i, 0 ≤ g i ∧ g i < 128) (h : 0 ≤ n ∧ n < 4) : orI (shlI (pv g k n) 8) (g (k + n)) = pv g k (n + 1) := by
  have h0 := hg k
  have h1 := hg (k + 1)
  have h2 := hg (k + 2)
  have h3 := hg (k + 3)
  have hn : n = 0 ∨ n = 1 ∨ n = 2 ∨ n = 3 := by omega
  rcases hn with rfl | rfl | rfl | rfl
  · rw [show pv g k 0 = 0 from rfl, show pv g k (0 + 1) = g k from rfl, Int.add_zero, or_8 (by decide) (by omega)]; omega
  · rw [show pv g k 1 = g k from rfl, show pv g k (1 + 1) = g k * 256 + g (k + 1) from rfl, or_8 (by omega) (by omega)]
  · rw [show pv g k 2 = g k * 256 + g (k + 1) from rfl, show pv g k (2 + 1) = (g k * 256 + g (k + 1)) * 256 + g (k + 2) from rfl, or_8 (by omega) (by omega)]
  · rw [show pv g k 3 = (g k * 256 + g (k + 1)) * 256 + g (k + 2) from rfl, show pv g k (3 + 1) = wf5 g k from rfl, or_8 (by omega) (by omega)]
    rfl
theorem pv_4 {g : Int → Int} {k n : Int} (h : 4 ≤ n) : pv g k n = wf5 g k := by
  unfold pv
  rw [if_neg (by omega), if_neg (by omega), if_neg (by omega), if_neg (by omega)]
theorem pv_0 {g : Int → Int} {k n : Int} (h : n ≤ 0) : pv g k n = 0 := if_pos h
/-- the text, then blanks -/
def chT (T : List Int) (k : Int) : Int := if 0 ≤ k ∧ k < (T.length : Int) then T.getD k.toNat 0 else 32
theorem chT_b {T : List Int} (hA : AD T) (k : Int) : 0 ≤ chT T k ∧ chT T k < 128 := by
  unfold chT
  split
  · exact getD_b hA (by omega)
  · decide
theorem wfeeds {T : List Int} (hC : CI N V U S f c 0 E B D u) (ht : TXt u T) (hA : AD T) (hl : T.length ≤ 258) : wp (f_L_feeds u) (fun q => q.1 = 1 ∧ (∀ d, d ≠ 0 → d ≠ 1 → d ≠ 291 → q.2 d = u d) ∧ ∃ L2 B2, CI N V U S f c L2 E B2 D q.2 ∧ ((T.length : Int) ≤ L2 ∧ L2 ≤ 300) ∧ ∀ j, 0 ≤ j → j < L2 → B2 j = chT T j) := by
  unfold f_L_feeds
  refine wl3 (fun n k v => n = k ∧ (0 ≤ k ∧ k ≤ 280) ∧ (∀ d, d ≠ 0 → d ≠ 1 → d ≠ 291 → v d = u d) ∧ ∃ B2, CI N V U S f c k E B2 D v ∧ ∀ j, 0 ≤ j → j < k → B2 j = chT T j) (fun _ k _ => ((300 - k) / 20).toNat) (fun go n k v hI hg => ?_) 20 _ _ _ ⟨rfl, by decide, fun _ _ _ _ => rfl, B, hC, fun j j0 j1 => by omega⟩ (by omega)
  obtain ⟨rfl, hk, hf, B2, hCv, hB⟩ := hI
  have tv : TXt v T := by
    unfold TXt
    rw [hf 289 (by decide) (by decide) (by decide), hf 290 (by decide) (by decide) (by decide), hf 1000 (by decide) (by decide) (by decide)]
    exact ht
  have okv := tv.ok (by omega) hA
  unfold s_L_feeds_4
  refine wp_e (xgd_t ⟨tv.1, okv⟩) ?_
  rw [tv.2.1]
  refine wp_g (by omega) ?_
  refine wp_i (fun cc => ?_) (fun cc => ?_)
  · exact wp_s ⟨rfl, hf, n, B2, hCv, by omega, hB⟩
  · refine wp_g hCv.mk ?_
    refine wp_l (fun u11 h11 => ?_)
    refine wp_l (fun j13 h13 => ?_)
    refine wl2 (fun j x => (0 ≤ j ∧ j ≤ 20) ∧ (∀ d, d ≠ 291 → x d = v d) ∧ ∀ w, 0 ≤ w → w < 5 → x 291 w = pv (chT T) (n + 4 * w) (j - 4 * w)) (fun j _ => (20 - j).toNat) (fun go2 j x hI hg2 => ?_) FU _ _ ⟨by decide, fun d hd => by rw [h11, upA_c hd], fun w w0 w1 => by rw [h11, upA_s, pv_0 (by omega)]⟩ (FU_l (by omega))
    obtain ⟨hj, xf, hx⟩ := hI
    unfold s_L_feeds_20
    refine wp_g (by omega) ?_
    refine wp_i (fun cc => ?_) (fun cc => ?_)
    · have hj20 : j = 20 := by omega
      subst hj20
      have hcx : CI N V U S f c n E B2 D x := hCv.k (fun d hd => xf d (by omega))
      have w0 := hx 0 (by decide) (by decide)
      have w1 := hx 1 (by decide) (by decide)
      have w2 := hx 2 (by decide) (by decide)
      have w3 := hx 3 (by decide) (by decide)
      have w5 := hx 4 (by decide) (by decide)
      rw [pv_4 (by decide)] at w0 w1 w2 w3 w5
      rw [show n + 4 * 0 = n by omega] at w0
      rw [show n + 4 * 1 = n + 4 by omega] at w1
      rw [show n + 4 * 2 = n + 8 by omega] at w2
      rw [show n + 4 * 3 = n + 12 by omega] at w3
      rw [show n + 4 * 4 = n + 16 by omega] at w5
      have hch := chT_b hA
      rw [h13]
      refine wp_b (lAppend hcx (by omega) (by rw [w0]; exact wf5_r hch _) (by rw [w1]; exact wf5_r hch _) (by rw [w2]; exact wf5_r hch _) (by rw [w3]; exact wf5_r hch _) (by rw [w5]; exact wf5_r hch _) (by omega)) (fun r w hw => ?_)
      obtain ⟨r1, wf, wC⟩ := hw
      have r1 : r = n + 20 := r1
      subst r1
      refine wp_g (by omega) ?_
      refine wp_t rfl ?_
      refine hg _ _ _ ⟨rfl, by omega, fun d d0 d1 d2 => ?_, _, wC, fun i i0 i1 => ?_⟩ (by omega)
      · exact (wf d d0 d1).trans ((xf d d2).trans (hf d d0 d1 d2))
      · by_cases hi : i < n
        · rw [wb5_o hi]; exact hB i i0 hi
        · rw [w0, w1, w2, w3, w5]; exact wb5_g hch ⟨by omega, i1⟩
    · have e4 : Int.tdiv j 4 = j / 4 := Int.tdiv_eq_ediv_of_nonneg hj.1
      rw [e4]
      have tx : TXt x T := by
        unfold TXt
        rw [xf 289 (by decide), xf 290 (by decide), xf 1000 (by decide)]
        exact tv
      have okx := tx.ok (by omega) hA
      refine wp_g (by omega) ?_
      refine wp_g (by omega) ?_
      refine wp_g (by omega) ?_
      refine wp_e (xgd_t ⟨tx.1, okx⟩) ?_
      rw [tx.2.1]
      refine wp_g (by omega) ?_
      refine wp_l (fun j32 h32 => ?_)
      have J : ∀ z, z = chT T (n + j) → wp (j32 z x) (fun q => q.1 = 1 ∧ (∀ d, d ≠ 0 → d ≠ 1 → d ≠ 291 → q.2 d = u d) ∧ ∃ L2 B2, CI N V U S f c L2 E B2 D q.2 ∧ ((T.length : Int) ≤ L2 ∧ L2 ≤ 300) ∧ ∀ j, 0 ≤ j → j < L2 → B2 j = chT T j) := fun z hz => by
        rw [h32]
        refine wp_g (by omega) ?_
        refine wp_l (fun u37 h37 => ?_)
        refine hg2 _ _ ⟨by omega, fun d hd => by rw [h37, up_c hd]; exact xf d hd, fun w w0 w1 => ?_⟩ (by omega)
        by_cases hw : w = j / 4
        · subst hw
          have e := pv_s (g := chT T) (k := n + 4 * (j / 4)) (n := j - 4 * (j / 4)) (chT_b hA) (by omega)
          rw [show n + 4 * (j / 4) + (j - 4 * (j / 4)) = n + j by omega] at e
          rw [h37, up_s, hx (j / 4) w0 w1, hz, e, show j - 4 * (j / 4) + 1 = j + 1 - 4 * (j / 4) by omega]
        · rw [h37, up_j hw, hx w w0 w1]
          by_cases hlt : w < j / 4
          · rw [pv_4 (by omega), pv_4 (by omega)]
          · rw [pv_0 (by omega), pv_0 (by omega)]
      refine wp_i (fun cc => ?_) (fun cc => ?_)
      · refine J 32 ?_
        unfold chT
        rw [if_neg (by omega)]
      · have ee : f_dchr (n + j) x = some (x 290 (n + j), x) := xgd_t ⟨tx.1, okx, by omega, by rw [tx.2.1]; omega⟩
        refine wp_e ee ?_
        refine J _ ?_
        have := tx.2.2 (n + j).toNat (by omega)
        rw [show (((n + j).toNat : Nat) : Int) = n + j by omega] at this
        rw [this]
        unfold chT
        rw [if_pos ⟨by omega, by omega⟩]
end FD0
