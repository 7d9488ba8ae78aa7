/-! pure part, 18: undo and snapshots, on both sides -/
def HC (N u : uS) (U : Int → uS) (c : Int) : Prop := (0 ≤ u 33 3 ∧ u 33 3 < 10) ∧ u 33 4 = c ∧ ∀ j, 0 ≤ j → j < c → CS N u (84 + 15 * ((u 33 3 + 10 - c + j) % 10).toNat) (U j)
def HM (u : uS) (U : Int → uS) (c : Int) : Prop := u 40 22 = c ∧ ∀ j, 0 ≤ j → j < c → MSo u 51 (1167 * j) (U j)
def HW (N : uS) (U : Int → uS) (c : Int) : Prop := (0 ≤ c ∧ c ≤ 10) ∧ ∀ j, 0 ≤ j → j < c → WFc N (U j)
def SC (N u : uS) (S : Int → uS) (f : Int → Int) : Prop := ∀ s, 0 ≤ s → s < 2 → u 36 s = f s ∧ (f s = 1 → CS N u (234 + 15 * s.toNat) (S s))
def SM (u : uS) (S : Int → uS) (f : Int → Int) : Prop := ∀ s, 0 ≤ s → s < 2 → u 53 s = f s ∧ (f s = 1 → MSo u 52 (1167 * s) (S s))
def SW (N : uS) (S : Int → uS) (f : Int → Int) : Prop := ∀ s, 0 ≤ s → s < 2 → (f s = 0 ∨ f s = 1) ∧ (f s = 1 → WFc N (S s))
/-- one value more -/
def psh (U : Int → uS) (c : Int) (V : uS) : Int → uS := fun j => if c < 10 then (if j = c then V else U j) else (if j = 9 then V else U (j + 1))
def pshc (c : Int) : Int := if c < 10 then c + 1 else 10
theorem hw_psh {N V : uS} {U : Int → uS} {c : Int} (h : HW N U c) (hV : WFc N V) : HW N (psh U c V) (pshc c) := by
  obtain ⟨hc, h⟩ := h
  unfold psh pshc
  by_cases h1 : c < 10
  · rw [if_pos h1]
    refine ⟨by omega, fun j j0 j1 => ?_⟩
    show WFc N (if c < 10 then (if j = c then V else U j) else (if j = 9 then V else U (j + 1)))
    rw [if_pos h1]
    by_cases h2 : j = c
    · rw [if_pos h2]; exact hV
    · rw [if_neg h2]; exact h j j0 (by omega)
  · rw [if_neg h1]
    refine ⟨by omega, fun j j0 j1 => ?_⟩
    show WFc N (if c < 10 then (if j = c then V else U j) else (if j = 9 then V else U (j + 1)))
    rw [if_neg h1]
    by_cases h2 : j = 9
    · rw [if_pos h2]; exact hV
    · rw [if_neg h2]; exact h (j + 1) (by omega) (by omega)
theorem sit_row (j : Nat) (h : j < 14) : 54 + 15 * j < NN ∧ sT (54 + 15 * j) = 11 := by
  have h2 : ∀ j, j < 14 → 54 + 15 * j < NN ∧ sT (54 + 15 * j) = 11 := by decide +kernel
  exact h2 j h
section MM
variable {u N V : uS} {U S : Int → uS} {f : Int → Int} {c : Int}
theorem HC.row {u' : uS} (h : HC N u U c) (h3 : u' 33 = u 33) (hr : ∀ d, 84 ≤ d → d < 234 → u' d = u d) : HC N u' U c := by
  obtain ⟨h1, h2, h4⟩ := h
  unfold HC
  rw [h3]
  refine ⟨h1, h2, fun j j0 j1 => (h4 j j0 j1).row (fun i hi => hr _ (by omega) (by omega))⟩
theorem SC.row {u' : uS} (h : SC N u S f) (h3 : u' 36 = u 36) (hr : ∀ d, 234 ≤ d → d < 264 → u' d = u d) : SC N u' S f := fun s s0 s1 => by
  rw [h3]
  exact ⟨(h s s0 s1).1, fun hf => ((h s s0 s1).2 hf).row (fun i hi => hr _ (by omega) (by omega))⟩
theorem HM.row {u' : uS} (h : HM u U c) (h3 : u' 40 22 = u 40 22) (hr : u' 51 = u 51) : HM u' U c := by
  unfold HM
  rw [h3]
  exact ⟨h.1, fun j j0 j1 => (h.2 j j0 j1).row hr⟩
theorem SM.row {u' : uS} (h : SM u S f) (h3 : u' 53 = u 53) (hr : u' 52 = u 52) : SM u' S f := fun s s0 s1 => by
  rw [h3]
  exact ⟨(h s s0 s1).1, fun hf => ((h s s0 s1).2 hf).row hr⟩
theorem cremember (hN : NWF N) (hV : WFc N V) (hm : CS N u 54 V) (hh : HC N u U c) (hc : 0 ≤ c ∧ c ≤ 10) :
    wp (f_X4_remember 54 u) (fun q => (∀ d, d ≠ 33 → (d < 84 ∨ 234 ≤ d) → q.2 d = u d) ∧ HC N q.2 (psh U c V) (pshc c)) := by
  obtain ⟨h1, h2, h4⟩ := hh
  have hrow : 84 + 15 * (u 33 3).toNat < NN ∧ sT (84 + 15 * (u 33 3).toNat) = 11 := by
    have := sit_row ((u 33 3).toNat + 2) (by omega)
    rw [show 54 + 15 * ((u 33 3).toNat + 2) = 84 + 15 * (u 33 3).toNat by omega] at this
    exact this
  unfold f_X4_remember
  refine wp_g hm.1 ?_
  refine wp_g (by omega) ?_
  refine wp_L ?_
  refine wp_g hrow ?_
  refine wp_b (ccopyFrom hV.1 hN hrow hm (by omega)) (fun r w h => ?_)
  obtain ⟨hw, hC⟩ := h
  have hw : ∀ d, (d < 84 + 15 * (u 33 3).toNat ∨ 84 + 15 * (u 33 3).toNat + 15 ≤ d) → w d = u d := hw
  have hC : CS N w (84 + 15 * (u 33 3).toNat) V := hC
  have w33 : w 33 = u 33 := hw 33 (by omega)
  rw [w33]
  have et : (u 33 3 + 1).tmod 10 = (u 33 3 + 1) % 10 := tmd (by omega) 10
  refine wp_g (by omega) ?_
  refine wp_l (fun w1 g1 => ?_)
  rw [et] at g1
  have z4 : w1 33 4 = c := by rw [g1]; exact (up_j (by decide)).trans (by rw [w33]; exact h2)
  have z3 : w1 33 3 = (u 33 3 + 1) % 10 := by rw [g1]; exact up_s _ _ _ _
  rw [z4]
  refine wp_g (by omega) ?_
  refine wp_l (fun w2 g2 => wp_s ⟨fun d d0 d1 => ?_, ?_, ?_, fun j j0 j1 => ?_⟩)
  · show w2 d = u d
    rw [g2, up_c d0, g1, up_c d0]; exact hw d (by omega)
  · show 0 ≤ w2 33 3 ∧ w2 33 3 < 10
    rw [g2, up_j (by decide), z3]; omega
  · show w2 33 4 = pshc c
    rw [g2, up_s]
    unfold minI pshc
    split <;> split <;> omega
  · show CS N w2 (84 + 15 * ((w2 33 3 + 10 - pshc c + j) % 10).toNat) (psh U c V j)
    have e3 : w2 33 3 = (u 33 3 + 1) % 10 := by rw [g2, up_j (by decide), z3]
    rw [e3]
    have rowW : ∀ k X, 54 ≤ k → k + 15 ≤ 264 → CS N w k X → CS N w2 k X := fun k X k0 k1 h => h.row (fun i hi => by rw [g2, up_c (by omega), g1, up_c (by omega)])
    have old : ∀ i, 0 ≤ i → i < c → ((u 33 3 + 10 - c + i) % 10).toNat ≠ (u 33 3).toNat → CS N w2 (84 + 15 * ((u 33 3 + 10 - c + i) % 10).toNat) (U i) := fun i i0 i1 hne =>
      rowW _ _ (by omega) (by omega) ((h4 i i0 i1).row (fun d hd => hw _ (by omega)))
    have new : CS N w2 (84 + 15 * (u 33 3).toNat) V := rowW _ _ (by omega) (by omega) hC
    unfold psh
    by_cases h10 : c < 10
    · have ep : pshc c = c + 1 := if_pos h10
      rw [ep] at j1 ⊢
      rw [if_pos h10]
      have em : ((u 33 3 + 1) % 10 + 10 - (c + 1) + j) % 10 = (u 33 3 + 10 - c + j) % 10 := by omega
      rw [em]
      by_cases hj : j = c
      · rw [if_pos hj, show (u 33 3 + 10 - c + j) % 10 = u 33 3 by omega]
        exact new
      · rw [if_neg hj]
        exact old j j0 (by omega) (by omega)
    · have ep : pshc c = 10 := if_neg h10
      rw [ep] at j1 ⊢
      rw [if_neg h10]
      by_cases hj : j = 9
      · rw [if_pos hj, show ((u 33 3 + 1) % 10 + 10 - 10 + j) % 10 = u 33 3 by omega]
        exact new
      · rw [if_neg hj]
        have := old (j + 1) (by omega) (by omega) (by omega)
        rw [show ((u 33 3 + 1) % 10 + 10 - 10 + j) % 10 = (u 33 3 + 10 - c + (j + 1)) % 10 by omega]
        exact this
theorem ctakeBack (hN : NWF N) (hk : (54 : Nat) < NN ∧ sT 54 = 11) (hh : HC N u U c) (hc : HW N U c) :
    wp (f_X4_takeBack 54 u) (fun q => (c = 0 ∧ q = (-1, u)) ∨ (0 < c ∧ q.1 = c - 1 ∧ (∀ d, d ≠ 33 → (d < 54 ∨ 69 ≤ d) → q.2 d = u d) ∧ HC N q.2 U (c - 1) ∧ CS N q.2 54 (U (c - 1)))) := by
  obtain ⟨hc1, hcW⟩ := hc
  obtain ⟨h1, h2, h4⟩ := hh
  unfold f_X4_takeBack
  refine wp_g hk ?_
  rw [h2]
  refine wp_g (by omega) ?_
  refine wp_i (fun cc => ?_) (fun cc => ?_)
  · exact wp_s (Or.inl ⟨by omega, rfl⟩)
  · have et : (u 33 3 + 10 - 1).tmod 10 = (u 33 3 + 10 - 1) % 10 := tmd (by omega) 10
    refine wp_g (by omega) ?_
    refine wp_l (fun w1 g1 => ?_)
    rw [et] at g1
    have z4 : w1 33 4 = c := by rw [g1]; exact (up_j (by decide)).trans h2
    have z3 : w1 33 3 = (u 33 3 + 9) % 10 := by rw [g1, up_s]; omega
    rw [z4]
    refine wp_l (fun w2 g2 => ?_)
    have y3 : w2 33 3 = (u 33 3 + 9) % 10 := by rw [g2, up_j (by decide), z3]
    have y4 : w2 33 4 = c - 1 := by rw [g2, up_s]
    have yr : ∀ d, d ≠ 33 → w2 d = u d := fun d hd => by rw [g2, up_c hd, g1, up_c hd]
    rw [y3]
    refine wp_g (by omega) ?_
    refine wp_L ?_
    have hrow : 84 + 15 * ((u 33 3 + 9) % 10).toNat < NN ∧ sT (84 + 15 * ((u 33 3 + 9) % 10).toNat) = 11 := by
      have := sit_row (((u 33 3 + 9) % 10).toNat + 2) (by omega)
      rw [show 54 + 15 * (((u 33 3 + 9) % 10).toNat + 2) = 84 + 15 * ((u 33 3 + 9) % 10).toNat by omega] at this
      exact this
    refine wp_g hrow ?_
    have hU : CS N w2 (84 + 15 * ((u 33 3 + 9) % 10).toNat) (U (c - 1)) := by
      have := h4 (c - 1) (by omega) (by omega)
      rw [show (u 33 3 + 10 - c + (c - 1)) % 10 = (u 33 3 + 9) % 10 by omega] at this
      exact this.row (fun i hi => yr _ (by omega))
    refine wp_b (ccopyFrom (hcW (c - 1) (by omega) (by omega)).1 hN hk hU (by omega)) (fun r w h => ?_)
    obtain ⟨hw, hC⟩ := h
    have hw : ∀ d, (d < 54 ∨ 54 + 15 ≤ d) → w d = w2 d := hw
    have x33 : w 33 = w2 33 := hw 33 (by omega)
    refine wp_s (Or.inr ⟨by omega, ?_, fun d d0 d1 => (hw d (by omega)).trans (yr d d0), ⟨?_, ?_, fun j j0 j1 => ?_⟩, hC⟩)
    · show w 33 4 = _
      rw [x33, y4]
    · show 0 ≤ w 33 3 ∧ w 33 3 < 10
      rw [x33, y3]; omega
    · show w 33 4 = _
      rw [x33, y4]
    · show CS N w (84 + 15 * ((w 33 3 + 10 - (c - 1) + j) % 10).toNat) (U j)
      rw [x33, y3, show ((u 33 3 + 9) % 10 + 10 - (c - 1) + j) % 10 = (u 33 3 + 10 - c + j) % 10 by omega]
      exact (h4 j j0 (by omega)).row (fun i hi => (hw _ (by omega)).trans (yr _ (by omega)))
theorem cstore {s : Int} (hN : NWF N) (hV : WFc N V) (hm : CS N u 54 V) (hs : 0 ≤ s ∧ s < 2) (hS : SC N u S f) (hf : SW N S f) :
    wp (f_X4_store s 54 u) (fun q => q.1 = f s ∧ (∀ d, d ≠ 36 → (d < 234 ∨ 264 ≤ d) → q.2 d = u d) ∧ SC N q.2 (fun i => if i = s then V else S i) (fun i => if i = s then 1 else f i)) := by
  have hrow : 234 + 15 * s.toNat < NN ∧ sT (234 + 15 * s.toNat) = 11 := by
    have := sit_row (s.toNat + 12) (by omega)
    rw [show 54 + 15 * (s.toNat + 12) = 234 + 15 * s.toNat by omega] at this
    exact this
  unfold f_X4_store
  refine wp_g hm.1 ?_
  refine wp_g (by omega) ?_
  refine wp_l (fun x hx => ?_)
  rw [(hS s hs.1 hs.2).1] at hx
  refine wp_g (by omega) ?_
  refine wp_L ?_
  refine wp_g hrow ?_
  refine wp_b (ccopyFrom hV.1 hN hrow hm (by omega)) (fun r w h => ?_)
  obtain ⟨hw, hC⟩ := h
  have hw : ∀ d, (d < 234 + 15 * s.toNat ∨ 234 + 15 * s.toNat + 15 ≤ d) → w d = u d := hw
  refine wp_g (by omega) ?_
  refine wp_l (fun w2 g2 => ?_)
  refine wp_g (by rw [hx]; exact (hf s hs.1 hs.2).1) (wp_s ⟨hx, fun d d0 d1 => ?_, fun i i0 i1 => ⟨?_, fun h => ?_⟩⟩)
  · show w2 d = u d
    rw [g2, up_c d0]; exact hw d (by omega)
  · show w2 36 i = if i = s then 1 else f i
    rw [g2]
    by_cases hi : i = s
    · subst hi; rw [up_s, if_pos rfl]
    · rw [up_j hi, if_neg hi, hw 36 (by omega)]; exact (hS i i0 i1).1
  · show CS N w2 (234 + 15 * i.toNat) (if i = s then V else S i)
    by_cases hi : i = s
    · subst hi
      rw [if_pos rfl]
      exact hC.row (fun j hj => by rw [g2]; exact up_c (by omega))
    · rw [if_neg hi]
      have h2 : f i = 1 := by
        have : (if i = s then 1 else f i) = 1 := h
        rwa [if_neg hi] at this
      exact ((hS i i0 i1).2 h2).row (fun j hj => by rw [g2, up_c (by omega)]; exact hw _ (by omega))
theorem cfetch {s : Int} (hN : NWF N) (hk : (54 : Nat) < NN ∧ sT 54 = 11) (hs : 0 ≤ s ∧ s < 2) (hS : SC N u S f) (hf : SW N S f) (h1 : f s = 1) (hh : HC N u U c) :
    wp (f_X4_fetch s 54 u) (fun q => (∀ d, d ≠ 33 → (d < 54 ∨ 69 ≤ d) → q.2 d = u d) ∧ HC N q.2 U 0 ∧ CS N q.2 54 (S s)) := by
  have hrow : 234 + 15 * s.toNat < NN ∧ sT (234 + 15 * s.toNat) = 11 := by
    have := sit_row (s.toNat + 12) (by omega)
    rw [show 54 + 15 * (s.toNat + 12) = 234 + 15 * s.toNat by omega] at this
    exact this
  unfold f_X4_fetch
  refine wp_g hk ?_
  refine wp_g (by omega) ?_
  refine wp_L ?_
  refine wp_g hrow ?_
  refine wp_b (ccopyFrom ((hf s hs.1 hs.2).2 h1).1 hN hk ((hS s hs.1 hs.2).2 h1) (by omega)) (fun r w h => ?_)
  obtain ⟨hw, hC⟩ := h
  have hw : ∀ d, (d < 54 ∨ 54 + 15 ≤ d) → w d = u d := hw
  refine wp_L ?_
  refine wp_s ⟨fun d d0 d1 => (up_c d0).trans (hw d (by omega)), ⟨?_, (up_s w 33 4 0 : up w 33 4 0 33 4 = 0), fun j j0 j1 => by omega⟩, hC.row (fun j hj => up_c (by omega))⟩
  show 0 ≤ up w 33 4 0 33 3 ∧ up w 33 4 0 33 3 < 10
  rw [up_j (by decide), hw 33 (by omega)]; exact hh.1
theorem cforget (hh : HC N u U c) : wp (f_X4_forget u) (fun q => (∀ d, d ≠ 33 → d ≠ 36 → q.2 d = u d) ∧ HC N q.2 U 0 ∧ ∀ s, 0 ≤ s → s < 2 → q.2 36 s = 0) := by
  unfold f_X4_forget
  refine wp_l (fun w1 g1 => ?_)
  refine wl2 (fun i v => (∀ d, d ≠ 33 → d ≠ 36 → v d = u d) ∧ HC N v U 0 ∧ (0 ≤ i ∧ i ≤ 2) ∧ ∀ s, 0 ≤ s → s < i → v 36 s = 0) (fun i _ => (2 - i).toNat) (fun go i v hI hg => ?_) FU _ _ ⟨fun d h _ => by rw [g1]; exact up_c h, ⟨?_, ?_, fun j j0 j1 => by omega⟩, by omega, fun s s0 s1 => by omega⟩ (FU_l (by omega))
  · obtain ⟨hf, hH, hi, hz⟩ := hI
    unfold s_X4_forget_7
    refine wp_g (by omega) ?_
    refine wp_i (fun cc => ?_) (fun cc => ?_)
    · exact wp_s ⟨hf, hH, fun s s0 s1 => hz s s0 (by omega)⟩
    · repeat (first | (with_reducible refine wp_L ?_) | (with_reducible refine wp_g ?_ ?_; · omega) | (with_reducible refine wp_f ?_ ?_; · omega) | (with_reducible refine wp_t ?_ ?_; · omega))
      refine hg _ _ ⟨fun d d0 d1 => (up_c d1).trans (hf d d0 d1), ⟨?_, ?_, fun j j0 j1 => by omega⟩, by omega, fun s s0 s1 => ?_⟩ (by omega)
      · rw [up_k (by decide)]; exact hH.1
      · rw [up_k (by decide)]; exact hH.2.1
      · by_cases hs : s = i
        · subst hs; exact up_s _ _ _ _
        · rw [up_j hs]; exact hz s s0 (by omega)
  · rw [g1, up_j (by decide)]; exact hh.1
  · rw [g1, up_s]
/-! the reference's rows -/
theorem wcopies {a b : Nat} {i o n : Int} (ha : a < NN ∧ sT a = 100) (hb : b < NN ∧ sT b = 100) (hi : 0 ≤ i ∧ i + n ≤ (sN a : Int)) (ho : 0 ≤ o ∧ o + n ≤ (sN b : Int)) (hn : 0 ≤ n ∧ n < 15000) (hab : a ≠ b ∨ o ≤ i) :
    wp (f_X10_copies a i b o n u) (fun q => (∀ d, d ≠ b → q.2 d = u d) ∧ ∀ j, q.2 b j = if o ≤ j ∧ j < o + n then u a (i + (j - o)) else u b j) := by
  unfold f_X10_copies
  refine wp_g ⟨ha, hb⟩ ?_
  refine wl2 (fun k v => (∀ d, d ≠ b → v d = u d) ∧ (0 ≤ k ∧ k ≤ n) ∧ ∀ j, v b j = if o ≤ j ∧ j < o + k then u a (i + (j - o)) else u b j) (fun k _ => (n - k).toNat) (fun go k v hI hg => ?_) FU _ _ ⟨fun _ _ => rfl, by omega, fun j => by rw [if_neg (by omega)]⟩ (FU_l (by omega))
  obtain ⟨hf, hk, hv⟩ := hI
  unfold s_X10_copies_3
  refine wp_g (by omega) ?_
  refine wp_i (fun cc => ?_) (fun cc => ?_)
  · refine wp_s ⟨hf, fun j => ?_⟩
    show v b j = _
    rw [hv j, show k = n by omega]
  · repeat (first | (with_reducible refine wp_L ?_) | (with_reducible refine wp_g ?_ ?_; · omega) | (with_reducible refine wp_f ?_ ?_; · omega) | (with_reducible refine wp_t ?_ ?_; · omega))
    have er : v a (i + k) = u a (i + k) := by
      by_cases h : a = b
      · subst h
        rw [hv, if_neg (by rcases hab with h | h; exact absurd rfl h; omega)]
      · rw [hf a h]
    refine hg _ _ ⟨fun d hd => (up_c hd).trans (hf d hd), by omega, fun j => ?_⟩ (by omega)
    rw [er]
    by_cases hj : j = o + k
    · subst hj
      rw [up_s, if_pos ⟨by omega, by omega⟩, show i + (o + k - o) = i + k by omega]
    · rw [up_j hj, hv j]
      by_cases h : o ≤ j ∧ j < o + k
      · rw [if_pos h, if_pos ⟨h.1, by omega⟩]
      · rw [if_neg h, if_neg (by omega)]
theorem MSo.o41 (h : MS u V) : MSo u 41 0 V := fun j s hv => by
  show u 41 (0 + ix j s) = _
  rw [Int.zero_add]; exact h j s hv
theorem MSo.to41 (h : MSo u 41 0 V) : MS u V := fun j s hv => by
  have := h j s hv
  show u 41 (ix j s) = _
  have e : u 41 (0 + ix j s) = V j s := this
  rwa [Int.zero_add] at e
/-- a copy of a whole situation -/
theorem wcopyS {a b : Nat} {i o : Int} (hV : WFb N V) (ha : a < NN ∧ sT a = 100) (hb : b < NN ∧ sT b = 100) (hi : 0 ≤ i ∧ i + 1167 ≤ (sN a : Int)) (ho : 0 ≤ o ∧ o + 1167 ≤ (sN b : Int)) (hab : a ≠ b) (h : MSo u a i V) :
    wp (f_X10_copies a i b o 1167 u) (fun q => (∀ d, d ≠ b → q.2 d = u d) ∧ MSo q.2 b o V ∧ ∀ j, (j < o ∨ o + 1167 ≤ j) → q.2 b j = u b j) := by
  refine wp_2 (wcopies ha hb hi ho (by decide) (Or.inl hab)) (fun r w hw => ?_)
  obtain ⟨h1, h2⟩ := hw
  refine ⟨h1, fun j s hv => ?_, fun j hj => ?_⟩
  · have l := ix_lim (vd_lim hv hV.2.1.2 hV.2.2.1.2)
    show w b (o + ix j s) = V j s
    have e : w b (o + ix j s) = _ := h2 (o + ix j s)
    rw [e, if_pos ⟨by omega, by omega⟩, show i + (o + ix j s - o) = i + ix j s by omega]
    exact h j s hv
  · show w b j = u b j
    have e : w b j = _ := h2 j
    rw [e, if_neg (by omega)]
theorem wkeeps (hV : WFb N V) (hm : MS u V) (hh : HM u U c) (hU : HW N U c) :
    wp (f_X10_keeps u) (fun q => (∀ d, d ≠ 40 → d ≠ 51 → q.2 d = u d) ∧ (∀ j, j ≠ 22 → q.2 40 j = u 40 j) ∧ HM q.2 (psh U c V) (pshc c)) := by
  obtain ⟨hc, hW⟩ := hU
  obtain ⟨h22, hrow⟩ := hh
  have r41 : (41 : Nat) < NN ∧ sT 41 = 100 := by decide +kernel
  have r51 : (51 : Nat) < NN ∧ sT 51 = 100 := by decide +kernel
  have n41 : (sN 41 : Int) = 1167 := by decide +kernel
  have n51 : (sN 51 : Int) = 11670 := by decide +kernel
  -- the row is laid at place d of the history
  have lay : ∀ (w : uS) (d : Int), (0 ≤ d ∧ d < 10) → w 40 22 = d → (∀ e, e ≠ 40 → e ≠ 51 → w e = u e) → (∀ j, j ≠ 22 → w 40 j = u 40 j) → (∀ j, 0 ≤ j → j < d → MSo w 51 (1167 * j) (psh U c V j)) → psh U c V d = V → pshc c = d + 1 →
      wp (xbd (f_X10_copies 41 0 51 (1167 * w 40 22) 1167 w) fun _ u5 => xlet (up u5 40 22 (u5 40 22 + 1)) fun u6 => some ((0 : Int), u6)) (fun q => (∀ d, d ≠ 40 → d ≠ 51 → q.2 d = u d) ∧ (∀ j, j ≠ 22 → q.2 40 j = u 40 j) ∧ HM q.2 (psh U c V) (pshc c)) := by
    intro w d hd hw22 hw hw40 hl hpd hpc
    rw [hw22]
    have hmw : MS w V := hm.row (hw 41 (by decide) (by decide))
    refine wp_b (wcopyS hV r41 r51 (by omega) (by omega) (by decide) (MSo.o41 hmw)) (fun r w2 h => ?_)
    obtain ⟨a1, a2, a3⟩ := h
    have a1 : ∀ d, d ≠ 51 → w2 d = w d := a1
    have a3 : ∀ j, (j < 1167 * d ∨ 1167 * d + 1167 ≤ j) → w2 51 j = w 51 j := a3
    refine wp_L ?_
    have z : w2 40 22 = d := by rw [a1 40 (by decide)]; exact hw22
    rw [z]
    refine wp_s ⟨fun e e0 e1 => (up_c e0).trans ((a1 e e1).trans (hw e e0 e1)), fun j hj => (up_j hj).trans (by rw [a1 40 (by decide)]; exact hw40 j hj), ?_, fun j j0 j1 => ?_⟩
    · rw [hpc]; exact (up_s w2 40 22 (d + 1) : up w2 40 22 (d + 1) 40 22 = d + 1)
    · refine MSo.row (u := w2) ?_ (show up w2 40 22 (d + 1) 51 = w2 51 from up_c (by decide))
      rw [hpc] at j1
      by_cases hj : j = d
      · subst hj; rw [hpd]; exact a2
      · have wfj : WFb N (psh U c V j) := by
          unfold psh
          unfold psh at hpd
          unfold pshc at hpc
          by_cases h10 : c < 10
          · rw [if_pos h10] at hpc ⊢
            rw [if_neg (by omega)]; exact (hW j j0 (by omega)).1
          · rw [if_neg h10] at hpc ⊢
            rw [if_neg (by omega)]; exact (hW (j + 1) (by omega) (by omega)).1
        intro i s hv
        have l := ix_lim (vd_lim hv wfj.2.1.2 wfj.2.2.1.2)
        show w2 51 (1167 * j + ix i s) = _
        rw [a3 _ (by omega)]
        exact hl j j0 (by omega) i s hv
  unfold f_X10_keeps
  rw [h22]
  refine wp_g (by omega) ?_
  refine wp_L ?_
  refine wp_i (fun cc => ?_) (fun cc => ?_)
  · have hc10 : c = 10 := by assumption
    subst hc10
    refine wp_l (fun w1 g1 => ?_)
    have z : w1 40 22 = 9 := by rw [g1]; exact up_s u 40 22 _
    have y : ∀ d, d ≠ 40 → w1 d = u d := fun d hd => by rw [g1]; exact up_c hd
    have y40 : ∀ j, j ≠ 22 → w1 40 j = u 40 j := fun j hj => by rw [g1]; exact up_j hj
    rw [z]
    refine wp_b (wcopies (a := 51) (b := 51) (i := 1167) (o := 0) (n := 1167 * 9) r51 r51 (by omega) (by omega) (by omega) (Or.inr (by decide))) (fun r w2 h => ?_)
    obtain ⟨a1, a2⟩ := h
    have a1 : ∀ d, d ≠ 51 → w2 d = w1 d := a1
    refine lay w2 9 (by decide) (by rw [a1 40 (by decide)]; exact z) (fun e e0 e1 => (a1 e e1).trans (y e e0)) (fun j hj => by rw [a1 40 (by decide)]; exact y40 j hj) (fun j j0 j1 => ?_) (by unfold psh; rw [if_neg (by decide), if_pos rfl]) (by unfold pshc; rw [if_neg (by decide)]; rfl)
    have ep : psh U 10 V j = U (j + 1) := by
      unfold psh
      rw [if_neg (by decide), if_neg (by omega)]
    rw [ep]
    have wfj := hW (j + 1) (by omega) (by omega)
    intro i s hv
    have l := ix_lim (vd_lim hv wfj.1.2.1.2 wfj.1.2.2.1.2)
    show w2 51 (1167 * j + ix i s) = _
    have e : w2 51 (1167 * j + ix i s) = _ := a2 (1167 * j + ix i s)
    rw [e, if_pos ⟨by omega, by omega⟩, y 51 (by decide), show 1167 + (1167 * j + ix i s - 0) = 1167 * (j + 1) + ix i s by omega]
    exact hrow (j + 1) (by omega) (by omega) i s hv
  · refine lay u c (by omega) h22 (fun _ _ _ => rfl) (fun _ _ => rfl) (fun j j0 j1 => ?_) (by unfold psh; rw [if_pos (by omega), if_pos rfl]) (by unfold pshc; rw [if_pos (by omega)])
    have ep : psh U c V j = U j := by
      unfold psh
      rw [if_pos (by omega), if_neg (by omega)]
    rw [ep]
    exact hrow j j0 j1
/-- a row of the history becomes the present -/
theorem wback {d : Int} (hh : ∀ j, 0 ≤ j → j < c → MSo u 51 (1167 * j) (U j)) (hU : HW N U c) (hd : 0 ≤ d ∧ d < c) :
    wp (f_X10_copies 51 (1167 * d) 41 0 1167 u) (fun q => (∀ e, e ≠ 41 → q.2 e = u e) ∧ MS q.2 (U d)) := by
  obtain ⟨hc, hW⟩ := hU
  have r41 : (41 : Nat) < NN ∧ sT 41 = 100 := by decide +kernel
  have r51 : (51 : Nat) < NN ∧ sT 51 = 100 := by decide +kernel
  have n41 : (sN 41 : Int) = 1167 := by decide +kernel
  have n51 : (sN 51 : Int) = 11670 := by decide +kernel
  refine wp_2 (wcopyS (hW d hd.1 hd.2).1 r51 r41 (by omega) (by omega) (by decide) (hh d hd.1 hd.2)) (fun r w h => ⟨h.1, MSo.to41 h.2.1⟩)
/-- the present is kept aside, and taken back -/
theorem waside (hV : WFb N V) (hm : MS u V) : wp (f_X10_copies 41 0 50 0 1167 u) (fun q => (∀ e, e ≠ 50 → q.2 e = u e) ∧ MSo q.2 50 0 V) := by
  have r41 : (41 : Nat) < NN ∧ sT 41 = 100 := by decide +kernel
  have r50 : (50 : Nat) < NN ∧ sT 50 = 100 := by decide +kernel
  have n41 : (sN 41 : Int) = 1167 := by decide +kernel
  have n50 : (sN 50 : Int) = 1167 := by decide +kernel
  refine wp_2 (wcopyS hV r41 r50 (by omega) (by omega) (by decide) (MSo.o41 hm)) (fun r w h => ⟨h.1, h.2.1⟩)
theorem wagain (hV : WFb N V) (hm : MSo u 50 0 V) : wp (f_X10_copies 50 0 41 0 1167 u) (fun q => (∀ e, e ≠ 41 → q.2 e = u e) ∧ MS q.2 V) := by
  have r41 : (41 : Nat) < NN ∧ sT 41 = 100 := by decide +kernel
  have r50 : (50 : Nat) < NN ∧ sT 50 = 100 := by decide +kernel
  have n41 : (sN 41 : Int) = 1167 := by decide +kernel
  have n50 : (sN 50 : Int) = 1167 := by decide +kernel
  refine wp_2 (wcopyS hV r50 r41 (by omega) (by omega) (by decide) hm) (fun r w h => ⟨h.1, MSo.to41 h.2.1⟩)
end MM
