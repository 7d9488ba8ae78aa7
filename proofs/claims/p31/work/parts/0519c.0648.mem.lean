/-! pure part, 18: undo and snapshots, on both sides -/
def HC (N u : uS) (U : Int → uS) (c : Int) : Prop := (0 ≤ u 33 3 ∧ u 33 3 < 10) ∧ u 33 4 = c ∧ ∀ j, 0 ≤ j → j < c → CS N u (84 + 15 * ((u 33 3 + 10 - c + j) % 10).toNat) (U j)
def HM (u : uS) (U : Int → uS) (c : Int) : Prop := u 40 22 = c ∧ ∀ j, 0 ≤ j → j < c → MSo u 51 (1167 * j) (U j)
def HW (N : uS) (U : Int → uS) (c : Int) : Prop := (0 ≤ c ∧ c ≤ 10) ∧ ∀ j, 0 ≤ j → j < c → WFc N (U j)
def SC (N u : uS) (S : Int → uS) (f : Int → Int) : Prop := ∀ s, 0 ≤ s → s < 2 → u 36 s = f s ∧ (f s = 1 → CS N u (234 + 15 * s.toNat) (S s))
def SM (u : uS) (S : Int → uS) (f : Int → Int) : Prop := ∀ s, 0 ≤ s → s < 2 → u 53 s = f s ∧ (f s = 1 → MSo u 52 (1167 * s) (S s))
def SW (N : uS) (S : Int → uS) (f : Int → Int) : Prop := ∀ s, 0 ≤ s → s < 2 → (f s = 0 ∨ f s = 1) ∧ (f s = 1 → WFc N (S s))
/-- one value more -/
def psh (U : Int → uS) (c : Int) (V : uS) : Int → uS := fun j => if c < 10 then (if j = c then V else U j) else (if j = 9 then V else U (j + 1))
def pshc (c : Int) : Int := if c < 10 then c + 1 else 10
theorem hw_psh {N V : uS} {U : Int → uS} {c : Int} (h : HW N U c) (hV : WFc N V) : HW N (psh U c V) (pshc c) := by
  obtain ⟨hc, h⟩ := h
  unfold psh pshc
  by_cases h1 : c < 10
  · rw [if_pos h1]
    refine ⟨by omega, fun j j0 j1 => ?_⟩
    show WFc N (if c < 10 then (if j = c then V else U j) else (if j = 9 then V else U (j + 1)))
    rw [if_pos h1]
    by_cases h2 : j = c
    · rw [if_pos h2]; exact hV
    · rw [if_neg h2]; exact h j j0 (by omega)
  · rw [if_neg h1]
    refine ⟨by omega, fun j j0 j1 => ?_⟩
    show WFc N (if c < 10 then (if j = c then V else U j) else (if j = 9 then V else U (j + 1)))
    rw [if_neg h1]
    by_cases h2 : j = 9
    · rw [if_pos h2]; exact hV
    · rw [if_neg h2]; exact h (j + 1) (by omega) (by omega)
theorem sit_row (j : Nat) (h : j < 14) : 54 + 15 * j < NN ∧ sT (54 + 15 * j) = 11 := by
  have h2 : ∀ j, j < 14 → 54 + 15 * j < NN ∧ sT (54 + 15 * j) = 11 := by decide +kernel
  exact h2 j h
section MM
variable {u N V : uS} {U S : Int → uS} {f : Int → Int} {c : Int}
theorem HC.row {u' : uS} (h : HC N u U c) (h3 : u' 33 = u 33) (hr : ∀ d, 84 ≤ d → d < 234 → u' d = u d) : HC N u' U c := by
  obtain ⟨h1, h2, h4⟩ := h
  unfold HC
  rw [h3]
  refine ⟨h1, h2, fun j j0 j1 => (h4 j j0 j1).row (fun i hi => hr _ (by omega) (by omega))⟩
theorem SC.row {u' : uS} (h : SC N u S f) (h3 : u' 36 = u 36) (hr : ∀ d, 234 ≤ d → d < 264 → u' d = u d) : SC N u' S f := fun s s0 s1 => by
  rw [h3]
  exact ⟨(h s s0 s1).1, fun hf => ((h s s0 s1).2 hf).row (fun i hi => hr _ (by omega) (by omega))⟩
theorem HM.row {u' : uS} (h : HM u U c) (h3 : u' 40 22 = u 40 22) (hr : u' 51 = u 51) : HM u' U c := by
  unfold HM
  rw [h3]
  exact ⟨h.1, fun j j0 j1 => (h.2 j j0 j1).row hr⟩
theorem SM.row {u' : uS} (h : SM u S f) (h3 : u' 53 = u 53) (hr : u' 52 = u 52) : SM u' S f := fun s s0 s1 => by
  rw [h3]
  exact ⟨(h s s0 s1).1, fun hf => ((h s s0 s1).2 hf).row hr⟩
theorem cremember (hN : NWF N) (hV : WFc N V) (hm : CS N u 54 V) (hh : HC N u U c) (hc : 0 ≤ c ∧ c ≤ 10) :
    wp (f_X4_remember 54 u) (fun q => (∀ d, d ≠ 33 → (d < 84 ∨ 234 ≤ d) → q.2 d = u d) ∧ HC N q.2 (psh U c V) (pshc c)) := by
  obtain ⟨h1, h2, h4⟩ := hh
  have hrow : 84 + 15 * (u 33 3).toNat < NN ∧ sT (84 + 15 * (u 33 3).toNat) = 11 := by
    have := sit_row ((u 33 3).toNat + 2) (by omega)
    rw [show 54 + 15 * ((u 33 3).toNat + 2) = 84 + 15 * (u 33 3).toNat by omega] at this
    exact this
  unfold f_X4_remember
  refine wp_g hm.1 ?_
  refine wp_g (by omega) ?_
  refine wp_L ?_
  refine wp_g hrow ?_
  refine wp_b (ccopyFrom hV.1 hN hrow hm (by omega)) (fun r w h => ?_)
  obtain ⟨hw, hC⟩ := h
  have hw : ∀ d, (d < 84 + 15 * (u 33 3).toNat ∨ 84 + 15 * (u 33 3).toNat + 15 ≤ d) → w d = u d := hw
  have hC : CS N w (84 + 15 * (u 33 3).toNat) V := hC
  have w33 : w 33 = u 33 := hw 33 (by omega)
  rw [w33]
  have et : (u 33 3 + 1).tmod 10 = (u 33 3 + 1) % 10 := tmd (by omega) 10
  refine wp_g (by omega) ?_
  refine wp_l (fun w1 g1 => ?_)
  rw [et] at g1
  have z4 : w1 33 4 = c := by rw [g1]; exact (up_j (by decide)).trans (by rw [w33]; exact h2)
  have z3 : w1 33 3 = (u 33 3 + 1) % 10 := by rw [g1]; exact up_s _ _ _ _
  rw [z4]
  refine wp_g (by omega) ?_
  refine wp_l (fun w2 g2 => wp_s ⟨fun d d0 d1 => ?_, ?_, ?_, fun j j0 j1 => ?_⟩)
  · show w2 d = u d
    rw [g2, up_c d0, g1, up_c d0]; exact hw d (by omega)
  · show 0 ≤ w2 33 3 ∧ w2 33 3 < 10
    rw [g2, up_j (by decide), z3]; omega
  · show w2 33 4 = pshc c
    rw [g2, up_s]
    unfold minI pshc
    split <;> split <;> omega
  · show CS N w2 (84 + 15 * ((w2 33 3 + 10 - pshc c + j) % 10).toNat) (psh U c V j)
    have e3 : w2 33 3 = (u 33 3 + 1) % 10 := by rw [g2, up_j (by decide), z3]
    rw [e3]
    have rowW : ∀ k X, 54 ≤ k → k + 15 ≤ 264 → CS N w k X → CS N w2 k X := fun k X k0 k1 h => h.row (fun i hi => by rw [g2, up_c (by omega), g1, up_c (by omega)])
    have old : ∀ i, 0 ≤ i → i < c → ((u 33 3 + 10 - c + i) % 10).toNat ≠ (u 33 3).toNat → CS N w2 (84 + 15 * ((u 33 3 + 10 - c + i) % 10).toNat) (U i) := fun i i0 i1 hne =>
      rowW _ _ (by omega) (by omega) ((h4 i i0 i1).row (fun d hd => hw _ (by omega)))
    have new : CS N w2 (84 + 15 * (u 33 3).toNat) V := rowW _ _ (by omega) (by omega) hC
    unfold psh
    by_cases h10 : c < 10
    · have ep : pshc c = c + 1 := if_pos h10
      rw [ep] at j1 ⊢
      rw [if_pos h10]
      have em : ((u 33 3 + 1) % 10 + 10 - (c + 1) + j) % 10 = (u 33 3 + 10 - c + j) % 10 := by omega
      rw [em]
      by_cases hj : j = c
      · rw [if_pos hj, show (u 33 3 + 10 - c + j) % 10 = u 33 3 by omega]
        exact new
      · rw [if_neg hj]
        exact old j j0 (by omega) (by omega)
    · have ep : pshc c = 10 := if_neg h10
      rw [ep] at j1 ⊢
      rw [if_neg h10]
      by_cases hj : j = 9
      · rw [if_pos hj, show ((u 33 3 + 1) % 10 + 10 - 10 + j) % 10 = u 33 3 by omega]
        exact new
      · rw [if_neg hj]
        have := old (j + 1) (by omega) (by omega) (by omega)
        rw [show ((u 33 3 + 1) % 10 + 10 - 10 + j) % 10 = (u 33 3 + 10 - c + (j + 1)) % 10 by omega]
        exact this
theorem cforget (hh : HC N u U c) : wp (f_X4_forget u) (fun q => (∀ d, d ≠ 33 → d ≠ 36 → q.2 d = u d) ∧ HC N q.2 U 0 ∧ ∀ s, 0 ≤ s → s < 2 → q.2 36 s = 0) := by
  unfold f_X4_forget
  refine wp_l (fun w1 g1 => ?_)
  refine wl2 (fun i v => (∀ d, d ≠ 33 → d ≠ 36 → v d = u d) ∧ HC N v U 0 ∧ (0 ≤ i ∧ i ≤ 2) ∧ ∀ s, 0 ≤ s → s < i → v 36 s = 0) (fun i _ => (2 - i).toNat) (fun go i v hI hg => ?_) FU _ _ ⟨fun d h _ => by rw [g1]; exact up_c h, ⟨?_, ?_, fun j j0 j1 => by omega⟩, by omega, fun s s0 s1 => by omega⟩ (FU_l (by omega))
  · obtain ⟨hf, hH, hi, hz⟩ := hI
    unfold s_X4_forget_7
    refine wp_g (by omega) ?_
    refine wp_i (fun cc => ?_) (fun cc => ?_)
    · exact wp_s ⟨hf, hH, fun s s0 s1 => hz s s0 (by omega)⟩
    · repeat (first | (with_reducible refine wp_L ?_) | (with_reducible refine wp_g ?_ ?_; · omega) | (with_reducible refine wp_f ?_ ?_; · omega) | (with_reducible refine wp_t ?_ ?_; · omega))
      refine hg _ _ ⟨fun d d0 d1 => (up_c d1).trans (hf d d0 d1), ⟨?_, ?_, fun j j0 j1 => by omega⟩, by omega, fun s s0 s1 => ?_⟩ (by omega)
      · rw [up_k (by decide)]; exact hH.1
      · rw [up_k (by decide)]; exact hH.2.1
      · by_cases hs : s = i
        · subst hs; exact up_s _ _ _ _
        · rw [up_j hs]; exact hz s s0 (by omega)
  · rw [g1, up_j (by decide)]; exact hh.1
  · rw [g1, up_s]
theorem MSo.o41 (h : MS u V) : MSo u 41 0 V := fun j s hv => by
  show u 41 (0 + ix j s) = _
  rw [Int.zero_add]; exact h j s hv
theorem MSo.to41 (h : MSo u 41 0 V) : MS u V := fun j s hv => by
  have := h j s hv
  show u 41 (ix j s) = _
  have e : u 41 (0 + ix j s) = V j s := this
  rwa [Int.zero_add] at e
end MM
