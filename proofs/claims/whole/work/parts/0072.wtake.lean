/-! pure part, 42: the reference takes tokens -/
/-- what a parse of the reference leaves -/
def FrP (u w : uS) : Prop := (∀ c, c ≠ 40 → (c < 42 ∨ 46 < c) → w c = u c) ∧ (∀ j, (j < 10 ∨ 17 < j) → w 40 j = u 40 j) ∧ (∀ j, j < 15 → w 42 j = u 42 j) ∧ ∀ c, 43 ≤ c → c ≤ 46 → ∀ j, j < 8 → w c j = u c j
theorem FrP.rf {u : uS} : FrP u u := ⟨fun _ _ _ => rfl, fun _ _ => rfl, fun _ _ => rfl, fun _ _ _ _ _ => rfl⟩
theorem FrP.tr {u v w : uS} (h : FrP u v) (h2 : FrP v w) : FrP u w := ⟨fun c a b => (h2.1 c a b).trans (h.1 c a b), fun j a => (h2.2.1 j a).trans (h.2.1 j a), fun j a => (h2.2.2.1 j a).trans (h.2.2.1 j a), fun c a b j d => (h2.2.2.2 c a b j d).trans (h.2.2.2 c a b j d)⟩
theorem FrA.p {u w : uS} (h : FrA u w) : FrP u w := ⟨fun c a _ => h.1 c a, fun j a => h.2 j (by omega) (by omega) (by omega) (by omega), fun j _ => by rw [h.1 42 (by decide)], fun c _ _ j _ => by rw [h.1 c (by omega)]⟩
theorem FrP.s40 {u : uS} {j x : Int} (h : 10 ≤ j ∧ j ≤ 17) : FrP u (up u 40 j x) := ⟨fun c a _ => up_c a, fun i a => up_j (by omega), fun i _ => by rw [up_c (by decide)], fun c _ _ i _ => by rw [up_c (by omega)]⟩
theorem FrP.s42 {u : uS} {j x : Int} (h : 15 ≤ j) : FrP u (up u 42 j x) := ⟨fun c a b => up_c (by omega), fun i a => by rw [up_c (by decide)], fun i a => up_j (by omega), fun c _ _ i _ => by rw [up_c (by omega)]⟩
theorem FrP.s43 {u : uS} {c : Nat} {j x : Int} (hc : 43 ≤ c ∧ c ≤ 46) (h : 8 ≤ j) : FrP u (up u c j x) := ⟨fun d a b => up_c (by omega), fun i a => by rw [up_c (by omega)], fun i a => by rw [up_c (by omega)], fun d _ _ i hi => by
  by_cases e : d = c
  · subst e; exact up_j (by omega)
  · rw [up_c e]⟩
section WT
variable {u : uS} {B : Int → Int} {n K : Int} {ks ss ls vs : Int → Int}
theorem td_n {j : Int} (hT : TD B n K ks ss ls vs) (hj : 0 ≤ j ∧ j < K) : mpos n K ss j < mpos n K ss (j + 1) ∧ En ss ls (j + 1) = ss j + ls j ∧ mpos n K ss (j + 1) ≤ n := by
  obtain ⟨rk, hP, hk⟩ := hT
  obtain ⟨⟨a, b, c, -⟩, -⟩ := hP.2.1 j hj.1 hj.2
  have e : En ss ls (j + 1) = ss j + ls j := by
    unfold En
    rw [if_neg (by omega), show j + 1 - 1 = j by omega]
  refine ⟨?_, e, ?_⟩
  · unfold mpos
    rw [if_pos hj.2]
    by_cases h : j + 1 < K
    · have := (hP.2.2.1 (j + 1) (by omega) h).1
      rw [if_pos h]; omega
    · rw [if_neg h]; omega
  · unfold mpos
    by_cases h : j + 1 < K
    · obtain ⟨⟨a, b, c, -⟩, -⟩ := hP.2.1 (j + 1) (by omega) h
      rw [if_pos h]; omega
    · rw [if_neg h]; omega
theorem MT.pos {j : Int} (h : MT B n K ks ss ls vs u j) : u 40 10 = mpos n K ss j := by
  obtain ⟨-, -, hj, a, b⟩ := h
  unfold mpos
  by_cases h : j < K
  · rw [if_pos h]; exact (a h).2.1
  · rw [if_neg h]; exact (b (by omega)).2.1
theorem MT.knd {j : Int} (h : MT B n K ks ss ls vs u j) : u 40 12 = if j < K then ks j else 0 := by
  obtain ⟨-, -, hj, a, b⟩ := h
  by_cases h : j < K
  · rw [if_pos h]; exact (a h).1
  · rw [if_neg h]; exact (b (by omega)).1
theorem MT.row {w : uS} {j : Int} (h : MT B n K ks ss ls vs u j) (h47 : w 47 = u 47) (h40 : ∀ i, 9 ≤ i → i ≤ 13 → w 40 i = u 40 i) : MT B n K ks ss ls vs w j := by
  unfold MT
  rw [h47, h40 9 (by decide) (by decide), h40 10 (by decide) (by decide), h40 11 (by decide) (by decide), h40 12 (by decide) (by decide), h40 13 (by decide) (by decide)]
  exact h
/-- on to the next token -/
theorem wnext {j : Int} (hn : 0 ≤ n ∧ n ≤ 500) (hBb : ∀ q, 0 ≤ q → q < n → 0 ≤ B q ∧ B q < 256) (hT : TD B n K ks ss ls vs) (hM : MT B n K ks ss ls vs u j) (hj : j < K) : wp (f_X10_advance u) (fun q => FrA u q.2 ∧ MT B n K ks ss ls vs q.2 (j + 1)) := by
  obtain ⟨h9, hB, hj0, ha, -⟩ := hM
  exact wadvance hn hBb hT h9 hB (by omega) (by rw [(td_n hT ⟨hj0.1, hj⟩).2.1]; exact (ha hj).2.2.1)
/-- it has failed, as R says -/
def ER (n K : Int) (ss : Int → Int) (R : Int × Int × uS) (r : Int) (w : uS) : Prop := r = 0 ∧ R.1 ≠ 0 ∧ (0 ≤ R.1 ∧ R.1 ≤ 4) ∧ w 40 14 = R.1 ∧ w 40 15 = mpos n K ss R.2.1
theorem wfails {j x : Int} {M : uS} {R : Int × Int × uS} (hM : MT B n K ks ss ls vs u j) (h14 : u 40 14 = 0) (hx : 1 ≤ x ∧ x ≤ 4) (hR : R = (x, j, M)) : wp (f_X10_fails x u) (fun q => FrP u q.2 ∧ ER n K ss R q.1 q.2) := by
  unfold f_X10_fails
  rw [h14]
  refine wp_g (by decide) ?_
  refine wp_t rfl ?_
  refine wp_l (fun w g => ?_)
  refine wp_l (fun w2 g2 => ?_)
  refine wp_s ⟨?_, rfl, by rw [hR]; show x ≠ 0; omega, by rw [hR]; show 0 ≤ x ∧ x ≤ 4; omega, ?_, ?_⟩
  · rw [g2, g]; exact (FrP.s40 (by decide)).tr (FrP.s40 (by decide))
  · show w2 40 14 = R.1
    rw [g2, up_j (by decide), g, up_s, hR]
  · show w2 40 15 = mpos n K ss R.2.1
    rw [g2, up_s, g, up_j (by decide), hM.pos, hR]
theorem ebit {o : Option (Int × uS)} {Q : Int × uS → Prop} {P : Int → uS → Prop} (h : wp o (fun q => P q.1 q.2)) (hb : ∀ r w, P r w → r = 0 ∨ r = 1) (k : ∀ r w, P r w → Q (r, w)) : wp (xbd o fun v w => xgd (v = 0 ∨ v = 1) <| some (v, w)) Q :=
  wp_b h (fun r w hw => wp_g (hb r w hw) (wp_s (k r w hw)))
/-- a number in its range is taken -/
theorem wtakes {j a b : Int} {M : uS} {R : Int × Int × uS} {X : Prop} (hn : 0 ≤ n ∧ n ≤ 500) (hBb : ∀ q, 0 ≤ q → q < n → 0 ≤ B q ∧ B q < 256) (hT : TD B n K ks ss ls vs) (hM : MT B n K ks ss ls vs u j) (h14 : u 40 14 = 0) (ha : InR a) (hb : InR b)
    (hE : j = K → R = (1, j, M)) (hR1 : j < K → ks j ≠ 2 → R = (1, j, M)) (hR3 : j < K → ks j = 2 → ¬ (a ≤ vs j ∧ vs j ≤ b) → R = (3, j, M)) (hX : j < K → ks j = 2 → a ≤ vs j ∧ vs j ≤ b → X) :
    wp (f_X10_takes a b u) (fun q => FrP u q.2 ∧ ((q.1 = 1 ∧ j < K ∧ ks j = 2 ∧ X ∧ (∀ c, c ≠ 40 → q.2 c = u c) ∧ q.2 40 14 = 0 ∧ q.2 40 15 = u 40 15 ∧ q.2 40 17 = u 40 17 ∧ q.2 40 16 = vs j ∧ MT B n K ks ss ls vs q.2 (j + 1)) ∨ ER n K ss R q.1 q.2)) := by
  have hk := hM.knd
  have hj := hM.2.2.1
  have wf : ∀ x, (1 ≤ x ∧ x ≤ 4) → R = (x, j, M) → wp (xbd (f_X10_fails x u) fun v w => xgd (v = 0 ∨ v = 1) <| some (v, w)) (fun q => FrP u q.2 ∧ ((q.1 = 1 ∧ j < K ∧ ks j = 2 ∧ X ∧ (∀ c, c ≠ 40 → q.2 c = u c) ∧ q.2 40 14 = 0 ∧ q.2 40 15 = u 40 15 ∧ q.2 40 17 = u 40 17 ∧ q.2 40 16 = vs j ∧ MT B n K ks ss ls vs q.2 (j + 1)) ∨ ER n K ss R q.1 q.2)) := fun x hx hR =>
    ebit (P := fun r w => FrP u w ∧ ER n K ss R r w) (wfails hM h14 hx hR) (fun r w h => Or.inl h.2.1) (fun r w h => ⟨h.1, Or.inr h.2⟩)
  unfold f_X10_takes
  by_cases hjK : j < K
  · obtain ⟨t1, t2, t3⟩ := td_f hT ⟨hj.1, hjK⟩
    rw [if_pos hjK] at hk
    rw [hk]
    refine wp_g (by omega) ?_
    refine wp_i (fun cc => ?_) (fun cc => ?_)
    · have k2 : ks j = 2 := by assumption
      have t3 := t3 k2
      have e13 : u 40 13 = vs j := (hM.2.2.2.1 hjK).2.2.2 k2
      refine wp_e (ewithin _ (by omega) ha hb) ?_
      rw [e13]
      by_cases hv : a ≤ vs j ∧ vs j ≤ b
      · rw [if_pos hv]
        refine wp_g (by decide) ?_
        refine wp_f (by decide) ?_
        refine wp_l (fun w g => ?_)
        have hMw : MT B n K ks ss ls vs w j := hM.row (by rw [g, up_c (by decide)]) (fun i a b => by rw [g, up_j (by omega)])
        refine wp_b (wnext hn hBb hT hMw hjK) (fun r w2 h2 => ?_)
        obtain ⟨f2, m2⟩ := h2
        have f2 : FrA w w2 := f2
        have fw : FrP u w := by rw [g]; exact FrP.s40 (by decide)
        refine wp_s ⟨fw.tr f2.p, Or.inl ⟨rfl, hjK, k2, hX hjK k2 hv, fun c hc => ?_, ?_, ?_, ?_, ?_, m2⟩⟩
        · show w2 c = u c
          rw [f2.1 c hc, g, up_c hc]
        · show w2 40 14 = 0
          rw [f2.2 14 (by decide) (by decide) (by decide) (by decide), g, up_j (by decide)]; exact h14
        · show w2 40 15 = u 40 15
          rw [f2.2 15 (by decide) (by decide) (by decide) (by decide), g, up_j (by decide)]
        · show w2 40 17 = u 40 17
          rw [f2.2 17 (by decide) (by decide) (by decide) (by decide), g, up_j (by decide)]
        · show w2 40 16 = vs j
          rw [f2.2 16 (by decide) (by decide) (by decide) (by decide), g, up_s]
      · rw [if_neg hv]
        refine wp_g (by decide) ?_
        refine wp_t rfl ?_
        exact wf 3 (by decide) (hR3 hjK k2 hv)
    · exact wf 1 (by decide) (hR1 hjK (by assumption))
  · rw [if_neg hjK] at hk
    rw [hk]
    refine wp_g (by decide) ?_
    refine wp_f (by decide) ?_
    exact wf 1 (by decide) (hE (by omega))
/-- a statement's word is one of the words -/
theorem wisWord {j w : Int} {k : Nat} (hT : TD B n K ks ss ls vs) (hn : 0 ≤ n ∧ n ≤ 500) (hM : MT B n K ks ss ls vs u j) (hj : j < K) (hw : 0 ≤ w ∧ w < 9) (hk : (k : Int) = 2000 + w) : f_X10_isWord k u = some (if srj B ks ss ls j = w then 1 else 0, u) := by
  obtain ⟨h9, hB, hj0, ha, -⟩ := hM
  obtain ⟨e12, e10, e11, -⟩ := ha hj
  obtain ⟨t1, t2, t3⟩ := td_f hT ⟨hj0.1, hj⟩
  have hl := (wd_t w.toNat (by omega)).1
  have ek : 2000 + w.toNat = k := by omega
  rw [ek] at hl
  have hc := @srt_c B (ks j) (ss j) (ls j)
  have hwd : ∀ X, X = WD B (ss j) (ls j) w → X = (ls j = ((strL k).length : Int) ∧ ∀ q, 0 ≤ q → q < ls j → B (ss j + q) = (strL k).getD q.toNat 0) := fun X hX => by rw [hX]; unfold WD; rw [show ((2000 : Int) + w).toNat = k by omega]
  have hwd := hwd _ rfl
  refine wp_eq ?_
  unfold f_X10_isWord
  refine wp_g (by omega) ?_
  rw [e12]
  refine wp_g (by omega) ?_
  refine wp_l (fun j3 e3 => ?_)
  refine wp_l (fun j26 e26 => ?_)
  -- the loop, from a flag
  have loop : ∀ z : Int, (z = 0 ∨ (z = 1 ∧ ls j = ((strL k).length : Int) ∧ ks j = 1)) → (z = 0 → ¬ (srj B ks ss ls j = w)) → wp (j3 z u) (fun b => b = (if srj B ks ss ls j = w then 1 else 0, u)) := by
    intro z hz hz0
    rw [e3]
    show wp (xl3 (s_X10_isWord_32 k) FU z 0 u) _
    refine wl3 (fun f i v => v = u ∧ (0 ≤ i ∧ i ≤ ((strL k).length : Int)) ∧ (f = 0 ∨ (f = 1 ∧ ls j = ((strL k).length : Int) ∧ ks j = 1 ∧ ∀ q, 0 ≤ q → q < i → B (ss j + q) = (strL k).getD q.toNat 0)) ∧ (f = 0 → ¬ (srj B ks ss ls j = w))) (fun _ i _ => (((strL k).length : Int) - i).toNat) (fun go f i v hI hg => ?_) FU _ _ _ ⟨rfl, by omega, by rcases hz with h | ⟨h, h2, h3⟩; exact Or.inl h; exact Or.inr ⟨h, h2, h3, fun q q0 q1 => by omega⟩, hz0⟩ (FU_l (by omega))
    obtain ⟨rfl, hi, hf, hf0⟩ := hI
    have fb : f = 0 ∨ f = 1 := by omega
    unfold s_X10_isWord_32
    refine wp_e (estrlen (by omega)) ?_
    refine wp_g (by omega) ?_
    refine wp_i (fun cc => ?_) (fun cc => ?_)
    · refine wp_g fb ?_
      rcases hf with h | ⟨h, h2, h3, h4⟩
      · rw [if_neg (hf0 h), h]; exact wp_s rfl
      · have hD : WD B (ss j) (ls j) w := by rw [hwd]; exact ⟨h2, fun q q0 q1 => h4 q q0 (by omega)⟩
        have : srj B ks ss ls j = w := srt_is h3 hw hD
        rw [if_pos this, h]; exact wp_s rfl
    · refine wp_g (by omega) ?_
      refine wp_i (fun cc => ?_) (fun cc => ?_)
      · refine wp_g fb ?_
        have h : f = 0 := by assumption
        rw [if_neg (hf0 h), h]; exact wp_s rfl
      · rcases hf with h | ⟨h, h2, h3, h4⟩
        · exact absurd h (by assumption)
        · rw [e10]
          refine wp_g (by omega) ?_
          refine wp_e (echarAt (by omega) (by omega)) ?_
          have hb := hB (ss j + i) (by omega) (by omega)
          have hg2 := strL_g w.toNat (by omega) i.toNat (by omega)
          rw [ek] at hg2
          refine wp_g (by omega) ?_
          refine wp_L ?_
          have eqv : v 47 (ss j + i) = (strL k).getD i.toNat 0 ↔ B (ss j + i) = (strL k).getD i.toNat 0 := by omega
          refine wp_i (fun cc => ?_) (fun cc => ?_)
          · refine wp_L ?_
            refine hg _ _ _ ⟨rfl, by omega, Or.inr ⟨rfl, h2, h3, fun q q0 q1 => ?_⟩, fun h => by omega⟩ (by omega)
            by_cases hq : q = i
            · rw [hq]; exact eqv.mp (by assumption)
            · exact h4 q q0 (by omega)
          · refine wp_L ?_
            refine hg _ _ _ ⟨rfl, by omega, Or.inl rfl, fun _ hsr => ?_⟩ (by omega)
            have hne : ¬ v 47 (ss j + i) = (strL k).getD i.toNat 0 := by assumption
            refine hne (eqv.mpr ?_)
            have hsr : srt B (ks j) (ss j) (ls j) = w := hsr
            rw [hsr] at hc
            rcases hc with ⟨hc, -⟩ | ⟨-, -, hc⟩
            · omega
            · rw [hwd] at hc; exact hc.2 i hi.1 (by omega)
  have no : ¬ (ks j = 1 ∧ ls j = ((strL k).length : Int)) → ¬ (srj B ks ss ls j = w) := fun h hsr => by
    have hsr : srt B (ks j) (ss j) (ls j) = w := hsr
    rw [hsr] at hc
    rcases hc with ⟨hc, -⟩ | ⟨h1, -, hc⟩
    · omega
    · rw [hwd] at hc; exact h ⟨h1, hc.1⟩
  refine wp_i (fun cc => ?_) (fun cc => ?_)
  · refine wp_e (estrlen (by omega)) ?_
    rw [e10, e11]
    refine wp_g (by omega) ?_
    refine wp_i (fun cc => ?_) (fun cc => ?_)
    · exact loop 1 (Or.inr ⟨rfl, by omega, by assumption⟩) (fun h => by omega)
    · rw [e26]
      exact loop 0 (Or.inl rfl) (fun _ => no (fun h => by omega))
  · rw [e26]
    exact loop 0 (Or.inl rfl) (fun _ => no (fun h => by omega))
end WT
