/-! pure part, 37: the class takes a token -/
section CS2
variable {u : uS} {k : Nat} {s ic : Int} {it ct : Int → Int} {M : uS} {B : Int → Int} {n K : Int} {ks ss ls vs : Int → Int}
theorem FrQ.rf : FrQ k u u := fun _ _ _ _ _ => rfl
theorem FrQ.tr {v w : uS} (h : FrQ k u v) (h2 : FrQ k v w) : FrQ k u w := fun c a b d e => (h2 c a b d e).trans (h c a b d e)
theorem FrQ.tk {w : uS} (hk : k = 10 ∨ k = 19) (h : FrQ k u w) (hC : CTk B n K ks ss ls vs u) : CTk B n K ks ss ls vs w := by
  unfold CTk
  rw [h 3 (by decide) (by decide) (by decide) (by omega), h 4 (by decide) (by decide) (by decide) (by omega), h 5 (by decide) (by decide) (by decide) (by omega), h 6 (by decide) (by decide) (by decide) (by omega), h 7 (by decide) (by decide) (by decide) (by omega), h 1 (by decide) (by decide) (by decide) (by omega)]
  exact hC
theorem cbegin {j w : Int} (hk : k = 10 ∨ k = 19) (hn : 0 ≤ n ∧ n ≤ 500) (hT : TD B n K ks ss ls vs) (hC : CTk B n K ks ss ls vs u) (hj : 0 ≤ j ∧ j < K) (hP : CP u k (-1) ic it ct M) (hG : Gd (-1) ic it ct M) (hw : srt B (ks j) (ss j) (ls j) = w) :
    wp (f_X1_begin j 1 u) (fun q => (w = -1 ∧ q = (1, u)) ∨ (w ≠ -1 ∧ ¬ ct w < MST w ∧ q = (if MST w = 1 then 2 else 4, u)) ∨ ((0 ≤ w ∧ w < 9) ∧ ct w < MST w ∧ q.1 = 0 ∧ FrQ k u q.2 ∧ CP q.2 k w 0 it (ctu ct w) M)) := by
  have hc := @srt_c B (ks j) (ss j) (ls j)
  rw [hw] at hc
  obtain ⟨t1, t2, t3⟩ := td_f hT hj
  have r1 : (1 : Nat) < NN ∧ sT 1 = 100 := by decide +kernel
  have hK : K ≤ n := by
    obtain ⟨rk, hP, -⟩ := hT
    exact hP.1.2
  have e4 : u 4 j = ks j := by rw [hC.2.1]
  unfold f_X1_begin
  refine wp_g r1 ?_
  refine wp_g (by omega) ?_
  rw [e4]
  refine wp_g (by omega) ?_
  refine wp_l (fun j4 hj4 => ?_)
  have after : wp (j4 w u) (fun q => (w = -1 ∧ q = (1, u)) ∨ (w ≠ -1 ∧ ¬ ct w < MST w ∧ q = (if MST w = 1 then 2 else 4, u)) ∨ ((0 ≤ w ∧ w < 9) ∧ ct w < MST w ∧ q.1 = 0 ∧ FrQ k u q.2 ∧ CP q.2 k w 0 it (ctu ct w) M)) := by
    rw [hj4]
    have wb : -1 ≤ w ∧ w < 9 := by omega
    refine wp_g (by omega) ?_
    refine wp_i (fun cc => ?_) (fun cc => ?_)
    · exact wp_s (Or.inl ⟨by assumption, rfl⟩)
    · have em : gL_MOST.getD w.toNat 0 = MST w := rfl
      have mb := mst_b (s := w) (by omega)
      have cb := hG.2.2.2.2.2 w (by omega) (by omega)
      have e8 : u 8 w = ct w := hP.2.2.2.1 w (by omega) (by omega)
      rw [em]
      repeat (first | (with_reducible refine wp_L ?_) | (with_reducible refine wp_g ?_ ?_; · omega) | (with_reducible refine wp_f ?_ ?_; · omega) | (with_reducible refine wp_t ?_ ?_; · omega))
      refine wp_i (fun cc => ?_) (fun cc => ?_)
      · have hlt : u 8 w < MST w := by assumption
        repeat (first | (with_reducible refine wp_L ?_) | (with_reducible refine wp_g ?_ ?_; · omega) | (with_reducible refine wp_f ?_ ?_; · omega) | (with_reducible refine wp_t ?_ ?_; · omega))
        refine wp_s (Or.inr (Or.inr ⟨by omega, by omega, rfl, fun c c2 c8 c9 hc => ?_, ?_, fun _ => ?_, fun _ i i0 i1 => by omega, fun i i0 i1 => ?_, ?_⟩))
        · show up (up (up u 8 w (u 8 w + 1)) 2 4 w) 2 5 0 c = u c
          rw [up_c c2, up_c c2, up_c c8]
        · show up (up (up u 8 w (u 8 w + 1)) 2 4 w) 2 5 0 2 4 = w
          rw [up_j (by decide), up_s]
        · show up (up (up u 8 w (u 8 w + 1)) 2 4 w) 2 5 0 2 5 = 0
          exact up_s _ _ _ _
        · show up (up (up u 8 w (u 8 w + 1)) 2 4 w) 2 5 0 8 i = ctu ct w i
          rw [up_k (by decide), up_k (by decide)]
          unfold ctu
          by_cases hi : i = w
          · subst hi; rw [up_s, if_pos rfl, e8]
          · rw [up_j hi, if_neg hi]; exact hP.2.2.2.1 i i0 i1
        · exact hP.2.2.2.2.rw (fun c c0 c1 => (up_c (by omega)).trans ((up_c (by omega)).trans (up_c (by omega))))
      · refine wp_g (by omega) ?_
        refine wp_g (by omega) ?_
        refine wp_i (fun cc => ?_) (fun cc => ?_)
        · exact wp_s (Or.inr (Or.inl ⟨by omega, by omega, by rw [if_pos (by assumption)]⟩))
        · exact wp_s (Or.inr (Or.inl ⟨by omega, by omega, by rw [if_neg (by assumption)]⟩))
  by_cases k1 : ks j = 1
  · refine wp_t (by omega) ?_
    refine wp_e (csortOf hn hT hC hj k1) ?_
    rw [hw]; exact after
  · refine wp_f (by omega) ?_
    have ew : w = -1 := by omega
    subst ew
    exact after
theorem ctakeItem {j : Int} (hk : k = 10 ∨ k = 19) (hn : 0 ≤ n ∧ n ≤ 500) (hT : TD B n K ks ss ls vs) (hC : CTk B n K ks ss ls vs u) (hj : 0 ≤ j ∧ j < K) (hP : CP u k s ic it ct M) (hG : Gd s ic it ct M) (hs : 0 ≤ s) (hi1 : ic < ITM s) :
    wp (f_X1_takeItem j k u) (fun q => (ks j ≠ 2 ∧ q = (1, u)) ∨ (ks j = 2 ∧ ¬ (lo M s ic it ≤ vs j ∧ vs j ≤ hi s ic it) ∧ q = (3, u)) ∨ (ks j = 2 ∧ (lo M s ic it ≤ vs j ∧ vs j ≤ hi s ic it) ∧ q.1 = 0 ∧ FrQ k u q.2 ∧ CP q.2 k s (ic + 1) (itu it ic (vs j)) ct M)) := by
  obtain ⟨t1, t2, t3⟩ := td_f hT hj
  have hK : K ≤ n := by
    obtain ⟨rk, hP, -⟩ := hT
    exact hP.1.2
  have e4 : u 4 j = ks j := by rw [hC.2.1]
  have e7 : u 7 j = vs j := by rw [hC.2.2.2.2.1]
  have lb := lohi_b hG hs hi1
  have ib := itm_b (s := s) ⟨hs, hG.2.1.2⟩
  have icb := (hG.2.2.1 hs).1
  have e25 : u 2 5 = ic := hP.2.1 hs
  unfold f_X1_takeItem
  refine wp_g (net_k hk).1 ?_
  refine wp_g (by omega) ?_
  rw [e4]
  refine wp_g (by omega) ?_
  refine wp_i (fun cc => ?_) (fun cc => ?_)
  · have k2 : ks j = 2 := by assumption
    have t3 := t3 k2
    refine wp_g (by omega) ?_
    rw [e7]
    refine wp_L ?_
    refine wp_e (clowest hk hP hG hs hi1) ?_
    refine wp_g (by omega) ?_
    refine wp_i (fun cc => ?_) (fun cc => ?_)
    · exact wp_s (Or.inr (Or.inl ⟨k2, by omega, rfl⟩))
    · refine wp_e (chighest hP hG hs hi1) ?_
      refine wp_g (by omega) ?_
      refine wp_i (fun cc => ?_) (fun cc => ?_)
      · repeat (first | (with_reducible refine wp_L ?_) | (with_reducible refine wp_g ?_ ?_; · omega) | (with_reducible refine wp_f ?_ ?_; · omega) | (with_reducible refine wp_t ?_ ?_; · omega))
        refine wp_s (Or.inr (Or.inr ⟨k2, by omega, rfl, fun c c2 c8 c9 hc => ?_, ?_, fun _ => ?_, fun _ i i0 i1 => ?_, fun i i0 i1 => ?_, ?_⟩))
        · exact (up_c c2).trans (up_c c9)
        · show up (up u 9 (u 2 5) (vs j)) 2 5 (up u 9 (u 2 5) (vs j) 2 5 + 1) 2 4 = s
          rw [up_j (by decide), up_k (by decide)]; exact hP.1
        · show up (up u 9 (u 2 5) (vs j)) 2 5 (up u 9 (u 2 5) (vs j) 2 5 + 1) 2 5 = ic + 1
          rw [up_s, up_k (by decide), e25]
        · show up (up u 9 (u 2 5) (vs j)) 2 5 (up u 9 (u 2 5) (vs j) 2 5 + 1) 9 i = itu it ic (vs j) i
          rw [up_k (by decide), e25]
          unfold itu
          by_cases hi : i = ic
          · subst hi; rw [up_s, if_pos rfl]
          · rw [up_j hi, if_neg hi]; exact hP.2.2.1 hs i i0 (by omega)
        · show up (up u 9 (u 2 5) (vs j)) 2 5 (up u 9 (u 2 5) (vs j) 2 5 + 1) 8 i = ct i
          rw [up_k (by decide), up_k (by decide)]; exact hP.2.2.2.1 i i0 i1
        · exact hP.2.2.2.2.rw (fun c c0 c1 => (up_c (by omega)).trans (up_c (by omega)))
      · exact wp_s (Or.inr (Or.inl ⟨k2, by omega, rfl⟩))
  · exact wp_s (Or.inl ⟨by assumption, rfl⟩)
theorem ctake {j : Int} {sr : Int → Int} (hk : k = 10 ∨ k = 19) (hn : 0 ≤ n ∧ n ≤ 500) (hT : TD B n K ks ss ls vs) (hC : CTk B n K ks ss ls vs u) (hj : 0 ≤ j ∧ j < K) (hP : CP u k s ic it ct M) (hG : Gd s ic it ct M) (hsr : sr j = srt B (ks j) (ss j) (ls j)) :
    wp (f_X1_take j 1 k u) (fun q => (0 ≤ q.1 ∧ q.1 ≤ 4) ∧ ((q.1 ≠ 0 ∧ q.2 = u ∧ mr ks vs sr K j s ic it ct M = (q.1, j, M)) ∨ (q.1 = 0 ∧ FrQ k u q.2 ∧ ∃ s' ic' it' ct' M', Gd s' ic' it' ct' M' ∧ CP q.2 k s' ic' it' ct' M' ∧ mr ks vs sr K j s ic it ct M = mr ks vs sr K (j + 1) s' ic' it' ct' M'))) := by
  have r1 : (1 : Nat) < NN ∧ sT 1 = 100 := by decide +kernel
  obtain ⟨t1, t2, t3⟩ := td_f hT hj
  have hK : K ≤ n := by
    obtain ⟨rk, hP, -⟩ := hT
    exact hP.1.2
  have e24 : u 2 4 = s := hP.1
  have sb := hG.2.1
  have e4 : u 4 j = ks j := by rw [hC.2.1]
  unfold f_X1_take
  refine wp_g ⟨r1, (net_k hk).1⟩ ?_
  rw [e24]
  refine wp_g (by omega) ?_
  refine wp_l (fun j3 hj3 => ?_)
  rw [mr_s hj.2]
  by_cases hs : s = -1
  · subst hs
    rw [if_pos rfl]
    refine wp_t (by omega) ?_
    rw [hj3]
    refine wp_b (cbegin hk hn hT hC hj hP hG hsr.symm) (fun r x hx => ?_)
    rcases hx with ⟨h1, h2⟩ | ⟨h1, h2, h3⟩ | ⟨h1, h2, h3, h4, h5⟩
    · have h2 : (r, x) = (1, u) := h2
      cases h2
      rw [if_pos h1]
      exact wp_s ⟨(by decide : (0 : Int) ≤ 1 ∧ (1 : Int) ≤ 4), Or.inl ⟨(by decide : (1 : Int) ≠ 0), rfl, rfl⟩⟩
    · have h3 : (r, x) = (if MST (sr j) = 1 then 2 else 4, u) := h3
      have hr : r = if MST (sr j) = 1 then 2 else 4 := congrArg Prod.fst h3
      have hx : x = u := congrArg Prod.snd h3
      rw [if_neg h1, if_neg h2]
      have rb : r = 2 ∨ r = 4 := by rw [hr]; split <;> omega
      refine wp_s ⟨by show 0 ≤ r ∧ r ≤ 4; omega, Or.inl ⟨by show r ≠ 0; omega, hx, by rw [hr]⟩⟩
    · have h3 : r = 0 := h3
      rw [if_neg (show ¬ sr j = -1 by omega), if_pos h2]
      exact wp_s ⟨by show 0 ≤ r ∧ r ≤ 4; omega, Or.inr ⟨h3, h4, sr j, 0, it, ctu ct (sr j), M, gd_begin hG h1 h2, h5, rfl⟩⟩
  · have hs0 : 0 ≤ s := by omega
    have ib := itm_b (s := s) ⟨hs0, sb.2⟩
    have icb := (hG.2.2.1 hs0).1
    have e25 : u 2 5 = ic := hP.2.1 hs0
    have em : gL_ITEMS.getD s.toNat 0 = ITM s := rfl
    rw [if_neg hs]
    repeat (first | (with_reducible refine wp_L ?_) | (with_reducible refine wp_g ?_ ?_; · omega) | (with_reducible refine wp_f ?_ ?_; · omega) | (with_reducible refine wp_t ?_ ?_; · omega))
    rw [em]
    by_cases hic : ITM s ≤ ic
    · rw [if_pos hic]
      repeat (first | (with_reducible refine wp_L ?_) | (with_reducible refine wp_g ?_ ?_; · omega) | (with_reducible refine wp_f ?_ ?_; · omega) | (with_reducible refine wp_t ?_ ?_; · omega))
      rw [e4]
      by_cases k3 : ks j = 3
      · repeat (first | (with_reducible refine wp_L ?_) | (with_reducible refine wp_g ?_ ?_; · omega) | (with_reducible refine wp_f ?_ ?_; · omega) | (with_reducible refine wp_t ?_ ?_; · omega))
        refine wp_b (cfinish hk hP hG hs0 hic) (fun r x hx => wp_s ⟨(by decide : (0 : Int) ≤ 0 ∧ (0 : Int) ≤ 4), Or.inr ⟨rfl, hx.1, -1, ic, it, ct, fin M s it, gd_fin hG hs0 hic, hx.2, if_pos k3⟩⟩)
      · repeat (first | (with_reducible refine wp_L ?_) | (with_reducible refine wp_g ?_ ?_; · omega) | (with_reducible refine wp_f ?_ ?_; · omega) | (with_reducible refine wp_t ?_ ?_; · omega))
        exact wp_s ⟨(by decide : (0 : Int) ≤ 1 ∧ (1 : Int) ≤ 4), Or.inl ⟨(by decide : (1 : Int) ≠ 0), rfl, if_neg k3⟩⟩
    · rw [if_neg hic]
      repeat (first | (with_reducible refine wp_L ?_) | (with_reducible refine wp_g ?_ ?_; · omega) | (with_reducible refine wp_f ?_ ?_; · omega) | (with_reducible refine wp_t ?_ ?_; · omega))
      refine wp_b (ctakeItem hk hn hT hC hj hP hG hs0 (by omega)) (fun r x hx => ?_)
      rcases hx with ⟨h1, h2⟩ | ⟨h1, h2, h3⟩ | ⟨h1, h2, h3, h4, h5⟩
      · have h2 : (r, x) = (1, u) := h2
        cases h2
        rw [if_neg h1]
        exact wp_s ⟨(by decide : (0 : Int) ≤ 1 ∧ (1 : Int) ≤ 4), Or.inl ⟨(by decide : (1 : Int) ≠ 0), rfl, rfl⟩⟩
      · have h3 : (r, x) = (3, u) := h3
        cases h3
        rw [if_pos h1, if_neg h2]
        exact wp_s ⟨(by decide : (0 : Int) ≤ 3 ∧ (3 : Int) ≤ 4), Or.inl ⟨(by decide : (3 : Int) ≠ 0), rfl, rfl⟩⟩
      · have h3 : r = 0 := h3
        rw [if_pos h1, if_pos h2]
        exact wp_s ⟨by show 0 ≤ r ∧ r ≤ 4; omega, Or.inr ⟨h3, h4, s, ic + 1, itu it ic (vs j), ct, M, gd_item hG hs0 (by omega) h2, h5, rfl⟩⟩
end CS2
