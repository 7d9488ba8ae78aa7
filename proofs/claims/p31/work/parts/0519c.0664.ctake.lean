/-! pure part, 34: the class takes a token -/
theorem net_k {k : Nat} (h : k = 10 ∨ k = 19) : (k < NN ∧ sT k = 9) ∧ (k + 1 < NN ∧ sT (k + 1) = 6) ∧ (k + 2 < NN ∧ sT (k + 2) = 10) := by rcases h with rfl | rfl <;> decide +kernel
theorem vlN_b {B : Int → Int} {s : Int} : ∀ {n : Nat}, n ≤ 4 → (∀ q, s ≤ q → q < s + n → 48 ≤ B q ∧ B q ≤ 57) → 0 ≤ vlN B s n ∧ vlN B s n < 10 ^ n := by
  intro n
  induction n with
  | zero => intro _ _; exact ⟨Int.le_refl 0, by show (0 : Int) < 10 ^ 0; decide⟩
  | succ n ih =>
    intro h1 h2
    have a := ih (by omega) (fun q q0 q1 => h2 q q0 (by omega))
    have b := h2 (s + n) (by omega) (by omega)
    have e : (10 : Int) ^ (n + 1) = 10 ^ n * 10 := Int.pow_succ 10 n
    rw [e]
    generalize (10 : Int) ^ n = P at *
    show 0 ≤ vlN B s n * 10 + B (s + n) - 48 ∧ vlN B s n * 10 + B (s + n) - 48 < P * 10
    omega
/-- what a token is like -/
theorem td_f {B : Int → Int} {n K : Int} {ks ss ls vs : Int → Int} (hT : TD B n K ks ss ls vs) {j : Int} (hj : 0 ≤ j ∧ j < K) : (0 ≤ ss j ∧ 1 ≤ ls j ∧ ss j + ls j ≤ n) ∧ (1 ≤ ks j ∧ ks j ≤ 4) ∧ (ks j = 2 → 0 ≤ vs j ∧ vs j ≤ 9999) := by
  obtain ⟨rk, hP, hk⟩ := hT
  obtain ⟨⟨a, b, c, d, e, f, g⟩, k1, k2⟩ := hP.2.1 j hj.1 hj.2
  have kb := kd_b (B (ss j))
  have hk := hk j hj.1 hj.2
  refine ⟨⟨a, b, c⟩, ?_, fun h => ?_⟩
  · rw [hk]; unfold kf; split <;> omega
  · rw [hk] at h
    unfold kf at h
    by_cases hc : (rk j = 1 ∧ 8 < ls j) ∨ (rk j = 2 ∧ 4 < ls j)
    · rw [if_pos hc] at h; omega
    · rw [if_neg hc] at h
      have hv := @vlN_b B (ss j) (ls j).toNat (by omega) (fun q q0 q1 => by
        have := e q q0 (by omega)
        rw [← k1, h] at this
        unfold kd at this
        by_cases x1 : B q = 32 ∨ B q = 10
        · rw [if_pos x1] at this; omega
        · rw [if_neg x1] at this
          by_cases x2 : 97 ≤ B q ∧ B q ≤ 122
          · rw [if_pos x2] at this; omega
          · rw [if_neg x2] at this
            by_cases x3 : 48 ≤ B q ∧ B q ≤ 57
            · exact x3
            · rw [if_neg x3] at this
              split at this <;> omega)
      rw [k2]
      have hp : (10 : Int) ^ (ls j).toNat ≤ 10 ^ 4 := by
        have t : ∀ m, m < 5 → (10 : Int) ^ m ≤ 10 ^ 4 := by decide
        exact t _ (by omega)
      rw [show (10 : Int) ^ 4 = 10000 by decide] at hp
      omega
theorem strL_g : ∀ a, a < 9 → ∀ q, q < 20 → 0 ≤ (strL (2000 + a)).getD q 0 ∧ (strL (2000 + a)).getD q 0 < 128 := by decide +kernel
/-- the tokens and the bytes, as the class holds them -/
def CTk (B : Int → Int) (n K : Int) (ks ss ls vs : Int → Int) (u : uS) : Prop := u 3 0 = K ∧ u 4 = ks ∧ u 5 = ss ∧ u 6 = ls ∧ u 7 = vs ∧ ∀ q, 0 ≤ q → q < n → u 1 q = B q ∧ 0 ≤ B q ∧ B q < 256
section CT
variable {u : uS} {B : Int → Int} {n K : Int} {ks ss ls vs : Int → Int}
theorem cwordOf {w : Int} (hw : 0 ≤ w ∧ w < 9) : f_X1_wordOf w u = some (2000 + w, u) := by
  have hc : w = 0 ∨ w = 1 ∨ w = 2 ∨ w = 3 ∨ w = 4 ∨ w = 5 ∨ w = 6 ∨ w = 7 ∨ w = 8 := by omega
  rcases hc with rfl | rfl | rfl | rfl | rfl | rfl | rfl | rfl | rfl <;> rfl
theorem cspells {j w : Int} (hn : 0 ≤ n ∧ n ≤ 500) (hT : TD B n K ks ss ls vs) (hC : CTk B n K ks ss ls vs u) (hj : 0 ≤ j ∧ j < K) (hw : 0 ≤ w ∧ w < 9) :
    wp (f_X8_spells j 1 (2000 + w).toNat u) (fun q => q.2 = u ∧ ((q.1 = 1 ∧ WD B (ss j) (ls j) w) ∨ (q.1 = 0 ∧ ¬ WD B (ss j) (ls j) w))) := by
  obtain ⟨c3, c4, c5, c6, c7, cB⟩ := hC
  have s1 : (sN 1 : Int) = 500 := by decide +kernel
  have r1 : (1 : Nat) < NN ∧ sT 1 = 100 := by decide +kernel
  obtain ⟨t1, t2, t3⟩ := td_f hT hj
  obtain ⟨a, rfl⟩ := Int.eq_ofNat_of_zero_le hw.1
  have ea : ((2000 : Int) + (a : Int)).toNat = 2000 + a := by omega
  have hl := (wd_t a (by omega)).1
  have hK : K ≤ n := by
    obtain ⟨rk, hP, -⟩ := hT
    exact hP.1.2
  unfold WD
  rw [ea]
  unfold f_X8_spells
  refine wp_g ⟨r1, by omega⟩ ?_
  refine wp_g (by omega) ?_
  refine wp_f (by omega) ?_
  rw [c3]
  refine wp_g (by omega) ?_
  refine wp_f (by omega) ?_
  refine wp_g (by omega) ?_
  refine wp_e (estrlen (by omega)) ?_
  rw [c6]
  refine wp_g (by omega) ?_
  refine wp_i (fun cc => ?_) (fun cc => ?_)
  · refine wl2 (fun x v => v = u ∧ (0 ≤ x ∧ x ≤ ls j) ∧ ∀ q, 0 ≤ q → q < x → B (ss j + q) = (strL (2000 + a)).getD q.toNat 0) (fun x _ => (ls j - x).toNat) (fun go x v hI hg => ?_) FU _ _ ⟨rfl, by omega, fun q q0 q1 => by omega⟩ (FU_l (by omega))
    obtain ⟨hv, hx, hB⟩ := hI
    subst hv
    unfold s_X8_spells_30
    refine wp_e (estrlen (by omega)) ?_
    refine wp_g (by omega) ?_
    refine wp_i (fun cc => ?_) (fun cc => ?_)
    · exact wp_s ⟨rfl, Or.inl ⟨rfl, by assumption, fun q q0 q1 => hB q q0 (by omega)⟩⟩
    · have e5 : v 5 j = ss j := by rw [c5]
      repeat (first | (with_reducible refine wp_L ?_) | (with_reducible refine wp_g ?_ ?_; · omega) | (with_reducible refine wp_f ?_ ?_; · omega) | (with_reducible refine wp_t ?_ ?_; · omega))
      refine wp_e (echarAt (by omega) (by omega)) ?_
      have hb := cB (v 5 j + x) (by omega) (by omega)
      have hg2 := strL_g a (by omega) x.toNat (by omega)
      refine wp_g (by omega) ?_
      refine wp_i (fun cc => ?_) (fun cc => ?_)
      · refine hg _ _ ⟨rfl, by omega, fun q q0 q1 => ?_⟩ (by omega)
        by_cases hq : q = x
        · rw [hq, ← e5, ← hb.1]; assumption
        · exact hB q q0 (by omega)
      · have hne : ¬ v 1 (v 5 j + x) = (strL (2000 + a)).getD x.toNat 0 := by assumption
        refine wp_s ⟨rfl, Or.inr ⟨rfl, fun h => hne ?_⟩⟩
        rw [hb.1, e5]; exact h.2 x hx.1 (by omega)
  · have hne : ¬ ls j = ((strL (2000 + a)).length : Int) := by assumption
    exact wp_s ⟨rfl, Or.inr ⟨rfl, fun h => hne h.1⟩⟩
theorem csortOf {j : Int} (hn : 0 ≤ n ∧ n ≤ 500) (hT : TD B n K ks ss ls vs) (hC : CTk B n K ks ss ls vs u) (hj : 0 ≤ j ∧ j < K) (hk : ks j = 1) : f_X1_sortOf j 1 u = some (srt B (ks j) (ss j) (ls j), u) := by
  have r1 : (1 : Nat) < NN ∧ sT 1 = 100 := by decide +kernel
  refine wp_eq ?_
  unfold f_X1_sortOf
  refine wp_g r1 ?_
  refine wl2 (fun w v => v = u ∧ (0 ≤ w ∧ w ≤ 9) ∧ ∀ i, 0 ≤ i → i < w → ¬ WD B (ss j) (ls j) i) (fun w _ => (9 - w).toNat) (fun go w v hI hg => ?_) FU _ _ ⟨rfl, by omega, fun q q0 q1 => by omega⟩ (FU_l (by omega))
  obtain ⟨hv, hw, hno⟩ := hI
  subst hv
  unfold s_X1_sortOf_2
  refine wp_g (by omega) ?_
  refine wp_i (fun cc => ?_) (fun cc => ?_)
  · rw [srt_no (fun _ i i0 i1 => hno i i0 (by omega))]
    exact wp_s rfl
  · refine wp_e (cwordOf (by omega)) ?_
    refine wp_g (by omega) ?_
    refine wp_b (cspells hn hT hC hj (w := w) (by omega)) (fun r x hx => ?_)
    obtain ⟨e, hx⟩ := hx
    have e : x = v := e
    subst e
    rcases hx with ⟨h1, h2⟩ | ⟨h1, h2⟩
    · have h1 : r = 1 := h1
      subst h1
      repeat (first | (with_reducible refine wp_L ?_) | (with_reducible refine wp_g ?_ ?_; · omega) | (with_reducible refine wp_f ?_ ?_; · omega) | (with_reducible refine wp_t ?_ ?_; · omega))
      rw [srt_is hk (by omega) h2]
      exact wp_s rfl
    · have h1 : r = 0 := h1
      subst h1
      repeat (first | (with_reducible refine wp_L ?_) | (with_reducible refine wp_g ?_ ?_; · omega) | (with_reducible refine wp_f ?_ ?_; · omega) | (with_reducible refine wp_t ?_ ?_; · omega))
      refine hg _ _ ⟨rfl, by omega, fun i i0 i1 => ?_⟩ (by omega)
      by_cases hi : i = w
      · rw [hi]; exact h2
      · exact hno i i0 (by omega)
end CT
