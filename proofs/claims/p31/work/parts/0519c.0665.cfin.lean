/-! pure part, 35: the class's statements -/
def lxa (i : Int) : Nat := if i = 0 then 0 else if i = 1 then 2 else if i ≤ 6 then 1 else 0
def lxb (i : Int) : Int := if i = 0 then 10 else if i = 1 then 0 else if i ≤ 6 then i - 2 else i - 5
/-- the class's network, without its tables -/
def CNb (u : uS) (k : Nat) (N : uS) : Prop := (∀ i, 0 ≤ i → i < 15 → u (k + lxa i) (lxb i) = N 0 i) ∧ (∀ s, 0 ≤ s → s < N 0 0 → u (k + 5) s = N 1 s ∧ u (k + 6) s = N 2 s) ∧ (∀ r, 0 ≤ r → r < N 0 1 → u (k + 3) r = N 3 r ∧ u (k + 4) r = N 4 r)
theorem lx_b {i : Int} (h : 0 ≤ i ∧ i < 15) : lxa i ≤ 2 := by unfold lxa; split <;> (try split) <;> (try split) <;> omega
theorem lx_i {i j : Int} (hi : 0 ≤ i ∧ i < 15) (hj : 0 ≤ j ∧ j < 15) (hn : i ≠ j) : lxa i ≠ lxa j ∨ lxb i ≠ lxb j := by
  unfold lxa lxb
  split <;> (try split) <;> (try split) <;> (try split) <;> (try split) <;> (try split) <;> omega
theorem CNb.up {u : uS} {k : Nat} {N : uS} (h : CNb u k N) {i v : Int} (hi : 2 ≤ i ∧ i < 15) : CNb (up u (k + lxa i) (lxb i) v) k (up N 0 i v) := by
  obtain ⟨h1, h2, h3⟩ := h
  have hb := lx_b (i := i) (by omega)
  refine ⟨fun j j0 j1 => ?_, fun s s0 s1 => ?_, fun r r0 r1 => ?_⟩
  · by_cases hj : j = i
    · subst hj; rw [up_s, up_s]
    · rw [up_j (u := N) hj, up_n (by rcases lx_i (i := j) (j := i) ⟨j0, j1⟩ (by omega) hj with h | h <;> omega)]
      exact h1 j j0 j1
  · rw [up_j (u := N) (by omega)] at s1
    rw [up_k (by omega), up_k (by omega), up_k (by omega), up_k (by omega)]; exact h2 s s0 s1
  · rw [up_j (u := N) (by omega)] at r1
    rw [up_k (by omega), up_k (by omega), up_k (by omega), up_k (by omega)]; exact h3 r r0 r1
theorem i15 {i : Int} (h : 0 ≤ i ∧ i < 15) : i = 0 ∨ i = 1 ∨ i = 2 ∨ i = 3 ∨ i = 4 ∨ i = 5 ∨ i = 6 ∨ i = 7 ∨ i = 8 ∨ i = 9 ∨ i = 10 ∨ i = 11 ∨ i = 12 ∨ i = 13 ∨ i = 14 := by omega
theorem CNb.cg {u : uS} {k : Nat} {N M : uS} (h : CNb u k N) (h0 : ∀ i, 0 ≤ i → i < 15 → M 0 i = N 0 i) (h1 : ∀ j, j ≠ 0 → M j = N j) : CNb u k M := by
  obtain ⟨a, b, c⟩ := h
  unfold CNb
  rw [h0 0 (by decide) (by decide), h0 1 (by decide) (by decide), h1 1 (by decide), h1 2 (by decide), h1 3 (by decide), h1 4 (by decide)]
  exact ⟨fun i i0 i1 => by rw [h0 i i0 i1]; exact a i i0 i1, b, c⟩
theorem CNb.rw {u w : uS} {k : Nat} {N : uS} (h : CNb u k N) (e : ∀ c, k ≤ c → c ≤ k + 6 → w c = u c) : CNb w k N := by
  obtain ⟨a, b, c⟩ := h
  refine ⟨fun i i0 i1 => ?_, ?_, ?_⟩
  · have := lx_b (i := i) ⟨i0, i1⟩
    rw [e _ (by omega) (by omega)]; exact a i i0 i1
  · rw [e (k + 5) (by omega) (by omega), e (k + 6) (by omega) (by omega)]; exact b
  · rw [e (k + 3) (by omega) (by omega), e (k + 4) (by omega) (by omega)]; exact c
/-- what the class's grammar holds -/
def CP (u : uS) (k : Nat) (s ic : Int) (it ct : Int → Int) (M : uS) : Prop := u 2 4 = s ∧ (0 ≤ s → u 2 5 = ic) ∧ (0 ≤ s → ∀ i, 0 ≤ i → i < ic → u 9 i = it i) ∧ (∀ w, 0 ≤ w → w < 9 → u 8 w = ct w) ∧ CNb u k M
def FrQ (k : Nat) (u w : uS) : Prop := ∀ c, c ≠ 2 → c ≠ 8 → c ≠ 9 → (c < k ∨ k + 9 ≤ c) → w c = u c
theorem itm_b {s : Int} (h : 0 ≤ s ∧ s ≤ 8) : 1 ≤ ITM s ∧ ITM s ≤ 5 := by
  have t : ∀ a, a < 9 → (1 : Int) ≤ gL_ITEMS.getD a 0 ∧ gL_ITEMS.getD a 0 ≤ (5 : Int) := by decide
  exact t s.toNat (by omega)
theorem mst_b {s : Int} (h : 0 ≤ s ∧ s ≤ 8) : 1 ≤ MST s ∧ MST s ≤ 8 := by
  have t : ∀ a, a < 9 → (1 : Int) ≤ gL_MOST.getD a 0 ∧ gL_MOST.getD a 0 ≤ (8 : Int) := by decide
  exact t s.toNat (by omega)
theorem gLo_b {x : Int} (h : 0 ≤ x ∧ x < 45) : (0 ≤ gL_LOWEST.getD x.toNat 0 ∧ gL_LOWEST.getD x.toNat 0 ≤ 1) ∧ 0 ≤ gL_HIGHEST.getD x.toNat 0 ∧ gL_HIGHEST.getD x.toNat 0 ≤ 9999 := by
  have t : ∀ a, a < 45 → ((0 : Int) ≤ gL_LOWEST.getD a 0 ∧ gL_LOWEST.getD a 0 ≤ (1 : Int)) ∧ (0 : Int) ≤ gL_HIGHEST.getD a 0 ∧ gL_HIGHEST.getD a 0 ≤ (9999 : Int) := by decide
  exact t x.toNat (by omega)
section CF
variable {u : uS} {k : Nat} {s ic : Int} {it ct : Int → Int} {M : uS}
theorem clowest (hk : k = 10 ∨ k = 19) (hP : CP u k s ic it ct M) (hG : Gd s ic it ct M) (hs : 0 ≤ s) (hi1 : ic < ITM s) : f_X1_lowest k u = some (lo M s ic it, u) := by
  obtain ⟨h24, h25, h9, h8, hM⟩ := hP
  have h25 := h25 hs
  have h9 := h9 hs
  obtain ⟨hN, hs2, hi2, -⟩ := hG
  have hi2 := (hi2 hs).1
  have hi3 := itm_b (s := s) (by omega)
  obtain ⟨nk, nk1, nk2⟩ := net_k hk
  have m1 : u (k + 2) 0 = M 0 1 := hM.1 1 (by decide) (by decide)
  have n1 := hN.2.1
  refine wp_eq ?_
  unfold f_X1_lowest lo
  refine wp_g nk ?_
  by_cases c3 : s = 3
  · by_cases c1 : ic = 1
    · repeat (first | (with_reducible refine wp_L ?_) | (with_reducible refine wp_g ?_ ?_; · omega) | (with_reducible refine wp_f ?_ ?_; · omega) | (with_reducible refine wp_t ?_ ?_; · omega))
      rw [if_pos ⟨c3, c1⟩, h9 0 (by omega) (by omega)]
      exact wp_s rfl
    · repeat (first | (with_reducible refine wp_L ?_) | (with_reducible refine wp_g ?_ ?_; · omega) | (with_reducible refine wp_f ?_ ?_; · omega) | (with_reducible refine wp_t ?_ ?_; · omega))
      rw [if_neg (fun h => c1 h.2), if_neg (by omega), h24, h25]
      exact wp_s rfl
  · rw [if_neg (fun h => c3 h.1)]
    by_cases c7 : s = 7
    · rw [if_pos c7]
      by_cases c0 : ic = 0
      · repeat (first | (with_reducible refine wp_L ?_) | (with_reducible refine wp_g ?_ ?_; · omega) | (with_reducible refine wp_f ?_ ?_; · omega) | (with_reducible refine wp_t ?_ ?_; · omega))
        have e : f_X6_lowestNextAmplitude (k + 2) u = some (if M 0 1 = 0 then 0 else if ic = 0 then M 3 (M 0 1 - 1) + 1 else M 4 (M 0 1 - 1), u) := by
          refine wp_eq ?_
          unfold f_X6_lowestNextAmplitude
          refine wp_g nk2 ?_
          by_cases z : M 0 1 = 0
          · repeat (first | (with_reducible refine wp_L ?_) | (with_reducible refine wp_g ?_ ?_; · omega) | (with_reducible refine wp_f ?_ ?_; · omega) | (with_reducible refine wp_t ?_ ?_; · omega))
            rw [if_pos z]; exact wp_s rfl
          · repeat (first | (with_reducible refine wp_L ?_) | (with_reducible refine wp_g ?_ ?_; · omega) | (with_reducible refine wp_f ?_ ?_; · omega) | (with_reducible refine wp_t ?_ ?_; · omega))
            rw [if_neg z, if_pos c0, m1, (hM.2.2 (M 0 1 - 1) (by omega) (by omega)).1]; exact wp_s rfl
        exact wp_e e (wp_s rfl)
      · repeat (first | (with_reducible refine wp_L ?_) | (with_reducible refine wp_g ?_ ?_; · omega) | (with_reducible refine wp_f ?_ ?_; · omega) | (with_reducible refine wp_t ?_ ?_; · omega))
        have e : f_X6_lowestNextMagnitude (k + 2) u = some (if M 0 1 = 0 then 0 else if ic = 0 then M 3 (M 0 1 - 1) + 1 else M 4 (M 0 1 - 1), u) := by
          refine wp_eq ?_
          unfold f_X6_lowestNextMagnitude
          refine wp_g nk2 ?_
          by_cases z : M 0 1 = 0
          · repeat (first | (with_reducible refine wp_L ?_) | (with_reducible refine wp_g ?_ ?_; · omega) | (with_reducible refine wp_f ?_ ?_; · omega) | (with_reducible refine wp_t ?_ ?_; · omega))
            rw [if_pos z]; exact wp_s rfl
          · repeat (first | (with_reducible refine wp_L ?_) | (with_reducible refine wp_g ?_ ?_; · omega) | (with_reducible refine wp_f ?_ ?_; · omega) | (with_reducible refine wp_t ?_ ?_; · omega))
            rw [if_neg z, if_neg c0, m1, (hM.2.2 (M 0 1 - 1) (by omega) (by omega)).2]; exact wp_s rfl
        exact wp_e e (wp_s rfl)
    · rw [if_neg c7]
      repeat (first | (with_reducible refine wp_L ?_) | (with_reducible refine wp_g ?_ ?_; · omega) | (with_reducible refine wp_f ?_ ?_; · omega) | (with_reducible refine wp_t ?_ ?_; · omega))
      rw [h24, h25]
      exact wp_s rfl
theorem chighest (hP : CP u k s ic it ct M) (hG : Gd s ic it ct M) (hs : 0 ≤ s) (hi1 : ic < ITM s) : f_X1_highest u = some (hi s ic it, u) := by
  obtain ⟨h24, h25, h9, h8, hM⟩ := hP
  have h25 := h25 hs
  have h9 := h9 hs
  obtain ⟨hN, hs2, hi2, -⟩ := hG
  have hi2 := (hi2 hs).1
  have hi3 := itm_b (s := s) (by omega)
  refine wp_eq ?_
  unfold f_X1_highest hi
  by_cases c3 : s = 4
  · by_cases c1 : ic = 1
    · repeat (first | (with_reducible refine wp_L ?_) | (with_reducible refine wp_g ?_ ?_; · omega) | (with_reducible refine wp_f ?_ ?_; · omega) | (with_reducible refine wp_t ?_ ?_; · omega))
      rw [if_pos ⟨c3, c1⟩, h9 0 (by omega) (by omega)]
      exact wp_s rfl
    · repeat (first | (with_reducible refine wp_L ?_) | (with_reducible refine wp_g ?_ ?_; · omega) | (with_reducible refine wp_f ?_ ?_; · omega) | (with_reducible refine wp_t ?_ ?_; · omega))
      rw [if_neg (fun h => c1 h.2), h24, h25]
      exact wp_s rfl
  · rw [if_neg (fun h => c3 h.1)]
    repeat (first | (with_reducible refine wp_L ?_) | (with_reducible refine wp_g ?_ ?_; · omega) | (with_reducible refine wp_f ?_ ?_; · omega) | (with_reducible refine wp_t ?_ ?_; · omega))
    rw [h24, h25]
    exact wp_s rfl
theorem lohi_b (hG : Gd s ic it ct M) (hs : 0 ≤ s) (hi1 : ic < ITM s) : (0 ≤ lo M s ic it ∧ lo M s ic it ≤ 10000) ∧ 0 ≤ hi s ic it ∧ hi s ic it ≤ 9999 := by
  obtain ⟨hN, hs2, hi2, -⟩ := hG
  obtain ⟨hi2, hit⟩ := hi2 hs
  have hi3 := itm_b (s := s) (by omega)
  have hg := gLo_b (x := s * 5 + ic) (by omega)
  have n1 := hN.2.1
  refine ⟨?_, ?_⟩
  · unfold lo
    by_cases c3 : s = 3 ∧ ic = 1
    · have h0 : 1 ≤ it 0 ∧ it 0 ≤ 50 := by
        have := hit 0 (by omega) (by omega)
        rw [c3.1] at this; exact this
      rw [if_pos c3]; omega
    · rw [if_neg c3]
      by_cases c7 : s = 7
      · rw [if_pos c7]
        by_cases z : M 0 1 = 0
        · rw [if_pos z]; omega
        · have := hN.2.2.2.2.2.2.2.2.2.2.2.2.2.2.2.2 (M 0 1 - 1) (by omega) (by omega)
          rw [if_neg z]; split <;> omega
      · rw [if_neg c7]; omega
  · unfold hi
    by_cases c3 : s = 4 ∧ ic = 1
    · have h0 : 1 ≤ it 0 ∧ it 0 ≤ 9999 := by
        have := hit 0 (by omega) (by omega)
        rw [c3.1] at this; exact this
      rw [if_pos c3]; omega
    · rw [if_neg c3]; exact hg.2
end CF
