/-! pure part, 36: the class ends a statement, takes a token -/
section CE
variable {u : uS} {k : Nat} {s ic : Int} {it ct : Int → Int} {M : uS}
theorem cfinish (hk : k = 10 ∨ k = 19) (hP : CP u k s ic it ct M) (hG : Gd s ic it ct M) (hs : 0 ≤ s) (hi1 : ITM s ≤ ic) : wp (f_X1_finish k u) (fun q => FrQ k u q.2 ∧ CP q.2 k (-1) ic it ct (fin M s it)) := by
  obtain ⟨h24, h25, h9, h8, hM⟩ := hP
  have h25' := h25 hs
  have g9 := h9 hs
  obtain ⟨hN, hs2, hi2, h4, h5, h6⟩ := hG
  have c0 := h6 0 (by omega) (by omega)
  have c7 := h6 7 (by omega) (by omega)
  rw [show MST 0 = 8 by decide] at c0
  rw [show MST 7 = 8 by decide] at c7
  have hi2 := (hi2 hs).1
  have hi3 := itm_b (s := s) (by omega)
  obtain ⟨nk, nk1, nk2⟩ := net_k hk
  have n0 := hN.1
  have n1 := hN.2.1
  have e90 : u 9 0 = it 0 := g9 0 (by omega) (by omega)
  have tail : ∀ v M', (∀ c, (c < k ∨ k + 9 ≤ c) → v c = u c) → CNb v k M' → wp (xlet (up v 2 4 (-1)) fun u5 => some ((0 : Int), u5)) (fun q => FrQ k u q.2 ∧ CP q.2 k (-1) ic it ct M') := by
    intro v M' hv hM'
    refine wp_s ⟨fun c c2 c8 c9 hc => (up_c c2).trans (hv c hc), (up_s v 2 4 (-1) : up v 2 4 (-1) 2 4 = -1), fun h => by omega, fun h => by omega, fun w w0 w1 => ?_, hM'.rw (fun c c0 c1 => up_c (by omega))⟩
    show up v 2 4 (-1) 8 w = ct w
    rw [up_k (by decide), hv 8 (by omega)]; exact h8 w w0 w1
  have frm : ∀ (v : uS) (d : Nat) (j x : Int), (∀ c, (c < k ∨ k + 9 ≤ c) → v c = u c) → d < 9 → ∀ c, (c < k ∨ k + 9 ≤ c) → up v (k + d) j x c = u c := fun v d j x hv hd c hc => (up_c (by omega)).trans (hv c hc)
  have frm0 : ∀ (v : uS) (j x : Int), (∀ c, (c < k ∨ k + 9 ≤ c) → v c = u c) → ∀ c, (c < k ∨ k + 9 ≤ c) → up v k j x c = u c := fun v j x hv c hc => (up_c (by omega)).trans (hv c hc)
  have fr0 : ∀ c, (c < k ∨ k + 9 ≤ c) → u c = u c := fun _ _ => rfl
  have hc : s = 0 ∨ s = 1 ∨ s = 2 ∨ s = 3 ∨ s = 4 ∨ s = 5 ∨ s = 6 ∨ s = 7 ∨ s = 8 := by omega
  unfold f_X1_finish
  refine wp_g nk ?_
  rcases hc with rfl | rfl | rfl | rfl | rfl | rfl | rfl | rfl | rfl
  · -- a station
    have j1 : (2 : Int) ≤ ic := hi1
    have e91 : u 9 1 = it 1 := g9 1 (by omega) (by omega)
    rw [if_pos rfl] at h4
    have m0 : u k 10 = M 0 0 := hM.1 0 (by decide) (by decide)
    repeat (first | (with_reducible refine wp_L ?_) | (with_reducible refine wp_g ?_ ?_; · omega) | (with_reducible refine wp_f ?_ ?_; · omega) | (with_reducible refine wp_t ?_ ?_; · omega))
    have e : f_X5_putStation k (u 9 0) (u 9 1) u = some (0, up (up (up u (k + 5) (M 0 0) (it 0)) (k + 6) (M 0 0) (it 1)) k 10 (M 0 0 + 1)) := by
      refine wp_eq ?_
      unfold f_X5_putStation
      refine wp_g nk ?_
      rw [e90, e91, m0]
      refine wp_g (by omega) ?_
      refine wp_f (by omega) ?_
      refine wp_g (by omega) ?_
      refine wp_L ?_
      rw [up_k (k := k + 5) (i := k) (by omega), m0]
      refine wp_g (by omega) ?_
      refine wp_L ?_
      refine wp_L ?_
      rw [up_k (k := k + 6) (i := k) (by omega), up_k (k := k + 5) (i := k) (by omega), m0]
      exact wp_s rfl
    refine wp_e e ?_
    refine tail _ _ (frm0 _ _ _ (frm _ _ _ _ (frm _ _ _ _ fr0 (by decide)) (by decide))) ?_
    rw [fin_0]
    refine ⟨fun i i0 i1 => ?_, fun q q0 q1 => ?_, fun r r0 r1 => ?_⟩
    · by_cases hi : i = 0
      · subst hi; rw [up_s]; exact up_s _ _ _ _
      · have hb := lx_b (i := i) ⟨i0, i1⟩
        rw [up_j (u := up (up M 1 (M 0 0) (it 0)) 2 (M 0 0) (it 1)) hi, up_k (u := up M 1 (M 0 0) (it 0)) (by decide), up_k (u := M) (by decide), up_n (by rcases lx_i (i := i) (j := 0) ⟨i0, i1⟩ (by omega) hi with h | h; exact Or.inl (fun hh => h (by have e0 : lxa 0 = 0 := rfl; omega)); exact Or.inr h), up_k (by omega), up_k (by omega)]
        exact hM.1 i i0 i1
    · rw [up_s] at q1
      by_cases hq : q = M 0 0
      · subst hq
        rw [up_k (k := k) (by omega), up_k (k := k) (by omega), up_k (k := k + 6) (i := k + 5) (by omega), up_s, up_s, up_k (k := 0) (by decide), up_k (k := 0) (by decide), up_k (k := 2) (i := 1) (by decide), up_s, up_s]
        exact ⟨rfl, rfl⟩
      · rw [up_k (k := k) (by omega), up_k (k := k) (by omega), up_k (k := k + 6) (i := k + 5) (by omega), up_j hq, up_j hq, up_k (k := k + 5) (by omega), up_k (k := 0) (by decide), up_k (k := 0) (by decide), up_k (k := 2) (i := 1) (by decide), up_j hq, up_j hq, up_k (k := 1) (by decide)]
        exact hM.2.1 q q0 (by omega)
    · rw [up_k (u := up (up M 1 (M 0 0) (it 0)) 2 (M 0 0) (it 1)) (k := 0) (by decide), up_k (u := up (up M 1 (M 0 0) (it 0)) 2 (M 0 0) (it 1)) (k := 0) (by decide), up_k (u := up M 1 (M 0 0) (it 0)) (k := 2) (by decide), up_k (u := up M 1 (M 0 0) (it 0)) (k := 2) (by decide), up_k (u := M) (k := 1) (by decide), up_k (u := M) (k := 1) (by decide), up_k (by omega), up_k (by omega), up_k (by omega), up_k (by omega), up_k (by omega), up_k (by omega)]
      exact hM.2.2 r r0 r1
  · have j1 : (5 : Int) ≤ ic := hi1
    have e91 : u 9 1 = it 1 := g9 1 (by omega) (by omega)
    have e92 : u 9 2 = it 2 := g9 2 (by omega) (by omega)
    have e93 : u 9 3 = it 3 := g9 3 (by omega) (by omega)
    have e94 : u 9 4 = it 4 := g9 4 (by omega) (by omega)
    repeat (first | (with_reducible refine wp_L ?_) | (with_reducible refine wp_g ?_ ?_; · omega) | (with_reducible refine wp_f ?_ ?_; · omega) | (with_reducible refine wp_t ?_ ?_; · omega))
    rw [e90, e91, e92, e93, e94]
    have e : f_X2_place (k + 1) (it 0) (it 1) (it 2) (it 3) (it 4) u = some (0, up (up (up (up (up u (k + 1) 0 (it 0)) (k + 1) 1 (it 1)) (k + 1) 2 (it 2)) (k + 1) 3 (it 3)) (k + 1) 4 (it 4)) := by
      refine wp_eq ?_
      unfold f_X2_place
      refine wp_g nk1 ?_
      repeat (first | (with_reducible refine wp_L ?_) | (with_reducible refine wp_g ?_ ?_; · omega) | (with_reducible refine wp_f ?_ ?_; · omega) | (with_reducible refine wp_t ?_ ?_; · omega))
      exact wp_s rfl
    refine wp_e e (tail _ _ (frm _ _ _ _ (frm _ _ _ _ (frm _ _ _ _ (frm _ _ _ _ (frm _ _ _ _ fr0 (by decide)) (by decide)) (by decide)) (by decide)) (by decide)) ?_)
    have m1 : CNb (up u (k + 1) 0 (it 0)) k (up M 0 2 (it 0)) := hM.up (i := 2) (by decide)
    have m2 : CNb (up (up u (k + 1) 0 (it 0)) (k + 1) 1 (it 1)) k (up (up M 0 2 (it 0)) 0 3 (it 1)) := m1.up (i := 3) (by decide)
    have m3 : CNb (up (up (up u (k + 1) 0 (it 0)) (k + 1) 1 (it 1)) (k + 1) 2 (it 2)) k (up (up (up M 0 2 (it 0)) 0 3 (it 1)) 0 4 (it 2)) := m2.up (i := 4) (by decide)
    have m4 : CNb (up (up (up (up u (k + 1) 0 (it 0)) (k + 1) 1 (it 1)) (k + 1) 2 (it 2)) (k + 1) 3 (it 3)) k (up (up (up (up M 0 2 (it 0)) 0 3 (it 1)) 0 4 (it 2)) 0 5 (it 3)) := m3.up (i := 5) (by decide)
    have m5 : CNb (up (up (up (up (up u (k + 1) 0 (it 0)) (k + 1) 1 (it 1)) (k + 1) 2 (it 2)) (k + 1) 3 (it 3)) (k + 1) 4 (it 4)) k (up (up (up (up (up M 0 2 (it 0)) 0 3 (it 1)) 0 4 (it 2)) 0 5 (it 3)) 0 6 (it 4)) := m4.up (i := 6) (by decide)
    refine m5.cg (fun i i0 i1 => ?_) (fun j hj => ?_)
    · rcases i15 ⟨i0, i1⟩ with rfl | rfl | rfl | rfl | rfl | rfl | rfl | rfl | rfl | rfl | rfl | rfl | rfl | rfl | rfl <;> rfl
    · rw [up_c hj, up_c hj, up_c hj, up_c hj, up_c hj]
      funext q
      exact fin_n (by decide) (by decide) (Or.inl hj)
  · have j1 : (1 : Int) ≤ ic := hi1
    repeat (first | (with_reducible refine wp_L ?_) | (with_reducible refine wp_g ?_ ?_; · omega) | (with_reducible refine wp_f ?_ ?_; · omega) | (with_reducible refine wp_t ?_ ?_; · omega))
    rw [e90]
    refine tail _ _ (frm0 _ _ _ fr0) ?_
    have m1 : CNb (up u k 2 (it 0)) k (up M 0 7 (it 0)) := hM.up (i := 7) (by decide)
    refine m1.cg (fun i i0 i1 => ?_) (fun j hj => ?_)
    · rcases i15 ⟨i0, i1⟩ with rfl | rfl | rfl | rfl | rfl | rfl | rfl | rfl | rfl | rfl | rfl | rfl | rfl | rfl | rfl <;> rfl
    · rw [up_c hj]
      funext q
      exact fin_n (by decide) (by decide) (Or.inl hj)
  · have j1 : (2 : Int) ≤ ic := hi1
    have e91 : u 9 1 = it 1 := g9 1 (by omega) (by omega)
    repeat (first | (with_reducible refine wp_L ?_) | (with_reducible refine wp_g ?_ ?_; · omega) | (with_reducible refine wp_f ?_ ?_; · omega) | (with_reducible refine wp_t ?_ ?_; · omega))
    rw [up_k (k := k) (i := 9) (by omega), e90, e91]
    refine tail _ _ (frm0 _ _ _ (frm0 _ _ _ fr0)) ?_
    have m1 : CNb (up u k 3 (it 0)) k (up M 0 8 (it 0)) := hM.up (i := 8) (by decide)
    have m2 : CNb (up (up u k 3 (it 0)) k 4 (it 1)) k (up (up M 0 8 (it 0)) 0 9 (it 1)) := m1.up (i := 9) (by decide)
    refine m2.cg (fun i i0 i1 => ?_) (fun j hj => ?_)
    · rcases i15 ⟨i0, i1⟩ with rfl | rfl | rfl | rfl | rfl | rfl | rfl | rfl | rfl | rfl | rfl | rfl | rfl | rfl | rfl <;> rfl
    · rw [up_c hj, up_c hj]
      funext q
      exact fin_n (by decide) (by decide) (Or.inl hj)
  · have j1 : (2 : Int) ≤ ic := hi1
    have e91 : u 9 1 = it 1 := g9 1 (by omega) (by omega)
    repeat (first | (with_reducible refine wp_L ?_) | (with_reducible refine wp_g ?_ ?_; · omega) | (with_reducible refine wp_f ?_ ?_; · omega) | (with_reducible refine wp_t ?_ ?_; · omega))
    rw [up_k (k := k) (i := 9) (by omega), e90, e91]
    refine tail _ _ (frm0 _ _ _ (frm0 _ _ _ fr0)) ?_
    have m1 : CNb (up u k 5 (it 0)) k (up M 0 10 (it 0)) := hM.up (i := 10) (by decide)
    have m2 : CNb (up (up u k 5 (it 0)) k 6 (it 1)) k (up (up M 0 10 (it 0)) 0 11 (it 1)) := m1.up (i := 11) (by decide)
    refine m2.cg (fun i i0 i1 => ?_) (fun j hj => ?_)
    · rcases i15 ⟨i0, i1⟩ with rfl | rfl | rfl | rfl | rfl | rfl | rfl | rfl | rfl | rfl | rfl | rfl | rfl | rfl | rfl <;> rfl
    · rw [up_c hj, up_c hj]
      funext q
      exact fin_n (by decide) (by decide) (Or.inl hj)
  · have j1 : (1 : Int) ≤ ic := hi1
    repeat (first | (with_reducible refine wp_L ?_) | (with_reducible refine wp_g ?_ ?_; · omega) | (with_reducible refine wp_f ?_ ?_; · omega) | (with_reducible refine wp_t ?_ ?_; · omega))
    rw [e90]
    refine tail _ _ (frm0 _ _ _ fr0) ?_
    have m1 : CNb (up u k 7 (it 0)) k (up M 0 12 (it 0)) := hM.up (i := 12) (by decide)
    refine m1.cg (fun i i0 i1 => ?_) (fun j hj => ?_)
    · rcases i15 ⟨i0, i1⟩ with rfl | rfl | rfl | rfl | rfl | rfl | rfl | rfl | rfl | rfl | rfl | rfl | rfl | rfl | rfl <;> rfl
    · rw [up_c hj]
      funext q
      exact fin_n (by decide) (by decide) (Or.inl hj)
  · have j1 : (1 : Int) ≤ ic := hi1
    repeat (first | (with_reducible refine wp_L ?_) | (with_reducible refine wp_g ?_ ?_; · omega) | (with_reducible refine wp_f ?_ ?_; · omega) | (with_reducible refine wp_t ?_ ?_; · omega))
    rw [e90]
    refine tail _ _ (frm0 _ _ _ fr0) ?_
    have m1 : CNb (up u k 8 (it 0)) k (up M 0 13 (it 0)) := hM.up (i := 13) (by decide)
    refine m1.cg (fun i i0 i1 => ?_) (fun j hj => ?_)
    · rcases i15 ⟨i0, i1⟩ with rfl | rfl | rfl | rfl | rfl | rfl | rfl | rfl | rfl | rfl | rfl | rfl | rfl | rfl | rfl <;> rfl
    · rw [up_c hj]
      funext q
      exact fin_n (by decide) (by decide) (Or.inl hj)
  · -- a rung
    have j1 : (2 : Int) ≤ ic := hi1
    have e91 : u 9 1 = it 1 := g9 1 (by omega) (by omega)
    rw [if_pos rfl] at h5
    have m0 : u (k + 2) 0 = M 0 1 := hM.1 1 (by decide) (by decide)
    repeat (first | (with_reducible refine wp_L ?_) | (with_reducible refine wp_g ?_ ?_; · omega) | (with_reducible refine wp_f ?_ ?_; · omega) | (with_reducible refine wp_t ?_ ?_; · omega))
    have e : f_X6_put (k + 2) (u 9 0) (u 9 1) u = some (0, up (up (up u (k + 3) (M 0 1) (it 0)) (k + 4) (M 0 1) (it 1)) (k + 2) 0 (M 0 1 + 1)) := by
      refine wp_eq ?_
      unfold f_X6_put
      refine wp_g nk2 ?_
      rw [e90, e91, m0]
      refine wp_g (by omega) ?_
      refine wp_f (by omega) ?_
      refine wp_g (by omega) ?_
      refine wp_L ?_
      rw [up_k (k := k + 2 + 1) (i := k + 2) (by omega), m0]
      refine wp_g (by omega) ?_
      refine wp_L ?_
      refine wp_L ?_
      rw [up_k (k := k + 2 + 2) (i := k + 2) (by omega), up_k (k := k + 2 + 1) (i := k + 2) (by omega), m0]
      exact wp_s rfl
    refine wp_e e ?_
    refine tail _ _ (frm _ _ _ _ (frm _ _ _ _ (frm _ _ _ _ fr0 (by decide)) (by decide)) (by decide)) ?_
    rw [fin_7]
    refine ⟨fun i i0 i1 => ?_, fun q q0 q1 => ?_, fun r r0 r1 => ?_⟩
    · by_cases hi : i = 1
      · subst hi; rw [up_s]; exact up_s _ _ _ _
      · have hb := lx_b (i := i) ⟨i0, i1⟩
        rw [up_j (u := up (up M 3 (M 0 1) (it 0)) 4 (M 0 1) (it 1)) hi, up_k (u := up M 3 (M 0 1) (it 0)) (by decide), up_k (u := M) (by decide), up_n (by rcases lx_i (i := i) (j := 1) ⟨i0, i1⟩ (by omega) hi with h | h; exact Or.inl (fun hh => h (by have e0 : lxa 1 = 2 := rfl; omega)); exact Or.inr h), up_k (by omega), up_k (by omega)]
        exact hM.1 i i0 i1
    · rw [up_k (u := up (up M 3 (M 0 1) (it 0)) 4 (M 0 1) (it 1)) (k := 0) (by decide), up_k (u := up (up M 3 (M 0 1) (it 0)) 4 (M 0 1) (it 1)) (k := 0) (by decide), up_k (u := up M 3 (M 0 1) (it 0)) (k := 4) (by decide), up_k (u := up M 3 (M 0 1) (it 0)) (k := 4) (by decide), up_k (u := M) (k := 3) (by decide), up_k (u := M) (k := 3) (by decide), up_k (by omega), up_k (by omega), up_k (by omega), up_k (by omega), up_k (by omega), up_k (by omega)]
      exact hM.2.1 q q0 (by rw [up_j (by decide), up_k (by decide), up_k (by decide)] at q1; exact q1)
    · rw [up_s] at r1
      by_cases hr : r = M 0 1
      · subst hr
        rw [up_k (k := k + 2) (i := k + 3) (by omega), up_k (k := k + 2) (i := k + 4) (by omega), up_k (k := k + 4) (i := k + 3) (by omega), up_s, up_s, up_k (k := 0) (by decide), up_k (k := 0) (by decide), up_k (k := 4) (i := 3) (by decide), up_s, up_s]
        exact ⟨rfl, rfl⟩
      · rw [up_k (k := k + 2) (i := k + 3) (by omega), up_k (k := k + 2) (i := k + 4) (by omega), up_k (k := k + 4) (i := k + 3) (by omega), up_j hr, up_j hr, up_k (k := k + 3) (by omega), up_k (k := 0) (by decide), up_k (k := 0) (by decide), up_k (k := 4) (i := 3) (by decide), up_j hr, up_j hr, up_k (k := 3) (by decide)]
        exact hM.2.2 r r0 (by omega)
  · have j1 : (1 : Int) ≤ ic := hi1
    repeat (first | (with_reducible refine wp_L ?_) | (with_reducible refine wp_g ?_ ?_; · omega) | (with_reducible refine wp_f ?_ ?_; · omega) | (with_reducible refine wp_t ?_ ?_; · omega))
    rw [e90]
    refine tail _ _ (frm0 _ _ _ fr0) ?_
    have m1 : CNb (up u k 9 (it 0)) k (up M 0 14 (it 0)) := hM.up (i := 14) (by decide)
    refine m1.cg (fun i i0 i1 => ?_) (fun j hj => ?_)
    · rcases i15 ⟨i0, i1⟩ with rfl | rfl | rfl | rfl | rfl | rfl | rfl | rfl | rfl | rfl | rfl | rfl | rfl | rfl | rfl <;> rfl
    · rw [up_c hj]
      funext q
      exact fin_n (by decide) (by decide) (Or.inl hj)
end CE
