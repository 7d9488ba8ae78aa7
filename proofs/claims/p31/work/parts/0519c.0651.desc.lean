/-! pure part, 21: numbers in the class's text -/
section GC
variable {u : uS} {D : List Int}
/-- what getChars leaves -/
def GCp (x b : Int) (u w : uS) : Prop := (∀ c, c ≠ 38 → w c = u c) ∧ (∀ j : Nat, j < (dg x).length → w 38 (b + j) = (dg x).getD j 0) ∧ ∀ j : Int, (j < b ∨ b + (dg x).length ≤ j) → w 38 j = u 38 j
theorem dg_1 {x : Int} (h : x < 10) : dg x = [48 + x % 10] := if_pos h
theorem dg_2 {x : Int} (h : 10 ≤ x) (h2 : x < 100) : dg x = [48 + x / 10 % 10, 48 + x % 10] := by
  unfold dg
  rw [if_neg (by omega), if_pos h2]; rfl
theorem dg_3 {x : Int} (h : 100 ≤ x) (h2 : x < 1000) : dg x = [48 + x / 100 % 10, 48 + x / 10 % 10, 48 + x % 10] := by
  unfold dg
  rw [if_neg (by omega), if_neg (by omega), if_pos h2]; rfl
theorem dg_4 {x : Int} (h : 1000 ≤ x) : dg x = [48 + x / 1000 % 10, 48 + x / 100 % 10, 48 + x / 10 % 10, 48 + x % 10] := by
  unfold dg
  rw [if_neg (by omega), if_neg (by omega), if_neg (by omega)]; rfl
theorem gc1 {x b : Int} (h : x < 10) : GCp x b u (up u 38 b (48 + x % 10)) := by
  unfold GCp
  rw [dg_1 h]
  refine ⟨fun c hc => up_c hc, fun j hj => ?_, fun j hj => up_j ?_⟩
  · have hj : j < 1 := hj
    have : j = 0 := by omega
    subst this
    show up u 38 b (48 + x % 10) 38 (b + 0) = _
    rw [Int.add_zero, up_s]; rfl
  · have hj : j < b ∨ b + 1 ≤ j := hj
    omega
theorem gc2 {x b : Int} (h : 10 ≤ x) (h2 : x < 100) : GCp x b u (up (up u 38 (b + 1) (48 + x % 10)) 38 b (48 + x / 10 % 10)) := by
  unfold GCp
  rw [dg_2 h h2]
  refine ⟨fun c hc => (up_c hc).trans (up_c hc), fun j hj => ?_, fun j hj => ?_⟩
  · have hj : j < 2 := hj
    rcases (show j = 0 ∨ j = 1 by omega) with rfl | rfl
    · show up (up u 38 (b + 1) (48 + x % 10)) 38 b (48 + x / 10 % 10) 38 (b + 0) = _
      rw [Int.add_zero, up_s]; rfl
    · show up (up u 38 (b + 1) (48 + x % 10)) 38 b (48 + x / 10 % 10) 38 (b + 1) = _
      rw [up_j (by omega), up_s]; rfl
  · have hj : j < b ∨ b + 2 ≤ j := hj
    rw [up_j (by omega), up_j (by omega)]
theorem gc3 {x b : Int} (h : 100 ≤ x) (h2 : x < 1000) : GCp x b u (up (up (up u 38 (b + 2) (48 + x % 10)) 38 (b + 1) (48 + x / 10 % 10)) 38 b (48 + x / 100 % 10)) := by
  unfold GCp
  rw [dg_3 h h2]
  refine ⟨fun c hc => (up_c hc).trans ((up_c hc).trans (up_c hc)), fun j hj => ?_, fun j hj => ?_⟩
  · have hj : j < 3 := hj
    rcases (show j = 0 ∨ j = 1 ∨ j = 2 by omega) with rfl | rfl | rfl
    · show up (up (up u 38 (b + 2) (48 + x % 10)) 38 (b + 1) (48 + x / 10 % 10)) 38 b (48 + x / 100 % 10) 38 (b + 0) = _
      rw [Int.add_zero, up_s]; rfl
    · show up (up (up u 38 (b + 2) (48 + x % 10)) 38 (b + 1) (48 + x / 10 % 10)) 38 b (48 + x / 100 % 10) 38 (b + 1) = _
      rw [up_j (by omega), up_s]; rfl
    · show up (up (up u 38 (b + 2) (48 + x % 10)) 38 (b + 1) (48 + x / 10 % 10)) 38 b (48 + x / 100 % 10) 38 (b + 2) = _
      rw [up_j (by omega), up_j (by omega), up_s]; rfl
  · have hj : j < b ∨ b + 3 ≤ j := hj
    rw [up_j (by omega), up_j (by omega), up_j (by omega)]
theorem gc4 {x b : Int} (h : 1000 ≤ x) : GCp x b u (up (up (up (up u 38 (b + 3) (48 + x % 10)) 38 (b + 2) (48 + x / 10 % 10)) 38 (b + 1) (48 + x / 100 % 10)) 38 b (48 + x / 1000 % 10)) := by
  unfold GCp
  rw [dg_4 h]
  refine ⟨fun c hc => (up_c hc).trans ((up_c hc).trans ((up_c hc).trans (up_c hc))), fun j hj => ?_, fun j hj => ?_⟩
  · have hj : j < 4 := hj
    rcases (show j = 0 ∨ j = 1 ∨ j = 2 ∨ j = 3 by omega) with rfl | rfl | rfl | rfl
    · show up (up (up (up u 38 (b + 3) (48 + x % 10)) 38 (b + 2) (48 + x / 10 % 10)) 38 (b + 1) (48 + x / 100 % 10)) 38 b (48 + x / 1000 % 10) 38 (b + 0) = _
      rw [Int.add_zero, up_s]; rfl
    · show up (up (up (up u 38 (b + 3) (48 + x % 10)) 38 (b + 2) (48 + x / 10 % 10)) 38 (b + 1) (48 + x / 100 % 10)) 38 b (48 + x / 1000 % 10) 38 (b + 1) = _
      rw [up_j (by omega), up_s]; rfl
    · show up (up (up (up u 38 (b + 3) (48 + x % 10)) 38 (b + 2) (48 + x / 10 % 10)) 38 (b + 1) (48 + x / 100 % 10)) 38 b (48 + x / 1000 % 10) 38 (b + 2) = _
      rw [up_j (by omega), up_j (by omega), up_s]; rfl
    · show up (up (up (up u 38 (b + 3) (48 + x % 10)) 38 (b + 2) (48 + x / 10 % 10)) 38 (b + 1) (48 + x / 100 % 10)) 38 b (48 + x / 1000 % 10) 38 (b + 3) = _
      rw [up_j (by omega), up_j (by omega), up_j (by omega), up_s]; rfl
  · have hj : j < b ∨ b + 4 ≤ j := hj
    rw [up_j (by omega), up_j (by omega), up_j (by omega), up_j (by omega)]
theorem cgetChars {x b : Int} (hx : 0 ≤ x ∧ x ≤ 9999) (hb : 0 ≤ b) (hc : b + ((dg x).length : Int) ≤ u 1000 1 ∧ u 1000 1 ≤ 100) : wp (f_J6_getChars_ba4f3 x (b + ((dg x).length : Int)) u) (fun q => GCp x b u q.2) := by
  unfold f_J6_getChars_ba4f3
  refine wp_g (by omega) ?_
  refine wp_L ?_
  refine wp_t (by omega) ?_
  refine wp_g (by omega) ?_
  refine wp_t rfl ?_
  refine wp_L ?_
  refine wp_L ?_
  generalize hidx : b + ((dg x).length : Int) = idx at *
  have hlen := dg_len x
  refine wl3 (fun y i v => (y = -x ∧ i = idx ∧ v = u) ∨ (100 ≤ x ∧ y = -(x / 100) ∧ i = idx - 2 ∧ v = up (up u 38 (idx - 1) (48 + x % 10)) 38 (idx - 2) (48 + x / 10 % 10))) (fun y _ _ => (-y).toNat) (fun go y i v hI hg => ?_) FU _ _ _ (Or.inl ⟨rfl, rfl, rfl⟩) (FU_l (by omega))
  have v1000 : v 1000 1 = u 1000 1 := by
    rcases hI with ⟨-, -, rfl⟩ | ⟨-, -, -, rfl⟩
    · rfl
    · rw [up_k (by decide), up_k (by decide)]
  have hi1 : 1 ≤ i ∧ i ≤ idx := by
    rcases hI with ⟨-, h, -⟩ | ⟨h0, -, h, -⟩
    · split at hlen <;> (try split at hlen) <;> (try split at hlen) <;> omega
    · rw [if_neg (by omega), if_neg (by omega)] at hlen
      split at hlen <;> omega
  unfold s_J6_getChars_ba4f3_22b
  have hy : -9999 ≤ y ∧ y ≤ 0 := by omega
  refine wp_g (by omega) ?_
  refine wp_i (fun c => ?_) (fun c => ?_)
  · have o1 := dgOnes (r := -y) (by omega)
    have o2 := dgTens (r := -y) (by omega)
    refine wp_g (by omega) ?_
    rw [o1]
    refine wp_g (by omega) ?_
    refine wp_L ?_
    have z : up v 38 (i + -1) (48 + -y % 10) 1000 1 = u 1000 1 := (up_k (by decide)).trans v1000
    refine wp_g (by omega) ?_
    refine wp_i (fun c => ?_) (fun c => ?_)
    · refine wp_g (by decide) ?_
      refine wp_t rfl (wp_s ?_)
      show GCp x b u (up v 38 (i + -1) (48 + -y % 10))
      rcases hI with ⟨rfl, rfl, rfl⟩ | ⟨h0, rfl, rfl, rfl⟩
      · rw [if_pos (by omega)] at hlen
        have := gc1 (u := v) (b := b) (show x < 10 by omega)
        rw [show i + -1 = b by omega, show 48 + - -x % 10 = 48 + x % 10 by omega]
        exact this
      · rw [if_neg (by omega), if_neg (by omega), if_pos (by omega)] at hlen
        have := gc3 (u := u) (b := b) h0 (show x < 1000 by omega)
        rw [show idx - 2 + -1 = b by omega, show idx - 1 = b + 2 by omega, show idx - 2 = b + 1 by omega, show 48 + - -(x / 100) % 10 = 48 + x / 100 % 10 by omega]
        exact this
    · have hi2 : 2 ≤ i := by
        rcases hI with ⟨h1, h, -⟩ | ⟨h0, h1, h, -⟩
        · rw [if_neg (by omega)] at hlen
          split at hlen <;> (try split at hlen) <;> omega
        · rw [if_neg (by omega), if_neg (by omega), if_neg (by omega)] at hlen
          omega
      refine wp_g (by omega) ?_
      rw [o2]
      refine wp_g (by omega) ?_
      refine wp_L ?_
      refine wp_g (by decide) ?_
      refine wp_t rfl (wp_s ?_)
      show GCp x b u (up (up v 38 (i + -1) (48 + -y % 10)) 38 (i + -1 + -1) (48 + -y / 10))
      rcases hI with ⟨rfl, rfl, rfl⟩ | ⟨h0, rfl, rfl, rfl⟩
      · rw [if_neg (by omega), if_pos (by omega)] at hlen
        have := gc2 (u := v) (b := b) (show 10 ≤ x by omega) (show x < 100 by omega)
        rw [show i + -1 + -1 = b by omega, show i + -1 = b + 1 by omega, show 48 + - -x % 10 = 48 + x % 10 by omega, show 48 + - -x / 10 = 48 + x / 10 % 10 by omega]
        exact this
      · rw [if_neg (by omega), if_neg (by omega), if_neg (by omega)] at hlen
        have := gc4 (u := u) (b := b) (show 1000 ≤ x by omega)
        rw [show idx - 2 + -1 + -1 = b by omega, show idx - 2 + -1 = b + 1 by omega, show idx - 1 = b + 3 by omega, show idx - 2 = b + 2 by omega, show 48 + - -(x / 100) % 10 = 48 + x / 100 % 10 by omega, show 48 + - -(x / 100) / 10 = 48 + x / 1000 % 10 by omega]
        exact this
  · rcases hI with ⟨rfl, rfl, rfl⟩ | ⟨h0, h1, h, -⟩
    · have et : (-x).tdiv 100 = -(x / 100) := by rw [Int.neg_tdiv, Int.tdiv_eq_ediv_of_nonneg hx.1]
      have er : -(x / 100) * 100 - -x = x % 100 := by omega
      rw [if_neg (by omega), if_neg (by omega)] at hlen
      have hl3 : 3 ≤ i := by split at hlen <;> omega
      have o1 := dgOnes (r := x % 100) (by omega)
      have o2 := dgTens (r := x % 100) (by omega)
      refine wp_g (by omega) ?_
      refine wp_L ?_
      refine wp_L ?_
      rw [et, er]
      refine wp_g (by omega) ?_
      rw [o1]
      refine wp_g (by omega) ?_
      refine wp_L ?_
      have z : up v 38 (i + -1) (48 + x % 100 % 10) 1000 1 = v 1000 1 := up_k (by decide)
      refine wp_g (by omega) ?_
      rw [o2]
      refine wp_g (by omega) ?_
      refine wp_L ?_
      refine hg _ _ _ (Or.inr ⟨by omega, rfl, by omega, ?_⟩) (by omega)
      rw [show i + -1 + -1 = i - 2 by omega, show i + -1 = i - 1 by omega, show 48 + x % 100 % 10 = 48 + x % 10 by omega, show 48 + x % 100 / 10 = 48 + x / 10 % 10 by omega]
    · omega
theorem dg_b {x : Int} (hx : 0 ≤ x ∧ x ≤ 9999) : ∀ y ∈ dg x, 0 ≤ y ∧ y < 128 := by
  intro y hy
  have h4 : y = 48 + x % 10 ∨ y = 48 + x / 10 % 10 ∨ y = 48 + x / 100 % 10 ∨ y = 48 + x / 1000 % 10 := by
    by_cases h1 : x < 10
    · rw [dg_1 h1] at hy
      simp only [List.mem_cons, List.not_mem_nil, or_false] at hy
      exact Or.inl hy
    · by_cases h2 : x < 100
      · rw [dg_2 (by omega) h2] at hy
        simp only [List.mem_cons, List.not_mem_nil, or_false] at hy
        rcases hy with hy | hy
        · exact Or.inr (Or.inl hy)
        · exact Or.inl hy
      · by_cases h3 : x < 1000
        · rw [dg_3 (by omega) h3] at hy
          simp only [List.mem_cons, List.not_mem_nil, or_false] at hy
          rcases hy with hy | hy | hy
          · exact Or.inr (Or.inr (Or.inl hy))
          · exact Or.inr (Or.inl hy)
          · exact Or.inl hy
        · rw [dg_4 (by omega)] at hy
          simp only [List.mem_cons, List.not_mem_nil, or_false] at hy
          rcases hy with hy | hy | hy | hy
          · exact Or.inr (Or.inr (Or.inr hy))
          · exact Or.inr (Or.inr (Or.inl hy))
          · exact Or.inr (Or.inl hy)
          · exact Or.inl hy
  omega
theorem cappendI {x : Int} (hx : 0 ≤ x ∧ x ≤ 9999) (h : TXc u D) (hl : D.length + 4 ≤ 60) : wp (f_J4_append_bf812 x u) (fun q => q.1 = 37 ∧ FrB u q.2 ∧ TXc q.2 (D ++ dg x)) := by
  have h2 := h.2.1
  have hdl : (dg x).length ≤ 4 := by
    rw [dg_len]
    split
    · decide
    · split
      · decide
      · split <;> decide
  unfold f_J4_append_bf812
  have main : wp (f_J5_append_c97b9 x u) (fun q => q.1 = 37 ∧ FrB u q.2 ∧ TXc q.2 (D ++ dg x)) := by
    unfold f_J5_append_c97b9
    refine wp_L ?_
    refine wp_e (cstringSize hx) ?_
    refine wp_L ?_
    rw [h2]
    refine wp_b (censure h (by omega)) (fun r v hv => ?_)
    obtain ⟨f1, t1, c1, q37⟩ := hv
    have f1 : FrB u v := f1
    have t1 : TXc v D := t1
    have c1 : (D.length : Int) + ((dg x).length : Int) ≤ v 1000 1 := c1
    have a3 := t1.2.2.1
    refine wp_e (cisLatin1 t1.1) ?_
    refine wp_g (by decide) ?_
    refine wp_L ?_
    refine wp_f (by decide) ?_
    refine wp_b (cgetChars (u := v) hx (b := (D.length : Int)) (by omega) ⟨c1, by omega⟩) (fun r w hw => ?_)
    obtain ⟨w1, w2, w3⟩ := hw
    have w1 : ∀ c, c ≠ 38 → w c = v c := w1
    refine wp_L ?_
    refine wp_s ⟨rfl, fun c c0 c1 c2 => (up_c c0).trans ((w1 c c1).trans (f1 c c0 c1 c2)), ?_⟩
    refine t1.lay w1 rfl c1 (dg_b hx) (fun j hj => w3 _ (by omega)) (fun j hj => w2 j hj) (fun j hj => w3 _ (by omega))
  refine wp_b main (fun r v hv => ?_)
  obtain ⟨r1, r2⟩ := hv
  refine wp_g r1 (wp_s ⟨rfl, r2⟩)
end GC
