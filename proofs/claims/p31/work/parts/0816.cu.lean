/-! reading the text token by token -/
section CU
variable {B ks ss ls vs : Int → Int} {n K j p l : Int}
theorem En_s (hj : 0 ≤ j) : En ss ls (j + 1) = ss j + ls j := by
  unfold En
  rw [if_neg (by omega), show j + 1 - 1 = j by omega]
/-- behind the last token there are blanks alone -/
theorem cu_lt (h : TDp B n K ks ss ls vs) (hj : 0 ≤ j ∧ j ≤ K) (hp : En ss ls j ≤ p ∧ p < n) (hk : kd (B p) ≠ 0) : j < K := by
  by_cases q : j < K
  · exact q
  · have : j = K := by omega
    subst this
    exact absurd (h.2.2.2.2 p hp.1 hp.2) hk
/-- a token: blanks, then a run -/
theorem cu_tok (h : TDp B n K ks ss ls vs) (hj : 0 ≤ j ∧ j ≤ K) (hp : En ss ls j ≤ p ∧ p < n) (hb : ∀ q, En ss ls j ≤ q → q < p → kd (B q) = 0) (hk : kd (B p) ≠ 0)
    (hl : 1 ≤ l ∧ p + l ≤ n) (hr : ∀ q, p ≤ q → q < p + l → kd (B q) = kd (B p)) (h3 : 3 ≤ kd (B p) → l = 1) (he : p + l < n → kd (B p) < 3 → kd (B (p + l)) ≠ kd (B p)) :
    j < K ∧ ss j = p ∧ ls j = l ∧ ks j = kd (B p) ∧ vs j = vlN B p l.toNat ∧ En ss ls (j + 1) = p + l := by
  have hlt := cu_lt h hj hp hk
  obtain ⟨⟨a1, a2, a3, a4, a5, a6, a7⟩, a8, a9⟩ := h.2.1 j hj.1 hlt
  obtain ⟨b1, b2⟩ := h.2.2.1 j hj.1 hlt
  have hs : ss j = p := by
    by_cases q : ss j < p
    · exact absurd (hb (ss j) b1 q) a4
    · by_cases q2 : p < ss j
      · exact absurd (b2 p hp.1 q2) hk
      · omega
  rw [hs] at a1 a3 a4 a5 a6 a7 a8 a9
  have hle : ls j = l := by
    by_cases q : ls j < l
    · by_cases q3 : kd (B p) < 3
      · exact absurd (hr (p + ls j) (by omega) (by omega)) (a7 (by omega) q3)
      · have := h3 (by omega); omega
    · by_cases q2 : l < ls j
      · by_cases q3 : kd (B p) < 3
        · exact absurd (a5 (p + l) (by omega) (by omega)) (he (by omega) q3)
        · have := a6 (by omega); omega
      · omega
  refine ⟨hlt, hs, hle, a8, by rw [a9, hle], ?_⟩
  rw [En_s hj.1, hs, hle]
/-- all has been read -/
theorem cu_end (h : TDp B n K ks ss ls vs) (hj : 0 ≤ j ∧ j ≤ K) (he : En ss ls j = n) : j = K := by
  by_cases q : j < K
  · obtain ⟨⟨a1, a2, a3, -⟩, -⟩ := h.2.1 j hj.1 q
    obtain ⟨b1, -⟩ := h.2.2.1 j hj.1 q
    omega
  · omega
end CU
/-- the bytes from e on are those of the text -/
def AT (B : Int → Int) (e : Int) (W : List Int) : Prop := ∀ i : Nat, i < W.length → B (e + i) = W.getD i 0
theorem AT.l {B : Int → Int} {e : Int} {W X : List Int} (h : AT B e (W ++ X)) : AT B e W := fun i hi => by
  rw [h i (by rw [List.length_append]; omega), getD_l hi]
theorem AT.r {B : Int → Int} {e : Int} {W X : List Int} (h : AT B e (W ++ X)) : AT B (e + W.length) X := fun i hi => by
  have := h (W.length + i) (by rw [List.length_append]; omega)
  rw [getD_r (by omega), show W.length + i - W.length = i by omega] at this
  rw [← this]
  congr 1
  omega
theorem AT.c {B : Int → Int} {e x : Int} (h : AT B e [x]) : B e = x := by
  have := h 0 (by show 0 < 1; decide)
  rw [show e + ((0 : Nat) : Int) = e by omega] at this
  exact this
theorem dg_kd {x : Int} (hx : 0 ≤ x ∧ x ≤ 9999) : ∀ y ∈ dg x, 48 ≤ y ∧ y ≤ 57 := by
  intro y hy
  by_cases h1 : x < 10
  · rw [dg_1 h1] at hy
    simp only [List.mem_cons, List.not_mem_nil, or_false] at hy
    omega
  · by_cases h2 : x < 100
    · rw [dg_2 (by omega) h2] at hy
      simp only [List.mem_cons, List.not_mem_nil, or_false] at hy
      omega
    · by_cases h3 : x < 1000
      · rw [dg_3 (by omega) h3] at hy
        simp only [List.mem_cons, List.not_mem_nil, or_false] at hy
        omega
      · rw [dg_4 (by omega)] at hy
        simp only [List.mem_cons, List.not_mem_nil, or_false] at hy
        omega
theorem dg_len1 {x : Int} : 1 ≤ (dg x).length := by rw [dg_len]; (repeat' split) <;> omega
/-- the value of a number's digits -/
theorem vl_dg {B : Int → Int} {p x : Int} (hx : 0 ≤ x ∧ x ≤ 9999) (h : AT B p (dg x)) : vlN B p (dg x).length = x := by
  by_cases h1 : x < 10
  · rw [dg_1 h1] at h ⊢
    have a0 := h 0 (by show 0 < 1; decide)
    have a0 : B (p + 0) = 48 + x % 10 := a0
    show 0 * 10 + B (p + 0) - 48 = x
    omega
  · by_cases h2 : x < 100
    · rw [dg_2 (by omega) h2] at h ⊢
      have a0 : B (p + 0) = 48 + x / 10 % 10 := h 0 (by show 0 < 2; decide)
      have a1 : B (p + 1) = 48 + x % 10 := h 1 (by show 1 < 2; decide)
      show (0 * 10 + B (p + 0) - 48) * 10 + B (p + 1) - 48 = x
      omega
    · by_cases h3 : x < 1000
      · rw [dg_3 (by omega) h3] at h ⊢
        have a0 : B (p + 0) = 48 + x / 100 % 10 := h 0 (by show 0 < 3; decide)
        have a1 : B (p + 1) = 48 + x / 10 % 10 := h 1 (by show 1 < 3; decide)
        have a2 : B (p + 2) = 48 + x % 10 := h 2 (by show 2 < 3; decide)
        show ((0 * 10 + B (p + 0) - 48) * 10 + B (p + 1) - 48) * 10 + B (p + 2) - 48 = x
        omega
      · rw [dg_4 (by omega)] at h ⊢
        have a0 : B (p + 0) = 48 + x / 1000 % 10 := h 0 (by show 0 < 4; decide)
        have a1 : B (p + 1) = 48 + x / 100 % 10 := h 1 (by show 1 < 4; decide)
        have a2 : B (p + 2) = 48 + x / 10 % 10 := h 2 (by show 2 < 4; decide)
        have a3 : B (p + 3) = 48 + x % 10 := h 3 (by show 3 < 4; decide)
        show (((0 * 10 + B (p + 0) - 48) * 10 + B (p + 1) - 48) * 10 + B (p + 2) - 48) * 10 + B (p + 3) - 48 = x
        omega
