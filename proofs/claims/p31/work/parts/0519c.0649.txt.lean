/-! pure part, 19: texts, on both sides -/
def df (v t : Int) : List Int := if t = 1000 then [48 + v / 1000 % 10, 48 + v / 100 % 10, 48 + v / 10 % 10, 48 + v % 10] else if t = 100 then [48 + v / 100 % 10, 48 + v / 10 % 10, 48 + v % 10] else if t = 10 then [48 + v / 10 % 10, 48 + v % 10] else if t = 1 then [48 + v % 10] else []
/-- a number's digits -/
def dg (v : Int) : List Int := if v < 10 then df v 1 else if v < 100 then df v 10 else if v < 1000 then df v 100 else df v 1000
theorem dg_len (v : Int) : (dg v).length = if v < 10 then 1 else if v < 100 then 2 else if v < 1000 then 3 else 4 := by
  unfold dg
  split
  · rfl
  · split
    · rfl
    · split <;> rfl
def TXm (u : uS) (D : List Int) : Prop := u 40 20 = (D.length : Int) ∧ ∀ j : Nat, j < D.length → u 49 (j : Int) = D.getD j 0
theorem getD_l {D E : List Int} {j : Nat} (h : j < D.length) : (D ++ E).getD j 0 = D.getD j 0 := by
  simp only [List.getD_eq_getElem?_getD, List.getElem?_append_left h]
theorem getD_r {D E : List Int} {j : Nat} (h : D.length ≤ j) : (D ++ E).getD j 0 = E.getD (j - D.length) 0 := by
  simp only [List.getD_eq_getElem?_getD, List.getElem?_append_right h]
theorem TXm.put {u : uS} {D : List Int} {x : Int} (h : TXm u D) : TXm (up (up u 49 (u 40 20) x) 40 20 (up u 49 (u 40 20) x 40 20 + 1)) (D ++ [x]) := by
  refine ⟨?_, fun j hj => ?_⟩
  · rw [up_s, up_k (by decide), h.1, List.length_append]; rfl
  · rw [up_k (by decide)]
    rw [List.length_append] at hj
    have hj : j < D.length + 1 := hj
    by_cases hl : j = D.length
    · subst hl
      rw [h.1, up_s, getD_r (Nat.le_refl _), Nat.sub_self]; rfl
    · rw [up_j (by rw [h.1]; omega), h.2 j (by omega), getD_l (by omega)]
/-- only the text has changed -/
def FrT (u w : uS) : Prop := (∀ c, c ≠ 40 → c ≠ 49 → w c = u c) ∧ ∀ j, j ≠ 20 → w 40 j = u 40 j
theorem FrT.rf {u : uS} : FrT u u := ⟨fun _ _ _ => rfl, fun _ _ => rfl⟩
theorem FrT.tr {u v w : uS} (h : FrT u v) (h2 : FrT v w) : FrT u w := ⟨fun c c0 c1 => (h2.1 c c0 c1).trans (h.1 c c0 c1), fun j hj => (h2.2 j hj).trans (h.2 j hj)⟩
theorem FrT.put {u v : uS} {a x y : Int} (h : FrT u v) : FrT u (up (up v 49 a x) 40 20 y) := ⟨fun c c0 c1 => (up_c c0).trans ((up_c c1).trans (h.1 c c0 c1)), fun j hj => (up_j hj).trans ((up_k (by decide)).trans (h.2 j hj))⟩
section TM
variable {u : uS} {D : List Int}
theorem estrlen {k : Nat} (hk : 2000 ≤ k ∧ k < 2020) : f_J0_length_8abf5 k u = some (((strL k).length : Int), u) := xgd_t hk
theorem echarAt {k : Nat} {x : Int} (hk : 2000 ≤ k ∧ k < 2020) (hx : 0 ≤ x ∧ x < ((strL k).length : Int)) : f_J0_charAt_5068e k x u = some ((strL k).getD x.toNat 0, u) := (xgd_t hk).trans (xgd_t hx)
end TM
