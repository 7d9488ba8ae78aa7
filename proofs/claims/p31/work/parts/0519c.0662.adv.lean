/-! pure part, 32: the reference goes from token to token -/
/-- the reference stands at token j (K: the end of the text) -/
def MT (B : Int → Int) (n K : Int) (ks ss ls vs : Int → Int) (u : uS) (j : Int) : Prop :=
  u 40 9 = n ∧ (∀ q, 0 ≤ q → q < n → (-128 ≤ u 47 q ∧ u 47 q < 128) ∧ u 47 q % 256 = B q) ∧ (0 ≤ j ∧ j ≤ K)
  ∧ (j < K → u 40 12 = ks j ∧ u 40 10 = ss j ∧ u 40 11 = ss j + ls j ∧ (ks j = 2 → u 40 13 = vs j)) ∧ (j = K → u 40 12 = 0 ∧ u 40 10 = n ∧ u 40 11 = n)
/-- only where it stands has changed -/
def FrA (u w : uS) : Prop := (∀ c, c ≠ 40 → w c = u c) ∧ ∀ j, j ≠ 10 → j ≠ 11 → j ≠ 12 → j ≠ 13 → w 40 j = u 40 j
theorem FrA.rf {u : uS} : FrA u u := ⟨fun _ _ => rfl, fun _ _ _ _ _ => rfl⟩
theorem FrA.tr {u v w : uS} (h : FrA u v) (h2 : FrA v w) : FrA u w := ⟨fun c c0 => (h2.1 c c0).trans (h.1 c c0), fun j a b d e => (h2.2 j a b d e).trans (h.2 j a b d e)⟩
theorem FrA.st {u v : uS} (h : FrA u v) {j x : Int} (hj : j = 10 ∨ j = 11 ∨ j = 12 ∨ j = 13) : FrA u (up v 40 j x) := ⟨fun c c0 => (up_c c0).trans (h.1 c c0), fun i a b d e => (up_j (by omega)).trans (h.2 i a b d e)⟩
section AD
variable {u : uS} {B : Int → Int} {n K : Int} {ks ss ls vs : Int → Int}
end AD
