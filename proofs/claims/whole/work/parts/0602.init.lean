/-! pure part, 52: the beginning -/
/-- all cells once the law has made its objects -/
def u0 : uS := fun c j =>
  if c = 0 then (if j = 4 then 10 else if j = 5 then 19 else if j = 2 then -1 else 0)
  else if c = 2 then (if j = 0 then -1 else 0)
  else if c = 10 ∨ c = 19 then (if 0 ≤ j then ([0, 0, 60, 3, 12, 300, 150, 3, 2, 1, 0] : List Int).getD j.toNat 0 else 0)
  else if c = 11 ∨ c = 20 then (if 0 ≤ j then ([0, 0, 5, 5, 20] : List Int).getD j.toNat 0 else 0)
  else if c = 40 then (if j = 15 then -1 else 0)
  else if c = 42 then (if 0 ≤ j ∧ j < 30 then dN 0 (j % 15) else 0)
  else if c = 1000 then (if j = 1 then 16 else 0) else 0
theorem u0_z {c : Nat} (h : c ≠ 0 ∧ c ≠ 2 ∧ c ≠ 10 ∧ c ≠ 19 ∧ c ≠ 11 ∧ c ≠ 20 ∧ c ≠ 40 ∧ c ≠ 42 ∧ c ≠ 1000) (j : Int) : u0 c j = 0 := by
  unfold u0
  rw [if_neg (by omega), if_neg (by omega), if_neg (by omega), if_neg (by omega), if_neg (by omega), if_neg (by omega), if_neg (by omega)]
theorem ji_0 : JI u0 := by
  have d0 : dN 0 0 = 0 := rfl
  have d1 : dN 0 1 = 0 := rfl
  refine ⟨dN, zV, fun _ => zV, fun _ => zV, fun _ => 0, 0, 0, -1, fun _ => 0, [], ⟨Or.inl ⟨rfl, rfl⟩, ?_, ?_, ⟨by decide, rfl, fun j j0 j1 => by omega⟩, fun s s0 s1 => ⟨u0_z (by decide) s, fun h => absurd (show (0 : Int) = 1 from h) (by decide)⟩, ⟨rfl, rfl⟩, fun j j0 j1 => by omega, ?_⟩, ⟨?_, ?_, ⟨rfl, fun j j0 j1 => by omega⟩, fun s s0 s1 => ⟨u0_z (by decide) s, fun h => absurd (show (0 : Int) = 1 from h) (by decide)⟩, ⟨rfl, rfl⟩, fun j j0 j1 => by omega, rfl, fun j hj => absurd hj (Nat.not_lt_zero _)⟩, ?_⟩
  · show CN u0 10 dN
    exact ⟨by decide +kernel, ⟨rfl, rfl, rfl, rfl, rfl, rfl, rfl, rfl, rfl, rfl, rfl, rfl, rfl, rfl, rfl⟩, fun s s0 s1 => by omega, fun s s0 s1 => by omega, fun a b a0 a1 => by omega, fun n s n0 n1 s0 s1 => by omega⟩
  · refine ⟨by decide +kernel, fun j s hv => ?_, fun s s0 s1 => by omega⟩
    have hj : j ≤ 14 := by
      have hv : vd 0 0 j s := hv
      unfold vd at hv; omega
    exact u0_z (by omega) s
  · exact ⟨rfl, rfl, Or.inl rfl, by decide, fun j _ => by rw [u0_z (by decide)]; omega, fun j hj => absurd hj (Nat.not_lt_zero _), by decide, by decide⟩
  · refine ⟨fun i i0 i1 => ?_, fun s s0 s1 => by omega, fun r r0 r1 => by omega⟩
    show u0 42 i = dN 0 i
    have e : u0 42 i = if 0 ≤ i ∧ i < 30 then dN 0 (i % 15) else 0 := rfl
    rw [e, if_pos (by omega), Int.emod_eq_of_lt i0 i1]
  · intro j s hv
    exact u0_z (by decide) _
  · exact ⟨dN_w, ⟨zV_w, by decide⟩, ⟨⟨by decide, fun j j0 j1 => by omega⟩, fun j j0 j1 => by omega⟩, ⟨fun s s0 s1 => ⟨Or.inl rfl, fun h => absurd (show (0 : Int) = 1 from h) (by decide)⟩, fun s s0 s1 h => absurd (show (0 : Int) = 1 from h) (by decide)⟩, by decide, fun j j0 j1 => by omega, by decide, by decide, fun x hx => by cases hx⟩
