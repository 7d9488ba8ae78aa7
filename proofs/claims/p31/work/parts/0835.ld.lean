/-! the beginning: all cells once the law has made its object -/
def u0 : uS := fun c j =>
  if c = 0 then (if j = 4 then 10 else if j = 5 then 19 else if j = 2 then -1 else 0)
  else if c = 2 then (if j = 0 then -1 else 0)
  else if c = 10 ∨ c = 19 then (if 0 ≤ j then ([0, 0, 60, 3, 12, 300, 150, 3, 2, 1, 0] : List Int).getD j.toNat 0 else 0)
  else if c = 11 ∨ c = 20 then (if 0 ≤ j then ([0, 0, 5, 5, 20] : List Int).getD j.toNat 0 else 0)
  else if c = 1000 then (if j = 1 then 16 else 0) else 0
theorem u0_z {c : Nat} (h : c ≠ 0 ∧ c ≠ 2 ∧ c ≠ 10 ∧ c ≠ 19 ∧ c ≠ 11 ∧ c ≠ 20 ∧ c ≠ 1000) (j : Int) : u0 c j = 0 := by
  unfold u0
  rw [if_neg (by omega), if_neg (by omega), if_neg (by omega), if_neg (by omega), if_neg (by omega)]
/-- between networks -/
def QS (u : uS) : Prop := ∃ N V U S f c E B D, CI N V U S f c 0 E B D u ∧ PW N V U S f c 0 E B D
theorem qs_0 : QS u0 := by
  have d0 : dN 0 0 = 0 := rfl
  have d1 : dN 0 1 = 0 := rfl
  refine ⟨dN, zV, fun _ => zV, fun _ => zV, fun _ => 0, 0, -1, fun _ => 0, [], ⟨Or.inl ⟨rfl, rfl⟩, ?_, ?_, ⟨by decide, rfl, fun j j0 j1 => by omega⟩, fun s s0 s1 => ⟨u0_z (by decide) s, fun h => absurd (show (0 : Int) = 1 from h) (by decide)⟩, ⟨rfl, rfl⟩, fun j j0 j1 => by omega, rfl⟩, ?_⟩
  · show CN u0 10 dN
    exact ⟨by decide +kernel, ⟨rfl, rfl, rfl, rfl, rfl, rfl, rfl, rfl, rfl, rfl, rfl, rfl, rfl, rfl, rfl⟩, fun s s0 s1 => by omega, fun s s0 s1 => by omega, fun a b a0 a1 => by omega, fun n s n0 n1 s0 s1 => by omega⟩
  · refine ⟨by decide +kernel, fun j s hv => ?_, fun s s0 s1 => by omega⟩
    have hj : j ≤ 14 := by
      have hv : vd 0 0 j s := hv
      unfold vd at hv; omega
    exact u0_z (by omega) s
  · exact ⟨dN_w, ⟨zV_w, show (0 : Int) ≤ 9999 by decide⟩, ⟨⟨⟨by decide, by decide⟩, fun j j0 j1 => by omega⟩, fun j j0 j1 => by omega⟩, ⟨fun s s0 s1 => ⟨Or.inl rfl, fun h => absurd (show (0 : Int) = 1 from h) (by decide)⟩, fun s s0 s1 h => absurd (show (0 : Int) = 1 from h) (by decide)⟩, ⟨by decide, by decide⟩, fun j j0 j1 => by omega, ⟨by decide, by decide⟩, by decide, fun x hx => by cases hx⟩
/-- a seed is laid, a network played -/
theorem qs_plays {u w : uS} (h : QS u) (hw : ∀ c, c < 264 → w c = u c) : ∃ v, f_L_plays w = some (1, v) ∧ QS v := by
  obtain ⟨N, V, U, S, f, c, E, B, D, hC, hP⟩ := h
  obtain ⟨⟨r, v⟩, e, r1, hv⟩ := wplays (hC.k hw) hP
  have r1 : r = 1 := r1
  subst r1
  exact ⟨v, e, hv⟩
theorem QS.mk {u : uS} (h : QS u) : mkOk u := by
  obtain ⟨N, V, U, S, f, c, E, B, D, hC, hP⟩ := h
  exact hC.mk
