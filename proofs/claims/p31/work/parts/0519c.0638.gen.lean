/-! of the values, for both sides -/
section GE
variable {u N V : uS}
theorem nb_b {N V : uS} {e : Int} : ∀ {d : Nat} {n b l : Int}, 0 ≤ n → 0 ≤ b → b < n → 0 ≤ nb N V e d n b l ∧ nb N V e d n b l < n + d := by
  intro d
  induction d with
  | zero => intro n b l h0 h1 h2; exact ⟨h1, by show b < n + ((0 : Nat) : Int); omega⟩
  | succ d ih =>
    intro n b l h0 h1 h2
    have := @ih (n + 1) (if msf N V n e < l then n else b) (if msf N V n e < l then msf N V n e else l) (by omega) (by split <;> omega) (by split <;> omega)
    show 0 ≤ nb N V e d (n + 1) _ _ ∧ nb N V e d (n + 1) _ _ < n + ((d + 1 : Nat) : Int)
    omega
theorem nde_b {N V : uS} (hN : NWF N) (e : Int) : 0 ≤ nde N V e ∧ nde N V e < nds N := by
  have h := nds_b hN
  have := @nb_b N V e (nds N - 1).toNat 1 0 (msf N V 0 e) (by decide) (by decide) (by decide)
  unfold nde
  omega
/-! pure part, 8: the reference's tick -/
theorem VE.cg {a b : Int} {A V V' : uS} (h : VE a b A V) (e : ∀ j s, vd a b j s → V j s = V' j s) : VE a b A V' := fun j s hv => (h j s hv).trans (e j s hv)
theorem VE.extE {a b : Int} {A V : uS} (h : VE a b A V) (h13 : A 13 b = V 13 b) (h14 : A 14 b = V 14 b) : VE a (b + 1) A V := fun j s hv => by
  by_cases h1 : (j = 13 ∨ j = 14) ∧ s = b
  · obtain ⟨rfl | rfl, rfl⟩ := h1
    · exact h13
    · exact h14
  · exact h j s (by unfold vd at *; omega)
theorem VE.extP {a b : Int} {A V : uS} (h : VE a b A V) (hp : ∀ j, 8 ≤ j → j ≤ 12 → A j a = V j a) : VE (a + 1) b A V := fun j s hv => by
  by_cases h1 : (8 ≤ j ∧ j ≤ 12) ∧ s = a
  · obtain ⟨⟨h2, h3⟩, rfl⟩ := h1
    exact hp j h2 h3
  · exact h j s (by unfold vd at *; omega)
theorem fri_fr {e i : Int} {j : Nat} {s : Int} (h : j = 11 → s < i) : fri V e i j s = fr V e j s := by
  unfold fri fr
  by_cases hj : j = 11
  · have hs := h hj
    subst hj
    by_cases h9 : V 11 s = e
    · rw [if_pos ⟨rfl, hs, h9⟩, if_pos ⟨rfl, h9⟩]
    · rw [if_neg (fun h => h9 h.2.2), if_neg (fun h => h9 h.2)]
  · rw [if_neg (fun h => hj h.1), if_neg (fun h => hj h.1)]
theorem fri_0 {e : Int} {j : Nat} {s : Int} (h : j = 11 → 0 ≤ s) : V j s = fri V e 0 j s := by
  unfold fri
  rw [if_neg (fun h2 => by have := h h2.1; omega)]
theorem fri_s {e i : Int} {j : Nat} {s : Int} (h : V 11 i = e) : up (fri V e i) 11 i (-1) j s = fri V e (i + 1) j s := by
  unfold up fri
  by_cases hj : j = 11
  · subst hj
    by_cases hs : s = i
    · subst hs
      rw [if_pos ⟨rfl, rfl⟩, if_pos ⟨rfl, by omega, h⟩]
    · rw [if_neg (fun h => hs h.2)]
      by_cases h9 : s < i ∧ V 11 s = e
      · rw [if_pos ⟨rfl, h9⟩, if_pos ⟨rfl, by omega, h9.2⟩]
      · rw [if_neg (fun h => h9 h.2), if_neg (fun h => h9 ⟨by omega, h.2.2⟩)]
  · rw [if_neg (fun h => hj h.1), if_neg (fun h => hj h.1), if_neg (fun h => hj h.1)]
theorem fri_n {e i : Int} {j : Nat} {s : Int} (h : V 11 i ≠ e) : fri V e i j s = fri V e (i + 1) j s := by
  unfold fri
  by_cases hj : j = 11
  · subst hj
    by_cases hs : s = i
    · subst hs
      rw [if_neg (by omega), if_neg (by omega)]
    · by_cases h9 : s < i ∧ V 11 s = e
      · rw [if_pos ⟨rfl, h9⟩, if_pos ⟨rfl, by omega, h9.2⟩]
      · rw [if_neg (fun h => h9 h.2), if_neg (fun h => h9 ⟨by omega, h.2.2⟩)]
  · rw [if_neg (fun h => hj h.1), if_neg (fun h => hj h.1)]
theorem vd11 {a b s : Int} (h : vd a b 11 s) : 0 ≤ s ∧ s < a := by unfold vd at h; omega
theorem gsz_0 {p : Int} (hp : 0 ≤ p ∧ p < V 0 1) : gsz N V p 0 = 1 := by
  unfold gsz
  rw [sg_one (f := fun _ => 0) (g := fun q => cif (gm N V p 0 q) 1 0) (i := p) hp.1 (by omega) (fun q _ _ hq => cif_f hq), sg_z (fun _ _ _ => rfl), cif_t (show gm N V p 0 p from rfl)]
  rfl
theorem gm_s0 {p : Int} {i : Nat} (h : ¬ ((i : Int) ≠ p ∧ V 11 (i : Int) = -1 ∧ V 12 (i : Int) = 0 ∧ ∀ r, gm N V p i r → fit N V r (i : Int))) : gm N V p (i + 1) = gm N V p i := by
  funext q
  refine propext ⟨fun hq => ?_, fun hq => Or.inl hq⟩
  rcases hq with hq | ⟨h1, h2, h3, h4, h5⟩
  · exact hq
  · subst h1; exact absurd ⟨h2, h3, h4, h5⟩ h
theorem gm_s1 {p : Int} {i : Nat} (h : (i : Int) ≠ p ∧ V 11 (i : Int) = -1 ∧ V 12 (i : Int) = 0 ∧ ∀ r, gm N V p i r → fit N V r (i : Int)) (q : Int) : gm N V p (i + 1) q ↔ (q = (i : Int) ∨ gm N V p i q) := by
  refine ⟨fun hq => ?_, fun hq => ?_⟩
  · rcases hq with hq | ⟨h1, -⟩
    · exact Or.inr hq
    · exact Or.inl h1
  · rcases hq with hq | hq
    · subst hq; exact Or.inr ⟨rfl, h⟩
    · exact Or.inl hq
theorem gm_no {p : Int} {i : Nat} (h : (i : Int) ≠ p) : ¬ gm N V p i (i : Int) := fun hq => by
  rcases gm_in hq with h1 | h1
  · exact h h1
  · omega
theorem gsz_s1 {p : Int} {i : Nat} (hi : (i : Int) < V 0 1) (h : (i : Int) ≠ p ∧ V 11 (i : Int) = -1 ∧ V 12 (i : Int) = 0 ∧ ∀ r, gm N V p i r → fit N V r (i : Int)) : gsz N V p (i + 1) = gsz N V p i + 1 := by
  unfold gsz
  rw [sg_one (f := fun q => cif (gm N V p i q) 1 0) (g := fun q => cif (gm N V p (i + 1) q) 1 0) (i := (i : Int)) (by omega) (by omega) (fun q _ _ hq => cif_c ((gm_s1 h q).trans ⟨fun h9 => h9.resolve_left hq, Or.inr⟩)), cif_t ((gm_s1 h i).mpr (Or.inl rfl)), cif_f (gm_no h.1)]
  omega
theorem gsz_b {p : Int} {i : Nat} (h : 0 ≤ V 0 1) : 0 ≤ gsz N V p i ∧ gsz N V p i ≤ V 0 1 := by
  have h2 := @sg_le (fun q => cif (gm N V p i q) 1 0) 1 (V 0 1).toNat (fun q _ _ => by
    show 0 ≤ cif (gm N V p i q) (1 : Int) 0 ∧ cif (gm N V p i q) (1 : Int) 0 ≤ 1
    by_cases hq : gm N V p i q
    · rw [cif_t hq]; omega
    · rw [cif_f hq]; omega)
  unfold gsz
  omega
/-! pure part, 9: the reference's tick, to its end -/
theorem VE.st {a b : Int} {u w V : uS} {c : Nat} (h : VE a b (fun j s => u c (ix j s)) V) (ha : a ≤ 60) (hb : b ≤ 20) (j : Nat) (s v' : Int) {i v : Int} (hw : w = up u c i v) (e : v = v') (hv : vd 60 20 j s) (hi : i = ix j s) : VE a b (fun j s => w c (ix j s)) (up V j s v') := by
  subst hw e; exact h.upM ha hb hv hi
theorem smp_0 {j : Nat} {s : Int} : up V 0 0 (V 0 0 + 1) j s = smp V 0 j s := by
  unfold up smp
  by_cases h : j = 0 ∧ s = 0
  · rw [if_pos h, if_pos h]
  · rw [if_neg h, if_neg h, if_neg (by omega)]
theorem smp_s {i : Int} {j : Nat} {s : Int} (hi : 0 ≤ i) (ht : 0 ≤ V 0 0) : up (smp V i) 2 (99 * i + (V 0 0 + 1) % 99) (V 1 i) j s = smp V (i + 1) j s := by
  unfold up smp
  by_cases h : j = 0 ∧ s = 0
  · rw [if_neg (by omega), if_pos h, if_pos h]
  · rw [if_neg h, if_neg h]
    by_cases h2 : j = 2 ∧ s = 99 * i + (V 0 0 + 1) % 99
    · rw [if_pos h2, if_pos ⟨h2.1, by omega, by omega, by omega⟩]
      congr 1
      omega
    · rw [if_neg h2]
      by_cases h3 : j = 2 ∧ 0 ≤ s ∧ s < 99 * i ∧ s % 99 = (V 0 0 + 1) % 99
      · rw [if_pos h3, if_pos ⟨h3.1, by omega, by omega, by omega⟩]
      · rw [if_neg h3, if_neg (fun h4 => by
          by_cases h5 : s < 99 * i
          · exact h3 ⟨h4.1, h4.2.1, h5, h4.2.2.2⟩
          · exact h2 ⟨h4.1, by omega⟩)]
end GE
