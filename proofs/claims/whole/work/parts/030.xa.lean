/-! the picture -/
/-- the classes; the arrays' classes by tag; the addresses; the size that the heap had before all of these cells -/
abbrev gP : Type := va_G × (Nat → ClassId) × (Nat → Nat) × Nat
def gT (t : gP) : List (ClassId × FieldType) := [(t.2.1 100, .int), (t.2.1 101, .boolean), (t.2.1 102, .byte), (t.2.1 103, .long), (t.2.1 104, .object "TriggerNetwork$Situation")]
def gA (t : gP) : Nat → Prop := fun q => t.2.2.2 ≤ q
/-- the address of a cell (the StringBuilder's bytes, cell 38, move as it grows: then t is another; u 1000 1 is their number) -/
def gad (t : gP) (k : Nat) : Nat := t.2.2.1 k
def gV (t : gP) (u : uS) (k j : Nat) : Value :=
  if fC (sT k) j = 0 then .int (iI (u k (j : Int))) else if fC (sT k) j = 1000 then .ref (t.2.2.1 (u k (j : Int)).toNat) else .ref (t.2.2.1 (k + fC (sT k) j))
def gO (t : gP) (u : uS) (k : Nat) : List Value := (List.range (fN (sT k))).map (gV t u k)
def gE (t : gP) (u : uS) (k : Nat) : va_E :=
  if sT k < 100 then .inr (sT k, gO t u k)
  else if sT k = 104 then .inl (t.2.1 104, sN k, .inr (.inr (.inr (.inr (fun j => some (t.2.2.1 (sB k + 15 * j)))))))
  else if sT k = 103 then .inl (t.2.1 103, sN k, .inr (.inl (fun j => lI (u k (j : Int)))))
  else if sT k = 105 then .inl (t.2.1 102, (u 1000 1).toNat, .inl (fun j => iI (u k (j : Int))))
  else .inl (t.2.1 (sT k), sN k, .inl (fun j => iI (u k (j : Int))))
def G (t : gP) (u : uS) (H : Heap) : Prop :=
  (∀ k, k < NN → va_at t.1 vwCl (gad t k, gE t u k) H) ∧ (∀ i j, i < NN → j < NN → gad t i = gad t j → i = j) ∧ ∀ k, k < NN → t.2.2.2 ≤ gad t k
def gL (t : gP) (u : uS) : va_W := (List.range NN).map (fun k => (gad t k, gE t u k))
theorem gL_at {t : gP} {u : uS} {k : Nat} (hk : k < NN) : (gL t u)[k]? = some (gad t k, gE t u k) := by
  unfold gL
  rw [List.getElem?_map, List.getElem?_range hk]
  rfl
theorem gL_lt {t : gP} {u : uS} {k : Nat} {q : Nat × va_E} (h : (gL t u)[k]? = some q) : k < NN ∧ q = (gad t k, gE t u k) := by
  have hk : k < NN := by
    have := (List.getElem?_eq_some_iff.mp h).1
    unfold gL at this
    rwa [List.length_map, List.length_range] at this
  exact ⟨hk, Option.some.inj (h.symm.trans (gL_at hk))⟩
theorem G.P {t : gP} {u : uS} {H : Heap} (h : G t u H) : va_P t.1 vwCl (gL t u) H := fun k q hq => by
  obtain ⟨hk, rfl⟩ := gL_lt hq
  exact h.1 k hk
theorem G.D {t : gP} {u : uS} {H : Heap} (h : G t u H) : va_D (gA t) (gL t u) := by
  refine ⟨fun i j p q hp hq hpq => ?_, fun k q hq => ?_⟩
  · obtain ⟨hi, rfl⟩ := gL_lt hp
    obtain ⟨hj, rfl⟩ := gL_lt hq
    exact h.2.1 i j hi hj hpq
  · obtain ⟨hk, rfl⟩ := gL_lt hq
    exact h.2.2 k hk
theorem gE_of {t : gP} {u u' : uS} {i : Nat} (h : ∀ j, u' i j = u i j) (h9 : ∀ j, u' 1000 j = u 1000 j) : gE t u' i = gE t u i := by
  have hV : gV t u' i = gV t u i := by funext j; simp only [gV, h, h9]
  simp only [gE, gO, hV, h, h9]
/-- a store into cell k -/
theorem G.store {t : gP} {u u' : uS} {H H1 : Heap} {k a : Nat} {e : va_E} (h : G t u H) (hk : k < NN) (hP : va_P t.1 vwCl ((gL t u).set k (a, e)) H1) (ha : gad t k = a) (he : gE t u' k = e) (ho : ∀ i j, i ≠ k → u' i j = u i j) : G t u' H1 := by
  have h9 : ∀ j, u' 1000 j = u 1000 j := fun j => ho 1000 j (by have : k < 264 := hk; omega)
  have hlen : (gL t u).length = NN := by unfold gL; rw [List.length_map, List.length_range]
  refine ⟨fun i hi => ?_, fun i j hi hj => ?_, fun i hi => ?_⟩
  · by_cases hik : i = k
    · subst hik
      have := hP i (a, e) (by rw [List.getElem?_set_self (by rw [hlen]; exact hk)])
      rw [ha, he]; exact this
    · rw [gE_of (fun j => ho i j hik) h9]
      exact hP i _ (by rw [List.getElem?_set_ne (Ne.symm hik)]; exact gL_at hi)
  · exact h.2.1 i j hi hj
  · exact h.2.2 i hi
theorem gL_o {t : gP} {u : uS} {k ci : Nat} (hk : k < NN) (hs : sT k = ci) (hc : ci < 100) : (gL t u)[k]? = some (t.2.2.1 k, .inr (ci, gO t u k)) := by
  rw [gL_at hk]
  simp only [gad, gE, hs]
  rw [if_pos hc]
theorem gad_o {t : gP} {k ci : Nat} (hs : sT k = ci) (hc : ci ≠ 999) : gad t k = t.2.2.1 k := rfl
theorem gE_a {t : gP} {u : uS} {k g : Nat} (hs : sT k = g) (hg : 100 ≤ g ∧ g < 103) : gE t u k = .inl (t.2.1 g, sN k, .inl (fun j => iI (u k (j : Int)))) := by
  simp only [gE, hs]
  rw [if_neg (by omega), if_neg (by omega), if_neg (by omega), if_neg (by omega)]
theorem gL_a {t : gP} {u : uS} {k g : Nat} (hk : k < NN) (hs : sT k = g) (hg : 100 ≤ g ∧ g < 103) : (gL t u)[k]? = some (t.2.2.1 k, .inl (t.2.1 g, sN k, .inl (fun j => iI (u k (j : Int))))) := by
  rw [gL_at hk, gad_o hs (by omega), gE_a hs hg]
theorem gO_at {t : gP} {u : uS} {k ci j : Nat} (hs : sT k = ci) (hj : j < fN ci) : (gO t u k)[j]? = some (gV t u k j) := by
  unfold gO
  rw [hs, List.getElem?_map, List.getElem?_range hj]
  rfl
theorem gO_len {t : gP} {u : uS} {k ci : Nat} (hs : sT k = ci) : (gO t u k).length = fN ci := by
  unfold gO
  rw [hs, List.length_map, List.length_range]
/-- a field's store, seen in the object's list -/
theorem gO_set {t : gP} {u u' : uS} {k ci j : Nat} (hs : sT k = ci) (h9 : ∀ i, u' 1000 i = u 1000 i) (ho : ∀ i : Int, i ≠ (j : Int) → u' k i = u k i) : gO t u' k = (gO t u k).set j (gV t u' k j) := by
  apply List.ext_getElem?
  intro i
  by_cases hi : i < fN ci
  · rw [gO_at hs hi]
    by_cases hij : i = j
    · subst hij
      rw [List.getElem?_set_self (by rw [gO_len hs]; exact hi)]
    · rw [List.getElem?_set_ne (Ne.symm hij), gO_at hs hi]
      have : u' k (i : Int) = u k (i : Int) := ho _ (by omega)
      simp only [gV, this, h9]
  · rw [List.getElem?_eq_none (by rw [gO_len hs]; omega), List.getElem?_eq_none (by rw [List.length_set, gO_len hs]; omega)]
