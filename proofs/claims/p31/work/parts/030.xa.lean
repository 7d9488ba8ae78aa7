/-! the picture of the cells that are there: the class's always, the law's once they are made -/
/-- the classes; the arrays' classes by tag; the addresses (1000 + k: 1 once cell k of the law's is made); the size that the heap had before all of these cells -/
abbrev gP : Type := va_G × (Nat → ClassId) × (Nat → Nat) × Nat
def gT (t : gP) : List (ClassId × FieldType) := [(t.2.1 100, .int), (t.2.1 101, .boolean), (t.2.1 102, .byte), (t.2.1 100, .int), (t.2.1 104, .object "TriggerNetwork$Situation"), (t.2.1 106, .object "TriggerNetworkLaw$Place"), (t.2.1 107, .object "TriggerNetworkLaw$Pick")]
def gA (t : gP) : Nat → Prop := fun q => t.2.2.2 ≤ q
def gad (t : gP) (k : Nat) : Nat := t.2.2.1 k
def aln (t : gP) (k : Nat) : Bool := decide (sT k ≠ 999) && (decide (k < NN) || (decide (k < NM) && decide (t.2.2.1 (1000 + k) = 1)))
/-- the cell is there -/
abbrev al (t : gP) (k : Nat) : Prop := aln t k = true
theorem al_lt {t : gP} {k : Nat} (h : al t k) : k < NM := by
  unfold al aln at h
  simp only [Bool.and_eq_true, Bool.or_eq_true, decide_eq_true_eq] at h
  rcases h.2 with h | h
  · exact Nat.lt_trans h (by decide)
  · exact h.1
theorem al_c {t : gP} {k ci : Nat} (hk : k < NN) (hs : sT k = ci) (h : ci ≠ 999) : al t k := by
  unfold al aln
  simp only [Bool.and_eq_true, Bool.or_eq_true, decide_eq_true_eq]
  exact ⟨by rw [hs]; exact h, Or.inl hk⟩
theorem al_n {t : gP} {k : Nat} (h : al t k) : sT k ≠ 999 := by
  unfold al aln at h
  simp only [Bool.and_eq_true, decide_eq_true_eq] at h
  exact h.1
theorem al_iff {t : gP} {k : Nat} : al t k ↔ sT k ≠ 999 ∧ (k < NN ∨ (k < NM ∧ t.2.2.1 (1000 + k) = 1)) := by
  unfold al aln
  simp only [Bool.and_eq_true, Bool.or_eq_true, decide_eq_true_eq]
def gV (t : gP) (u : uS) (k j : Nat) : Value :=
  if fC (sT k) j = 0 then .int (iI (u k (j : Int))) else if fC (sT k) j = 1000 then .ref (t.2.2.1 (u k (j : Int)).toNat) else .ref (t.2.2.1 (k + fC (sT k) j))
def gO (t : gP) (u : uS) (k : Nat) : List Value := (List.range (fN (sT k))).map (gV t u k)
/-- a row of references: below 0 null, else the cell named -/
def gQ (t : gP) (u : uS) (k : Nat) : Nat → Option Nat := fun j => if j < sN k then (if u k (j : Int) < 0 then none else some (t.2.2.1 (u k (j : Int)).toNat)) else none
def gE (t : gP) (u : uS) (k : Nat) : va_E :=
  if sT k < 100 then .inr (sT k, gO t u k)
  else if sT k = 104 then .inl (t.2.1 104, sN k, .inr (.inr (.inr (.inr (fun j => some (t.2.2.1 (sB k + 15 * (j % sN k))))))))
  else if sT k = 103 then .inl (t.2.1 103, sN k, .inr (.inl (fun j => lI (u k (j : Int)))))
  else if sT k = 105 then .inl (t.2.1 102, (u 1000 1).toNat, .inl (fun j => iI (u k (j : Int))))
  else if sT k = 108 then .inl (t.2.1 102, (u 1000 2).toNat, .inl (fun j => iI (u k (j : Int))))
  else if sT k = 109 then .inl (t.2.1 102, (u 1000 3).toNat, .inl (fun j => iI (u k (j : Int))))
  else if sT k = 106 ∨ sT k = 107 then .inl (t.2.1 (sT k), sN k, .inr (.inr (.inr (.inr (gQ t u k)))))
  else .inl (t.2.1 (sT k), sN k, .inl (fun j => iI (u k (j : Int))))
/-- what lies behind a cell that is there is there too -/
def gC (t : gP) (u : uS) : Prop :=
  (∀ k, al t k → sT k = 16 → al t (k + 1)) ∧ (al t 264 → al t 265 ∧ al t 266 ∧ al t 267 ∧ al t 268 ∧ al t 269 ∧ al t 270) ∧
  ∀ k, al t k → sT k = 106 ∨ sT k = 107 → ∀ j : Int, 0 ≤ j → j < (sN k : Int) → 0 ≤ u k j → al t (u k j).toNat ∧ sT (u k j).toNat = (if sT k = 106 then 16 else 15)
def G (t : gP) (u : uS) (H : Heap) : Prop :=
  (∀ k, al t k → va_at t.1 vwCl (gad t k, gE t u k) H) ∧ (∀ i j, al t i → al t j → gad t i = gad t j → i = j) ∧ (∀ k, al t k → t.2.2.2 ≤ gad t k) ∧ gC t u
def gIds (t : gP) : List Nat := (List.range NM).filter (aln t)
def gL (t : gP) (u : uS) : va_W := (gIds t).map (fun k => (gad t k, gE t u k))
/-- a cell's place in the list -/
def gi (t : gP) (k : Nat) : Nat := (gIds t).idxOf k
theorem gIds_mem {t : gP} {k : Nat} : k ∈ gIds t ↔ al t k := by
  unfold gIds
  rw [List.mem_filter, List.mem_range]
  exact ⟨fun h => h.2, fun h => ⟨al_lt h, h⟩⟩
theorem gi_at {t : gP} {k : Nat} (hk : al t k) : (gIds t)[gi t k]? = some k := by
  unfold gi
  have hm := gIds_mem.mpr hk
  have hl := List.idxOf_lt_length_of_mem hm
  rw [List.getElem?_eq_getElem hl]
  exact congrArg some (List.getElem_idxOf hl)
theorem gL_at {t : gP} {u : uS} {k : Nat} (hk : al t k) : (gL t u)[gi t k]? = some (gad t k, gE t u k) := by
  unfold gL
  rw [List.getElem?_map, gi_at hk]
  rfl
theorem gL_lt {t : gP} {u : uS} {i : Nat} {q : Nat × va_E} (h : (gL t u)[i]? = some q) : ∃ k, al t k ∧ (gIds t)[i]? = some k ∧ q = (gad t k, gE t u k) := by
  unfold gL at h
  rw [List.getElem?_map] at h
  cases hk : (gIds t)[i]? with
  | none => rw [hk] at h; cases h
  | some k =>
    rw [hk] at h
    exact ⟨k, gIds_mem.mp (List.mem_of_getElem? hk), rfl, (Option.some.inj h).symm⟩
theorem gIds_nd {t : gP} : (gIds t).Nodup := List.Pairwise.filter _ List.nodup_range
theorem gi_inj {t : gP} {i j : Nat} (hi : al t i) (hj : al t j) (h : gi t i = gi t j) : i = j := by
  have h1 := gi_at hi
  rw [h, gi_at hj] at h1
  exact (Option.some.inj h1).symm
theorem gL_len {t : gP} {u v : uS} : (gL t u).length = (gL t v).length := by
  unfold gL
  rw [List.length_map, List.length_map]
theorem gi_lt {t : gP} {u : uS} {k : Nat} (hk : al t k) : gi t k < (gL t u).length := (List.getElem?_eq_some_iff.mp (gL_at (u := u) hk)).1
theorem G.P {t : gP} {u : uS} {H : Heap} (h : G t u H) : va_P t.1 vwCl (gL t u) H := fun i q hq => by
  obtain ⟨k, hk, -, rfl⟩ := gL_lt hq
  exact h.1 k hk
theorem G.D {t : gP} {u : uS} {H : Heap} (h : G t u H) : va_D (gA t) (gL t u) := by
  refine ⟨fun i j p q hp hq hpq => ?_, fun k q hq => ?_⟩
  · obtain ⟨a, ha, hia, rfl⟩ := gL_lt hp
    obtain ⟨b, hb, hjb, rfl⟩ := gL_lt hq
    have hab := h.2.1 a b ha hb hpq
    subst hab
    exact (List.getElem?_inj (List.getElem?_eq_some_iff.mp hia).1 gIds_nd).mp (hia.trans hjb.symm)
  · obtain ⟨a, ha, -, rfl⟩ := gL_lt hq
    exact h.2.2.1 a ha
theorem gE_of {t : gP} {u u' : uS} {i : Nat} (h : ∀ j, u' i j = u i j) (h9 : ∀ j, u' 1000 j = u 1000 j) : gE t u' i = gE t u i := by
  have hV : gV t u' i = gV t u i := by funext j; simp only [gV, h, h9]
  have hQ : gQ t u' i = gQ t u i := by funext j; simp only [gQ, h]
  simp only [gE, gO, hV, hQ, h, h9]
theorem gC_of {t : gP} {u u' : uS} (h : gC t u) (ho : ∀ k, al t k → sT k = 106 ∨ sT k = 107 → ∀ j : Int, u' k j = u k j) : gC t u' :=
  ⟨h.1, h.2.1, fun k hk hs j h0 h1 hj => by rw [ho k hk hs j] at hj ⊢; exact h.2.2 k hk hs j h0 h1 hj⟩
/-- a store into cell k, which is no row of references -/
theorem G.store {t : gP} {u u' : uS} {H H1 : Heap} {k a : Nat} {e : va_E} (h : G t u H) (hk : al t k) (h6 : sT k ≠ 106 ∧ sT k ≠ 107) (hP : va_P t.1 vwCl ((gL t u).set (gi t k) (a, e)) H1) (ha : gad t k = a) (he : gE t u' k = e) (ho : ∀ i j, i ≠ k → u' i j = u i j) : G t u' H1 := by
  have h9 : ∀ j, u' 1000 j = u 1000 j := fun j => ho 1000 j (by have : k < 358 := al_lt hk; omega)
  refine ⟨fun i hi => ?_, h.2.1, h.2.2.1, gC_of h.2.2.2 fun i hi hs j => ho i j (fun q => by subst q; rcases hs with q | q; exact h6.1 q; exact h6.2 q)⟩
  by_cases hik : i = k
  · subst hik
    have := hP (gi t i) (a, e) (by rw [List.getElem?_set_self (gi_lt hk)])
    rw [ha, he]; exact this
  · rw [gE_of (fun j => ho i j hik) h9]
    exact hP (gi t i) _ (by rw [List.getElem?_set_ne (fun q => hik (gi_inj hi hk q.symm))]; exact gL_at hi)
theorem gL_o {t : gP} {u : uS} {k ci : Nat} (hk : al t k) (hs : sT k = ci) (hc : ci < 100) : (gL t u)[gi t k]? = some (t.2.2.1 k, .inr (ci, gO t u k)) := by
  rw [gL_at hk]
  simp only [gad, gE, hs]
  rw [if_pos hc]
theorem gad_o {t : gP} {k ci : Nat} (hs : sT k = ci) (hc : ci ≠ 999) : gad t k = t.2.2.1 k := rfl
theorem gE_a {t : gP} {u : uS} {k g : Nat} (hs : sT k = g) (hg : 100 ≤ g ∧ g < 103) : gE t u k = .inl (t.2.1 g, sN k, .inl (fun j => iI (u k (j : Int)))) := by
  simp only [gE, hs]
  rw [if_neg (by omega), if_neg (by omega), if_neg (by omega), if_neg (by omega), if_neg (by omega), if_neg (by omega), if_neg (by omega)]
theorem gL_a {t : gP} {u : uS} {k g : Nat} (hk : al t k) (hs : sT k = g) (hg : 100 ≤ g ∧ g < 103) : (gL t u)[gi t k]? = some (t.2.2.1 k, .inl (t.2.1 g, sN k, .inl (fun j => iI (u k (j : Int))))) := by
  rw [gL_at hk, gad_o hs (by omega), gE_a hs hg]
theorem gE_q {t : gP} {u : uS} {k g : Nat} (hs : sT k = g) (hg : g = 106 ∨ g = 107) : gE t u k = .inl (t.2.1 g, sN k, .inr (.inr (.inr (.inr (gQ t u k))))) := by
  simp only [gE, hs]
  rw [if_neg (by omega), if_neg (by omega), if_neg (by omega), if_neg (by omega), if_neg (by omega), if_neg (by omega), if_pos hg]
theorem gL_q {t : gP} {u : uS} {k g : Nat} (hk : al t k) (hs : sT k = g) (hg : g = 106 ∨ g = 107) : (gL t u)[gi t k]? = some (t.2.2.1 k, .inl (t.2.1 g, sN k, .inr (.inr (.inr (.inr (gQ t u k)))))) := by
  rw [gL_at hk, gad_o hs (by omega), gE_q hs hg]
theorem gO_at {t : gP} {u : uS} {k ci j : Nat} (hs : sT k = ci) (hj : j < fN ci) : (gO t u k)[j]? = some (gV t u k j) := by
  unfold gO
  rw [hs, List.getElem?_map, List.getElem?_range hj]
  rfl
theorem gO_len {t : gP} {u : uS} {k ci : Nat} (hs : sT k = ci) : (gO t u k).length = fN ci := by
  unfold gO
  rw [hs, List.length_map, List.length_range]
/-- a field's store, seen in the object's list -/
theorem gO_set {t : gP} {u u' : uS} {k ci j : Nat} (hs : sT k = ci) (h9 : ∀ i, u' 1000 i = u 1000 i) (ho : ∀ i : Int, i ≠ (j : Int) → u' k i = u k i) : gO t u' k = (gO t u k).set j (gV t u' k j) := by
  apply List.ext_getElem?
  intro i
  by_cases hi : i < fN ci
  · rw [gO_at hs hi]
    by_cases hij : i = j
    · subst hij
      rw [List.getElem?_set_self (by rw [gO_len hs]; exact hi)]
    · rw [List.getElem?_set_ne (Ne.symm hij), gO_at hs hi]
      have : u' k (i : Int) = u k (i : Int) := ho _ (by omega)
      simp only [gV, this, h9]
  · rw [List.getElem?_eq_none (by rw [gO_len hs]; omega), List.getElem?_eq_none (by rw [List.length_set, gO_len hs]; omega)]
