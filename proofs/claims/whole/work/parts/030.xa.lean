/-! X, part a: ints as integers; the one picture of all cells of class and reference -/
abbrev InR (x : Int) : Prop := -2147483648 ≤ x ∧ x < 2147483648
abbrev InL (x : Int) : Prop := -9223372036854775808 ≤ x ∧ x < 9223372036854775808
def iI (x : Int) : Int32 := Int32.ofInt x
def lI (x : Int) : Int64 := Int64.ofInt x
theorem iI_t {x : Int} (h : InR x) : (iI x).toInt = x := Int32.toInt_ofInt_of_le (by have := h.1; omega) (by have := h.2; omega)
theorem lI_t {x : Int} (h : InL x) : (lI x).toInt = x := Int64.toInt_ofInt_of_le (by have := h.1; omega) (by have := h.2; omega)
theorem iI_x (x : Int32) : iI x.toInt = x := Int32.ofInt_toInt x
theorem inR_x (x : Int32) : InR x.toInt := ⟨by have := Int32.le_toInt x; omega, by have := Int32.toInt_lt x; omega⟩
theorem iI_add (a b : Int) : iI a + iI b = iI (a + b) := (Int32.ofInt_add a b).symm
theorem iI_sub (a b : Int) : iI a - iI b = iI (a - b) := (Int32.ofInt_sub a b).symm
theorem iI_mul (a b : Int) : iI a * iI b = iI (a * b) := (Int32.ofInt_mul a b).symm
theorem iI_neg (a : Int) : -iI a = iI (-a) := (Int32.ofInt_neg a).symm
theorem lI_mul (a b : Int) : lI a * lI b = lI (a * b) := (Int64.ofInt_mul a b).symm
theorem lI_add (a b : Int) : lI a + lI b = lI (a + b) := (Int64.ofInt_add a b).symm
theorem iI_lt {a b : Int} (ha : InR a) (hb : InR b) : iI a < iI b ↔ a < b := by rw [Int32.lt_iff_toInt_lt, iI_t ha, iI_t hb]
theorem iI_le {a b : Int} (ha : InR a) (hb : InR b) : iI a ≤ iI b ↔ a ≤ b := by rw [Int32.le_iff_toInt_le, iI_t ha, iI_t hb]
theorem iI_eq {a b : Int} (ha : InR a) (hb : InR b) : iI a = iI b ↔ a = b :=
  ⟨fun h => by have h2 := congrArg Int32.toInt h; rwa [iI_t ha, iI_t hb] at h2, fun h => by rw [h]⟩
theorem lI_eq {a b : Int} (ha : InL a) (hb : InL b) : lI a = lI b ↔ a = b :=
  ⟨fun h => by have h2 := congrArg Int64.toInt h; rwa [lI_t ha, lI_t hb] at h2, fun h => by rw [h]⟩
theorem lI_lt {a b : Int} (ha : InL a) (hb : InL b) : lI a < lI b ↔ a < b := by rw [Int64.lt_iff_toInt_lt, lI_t ha, lI_t hb]
theorem iI_div {a b : Int} (ha : InR a) (hb : InR b) : iI a / iI b = iI (a.tdiv b) :=
  (Int32.ofInt_tdiv (by rw [Int32.toInt_minValue]; have := ha.1; omega) (by rw [Int32.toInt_maxValue]; have := ha.2; omega) (by rw [Int32.toInt_minValue]; have := hb.1; omega) (by rw [Int32.toInt_maxValue]; have := hb.2; omega)).symm
theorem lI_div {a b : Int} (ha : InL a) (hb : InL b) : lI a / lI b = lI (a.tdiv b) :=
  (Int64.ofInt_tdiv (by rw [Int64.toInt_minValue]; have := ha.1; omega) (by rw [Int64.toInt_maxValue]; have := ha.2; omega) (by rw [Int64.toInt_minValue]; have := hb.1; omega) (by rw [Int64.toInt_maxValue]; have := hb.2; omega)).symm
theorem iI_rem {a b : Int} (ha : InR a) (hb : InR b) : iI a - iI a / iI b * iI b = iI (a.tmod b) := by
  rw [iI_div ha hb, iI_mul, iI_sub, Int.tmod_def, Int.mul_comm]
theorem iI_l {a : Int} (ha : InR a) : (iI a).toInt64 = lI a :=
  Int32.toInt64_ofInt (by rw [Int32.toInt_minValue]; have := ha.1; omega) (by rw [Int32.toInt_maxValue]; have := ha.2; omega)
theorem lI_i (a : Int) : (lI a).toInt32 = iI a := Int64.toInt32_ofInt
theorem iI_0 : iI 0 = 0 := rfl
theorem iI_ne0 {a : Int} (ha : InR a) (h : a ≠ 0) : ¬ iI a = 0 := fun h2 => h ((iI_eq ha (by decide)).mp (h2.trans iI_0.symm))
theorem lI_ne0 {a : Int} (ha : InL a) (h : a ≠ 0) : ¬ lI a = 0 := fun h2 => h ((lI_eq ha (by decide)).mp h2)
theorem iI_nat (n : Nat) : Int32.ofNat n = iI (n : Int) := Int32.ofInt_eq_ofNat.symm
theorem iI_in {a : Int} {n : Nat} (h : 0 ≤ a ∧ a < (n : Int)) (hn : n < 2147483648) : vp_in (iI a) n :=
  vp_in_iff.mpr (by rw [iI_t ⟨by omega, by omega⟩]; exact h)
theorem iI_cl {a : Int} (h : InR a) : (iI a).toNatClampNeg = a.toNat := by
  show (iI a).toInt.toNat = _
  rw [iI_t h]
/-! the state: cell, place -/
abbrev uS : Type := Nat → Int → Int
def up (u : uS) (k : Nat) (j v : Int) : uS := fun a b => if a = k ∧ b = j then v else u a b
def upA (u : uS) (k : Nat) (f : Int → Int) : uS := fun a b => if a = k then f b else u a b
theorem up_s (u : uS) (k : Nat) (j v : Int) : up u k j v k j = v := if_pos ⟨rfl, rfl⟩
theorem up_k {u : uS} {k i : Nat} {j v b : Int} (h : i ≠ k) : up u k j v i b = u i b := if_neg fun q => h q.1
theorem up_j {u : uS} {k i : Nat} {j v b : Int} (h : b ≠ j) : up u k j v i b = u i b := if_neg fun q => h q.2
theorem upA_s (u : uS) (k : Nat) (f : Int → Int) (b : Int) : upA u k f k b = f b := if_pos rfl
theorem upA_k {u : uS} {k i : Nat} {f : Int → Int} {b : Int} (h : i ≠ k) : upA u k f i b = u i b := if_neg h
/-! the shapes: by the classes' places in vwCl; 100 int, 101 boolean, 102 byte, 103 long, 104 rows of Situations, 105 the StringBuilder's bytes -/
def NN : Nat := 264
def shNet : List (Nat × Nat) := [(9, 15), (6, 5), (10, 3), (100, 8), (100, 8), (100, 8), (100, 8), (100, 64), (100, 1152)]
def shSit : List (Nat × Nat) := [(11, 17), (100, 8), (100, 792), (100, 8), (100, 8), (100, 8), (100, 8), (100, 8), (100, 60), (100, 60), (100, 60), (100, 60), (100, 60), (100, 20), (100, 20)]
def shMain : List (Nat × Nat) := [(13, 12), (100, 500), (5, 6), (12, 5), (100, 500), (100, 500), (100, 500), (100, 500), (100, 9), (100, 5)] ++ shNet ++ shNet ++ [(4, 2), (100, 60), (7, 6), (100, 60), (100, 60), (8, 5), (104, 10), (104, 2), (101, 2), (1, 4), (105, 0), (103, 1)] ++ [(14, 26), (100, 1167), (100, 30), (100, 16), (100, 16), (100, 16), (100, 16), (102, 500), (100, 101), (100, 80), (100, 1167), (100, 11670), (100, 2334), (101, 2)]
def sh (k : Nat) : Nat × Nat := if k < 54 then shMain.getD k (999, 0) else if k < 264 then shSit.getD ((k - 54) % 15) (999, 0) else (999, 0)
def sT (k : Nat) : Nat := (sh k).1
def sN (k : Nat) : Nat := (sh k).2
/-- where the rows of Situations begin -/
def sB (k : Nat) : Nat := if k = 34 then 84 else 234
/-- fields by class: 0 a number, 1000 a cell named by the state, else how far behind the object its cell lies -/
def fL (ci : Nat) : List Nat :=
  if ci = 4 then [1, 0] else if ci = 5 then [0, 1, 6, 7, 0, 0] else if ci = 6 then [0, 0, 0, 0, 0] else if ci = 7 then [0, 0, 0, 0, 1, 2] else if ci = 8 then [1, 2, 3, 0, 0]
  else if ci = 9 then [1, 2, 0, 0, 0, 0, 0, 0, 0, 0, 0, 5, 6, 7, 8] else if ci = 10 then [0, 1, 2] else if ci = 11 then [0, 0, 0, 1, 2, 3, 4, 5, 6, 7, 8, 9, 10, 11, 12, 13, 14]
  else if ci = 12 then [0, 1, 2, 3, 4] else if ci = 13 then [1, 0, 0, 2, 1000, 1000, 54, 69, 33, 28, 30, 37]
  else if ci = 14 then [0, 1, 2, 3, 4, 5, 6, 7, 0, 0, 0, 0, 0, 0, 0, 0, 0, 0, 8, 9, 0, 10, 0, 11, 12, 13] else if ci = 1 then [1, 0, 0, 0] else []
def fC (ci j : Nat) : Nat := (fL ci).getD j 0
def fN (ci : Nat) : Nat := (fL ci).length
/-! the picture -/
/-- the classes; the arrays' classes by tag; the addresses; the size that the heap had before all of these cells -/
abbrev gP : Type := va_G × (Nat → ClassId) × (Nat → Nat) × Nat
def gT (t : gP) : List (ClassId × FieldType) := [(t.2.1 100, .int), (t.2.1 101, .boolean), (t.2.1 102, .byte), (t.2.1 103, .long), (t.2.1 104, .object "TriggerNetwork$Situation")]
def gA (t : gP) : Nat → Prop := fun q => t.2.2.2 ≤ q
/-- the address of a cell (the StringBuilder's bytes, cell 38, move as it grows: then t is another; u 1000 1 is their number) -/
def gad (t : gP) (k : Nat) : Nat := t.2.2.1 k
def gV (t : gP) (u : uS) (k j : Nat) : Value :=
  if fC (sT k) j = 0 then .int (iI (u k (j : Int))) else if fC (sT k) j = 1000 then .ref (t.2.2.1 (u k (j : Int)).toNat) else .ref (t.2.2.1 (k + fC (sT k) j))
def gO (t : gP) (u : uS) (k : Nat) : List Value := (List.range (fN (sT k))).map (gV t u k)
def gE (t : gP) (u : uS) (k : Nat) : va_E :=
  if sT k < 100 then .inr (sT k, gO t u k)
  else if sT k = 104 then .inl (t.2.1 104, sN k, .inr (.inr (.inr (.inr (fun j => some (t.2.2.1 (sB k + 15 * j)))))))
  else if sT k = 103 then .inl (t.2.1 103, sN k, .inr (.inl (fun j => lI (u k (j : Int)))))
  else if sT k = 105 then .inl (t.2.1 102, (u 1000 1).toNat, .inl (fun j => iI (u k (j : Int))))
  else .inl (t.2.1 (sT k), sN k, .inl (fun j => iI (u k (j : Int))))
def G (t : gP) (u : uS) (H : Heap) : Prop :=
  (∀ k, k < NN → va_at t.1 vwCl (gad t k, gE t u k) H) ∧ (∀ i j, i < NN → j < NN → gad t i = gad t j → i = j) ∧ ∀ k, k < NN → t.2.2.2 ≤ gad t k
def gL (t : gP) (u : uS) : va_W := (List.range NN).map (fun k => (gad t k, gE t u k))
theorem gL_at {t : gP} {u : uS} {k : Nat} (hk : k < NN) : (gL t u)[k]? = some (gad t k, gE t u k) := by
  unfold gL
  rw [List.getElem?_map, List.getElem?_range hk]
  rfl
theorem gL_lt {t : gP} {u : uS} {k : Nat} {q : Nat × va_E} (h : (gL t u)[k]? = some q) : k < NN ∧ q = (gad t k, gE t u k) := by
  have hk : k < NN := by
    have := (List.getElem?_eq_some_iff.mp h).1
    unfold gL at this
    rwa [List.length_map, List.length_range] at this
  exact ⟨hk, Option.some.inj (h.symm.trans (gL_at hk))⟩
theorem G.P {t : gP} {u : uS} {H : Heap} (h : G t u H) : va_P t.1 vwCl (gL t u) H := fun k q hq => by
  obtain ⟨hk, rfl⟩ := gL_lt hq
  exact h.1 k hk
theorem G.D {t : gP} {u : uS} {H : Heap} (h : G t u H) : va_D (gA t) (gL t u) := by
  refine ⟨fun i j p q hp hq hpq => ?_, fun k q hq => ?_⟩
  · obtain ⟨hi, rfl⟩ := gL_lt hp
    obtain ⟨hj, rfl⟩ := gL_lt hq
    exact h.2.1 i j hi hj hpq
  · obtain ⟨hk, rfl⟩ := gL_lt hq
    exact h.2.2 k hk
theorem gE_of {t : gP} {u u' : uS} {i : Nat} (h : ∀ j, u' i j = u i j) (h9 : ∀ j, u' 1000 j = u 1000 j) : gE t u' i = gE t u i := by
  have hV : gV t u' i = gV t u i := by funext j; simp only [gV, h, h9]
  simp only [gE, gO, hV, h, h9]
/-- a store into cell k -/
theorem G.store {t : gP} {u u' : uS} {H H1 : Heap} {k a : Nat} {e : va_E} (h : G t u H) (hk : k < NN) (hP : va_P t.1 vwCl ((gL t u).set k (a, e)) H1) (ha : gad t k = a) (he : gE t u' k = e) (ho : ∀ i j, i ≠ k → u' i j = u i j) : G t u' H1 := by
  have h9 : ∀ j, u' 1000 j = u 1000 j := fun j => ho 1000 j (by have : k < 264 := hk; omega)
  have hlen : (gL t u).length = NN := by unfold gL; rw [List.length_map, List.length_range]
  refine ⟨fun i hi => ?_, fun i j hi hj => ?_, fun i hi => ?_⟩
  · by_cases hik : i = k
    · subst hik
      have := hP i (a, e) (by rw [List.getElem?_set_self (by rw [hlen]; exact hk)])
      rw [ha, he]; exact this
    · rw [gE_of (fun j => ho i j hik) h9]
      exact hP i _ (by rw [List.getElem?_set_ne (Ne.symm hik)]; exact gL_at hi)
  · exact h.2.1 i j hi hj
  · exact h.2.2 i hi
theorem gL_o {t : gP} {u : uS} {k ci : Nat} (hk : k < NN) (hs : sT k = ci) (hc : ci < 100) : (gL t u)[k]? = some (t.2.2.1 k, .inr (ci, gO t u k)) := by
  rw [gL_at hk]
  simp only [gad, gE, hs]
  rw [if_pos hc]
theorem gad_o {t : gP} {k ci : Nat} (hs : sT k = ci) (hc : ci ≠ 999) : gad t k = t.2.2.1 k := rfl
theorem gE_a {t : gP} {u : uS} {k g : Nat} (hs : sT k = g) (hg : 100 ≤ g ∧ g < 103) : gE t u k = .inl (t.2.1 g, sN k, .inl (fun j => iI (u k (j : Int)))) := by
  simp only [gE, hs]
  rw [if_neg (by omega), if_neg (by omega), if_neg (by omega), if_neg (by omega)]
theorem gL_a {t : gP} {u : uS} {k g : Nat} (hk : k < NN) (hs : sT k = g) (hg : 100 ≤ g ∧ g < 103) : (gL t u)[k]? = some (t.2.2.1 k, .inl (t.2.1 g, sN k, .inl (fun j => iI (u k (j : Int))))) := by
  rw [gL_at hk, gad_o hs (by omega), gE_a hs hg]
theorem gO_at {t : gP} {u : uS} {k ci j : Nat} (hs : sT k = ci) (hj : j < fN ci) : (gO t u k)[j]? = some (gV t u k j) := by
  unfold gO
  rw [hs, List.getElem?_map, List.getElem?_range hj]
  rfl
theorem gO_len {t : gP} {u : uS} {k ci : Nat} (hs : sT k = ci) : (gO t u k).length = fN ci := by
  unfold gO
  rw [hs, List.length_map, List.length_range]
/-- a field's store, seen in the object's list -/
theorem gO_set {t : gP} {u u' : uS} {k ci j : Nat} (hs : sT k = ci) (h9 : ∀ i, u' 1000 i = u 1000 i) (ho : ∀ i : Int, i ≠ (j : Int) → u' k i = u k i) : gO t u' k = (gO t u k).set j (gV t u' k j) := by
  apply List.ext_getElem?
  intro i
  by_cases hi : i < fN ci
  · rw [gO_at hs hi]
    by_cases hij : i = j
    · subst hij
      rw [List.getElem?_set_self (by rw [gO_len hs]; exact hi)]
    · rw [List.getElem?_set_ne (Ne.symm hij), gO_at hs hi]
      have : u' k (i : Int) = u k (i : Int) := ho _ (by omega)
      simp only [gV, this, h9]
  · rw [List.getElem?_eq_none (by rw [gO_len hs]; omega), List.getElem?_eq_none (by rw [List.length_set, gO_len hs]; omega)]
