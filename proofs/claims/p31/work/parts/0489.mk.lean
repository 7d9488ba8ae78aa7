/-! cells that are made, moved or given up: the picture over other addresses -/
/-- what a cell names -/
def RefOf (u : uS) (k i : Nat) : Prop :=
  (sT k < 100 ∧ ∃ j, j < fN (sT k) ∧ ((fC (sT k) j = 1000 ∧ i = (u k (j : Int)).toNat) ∨ (fC (sT k) j ≠ 0 ∧ fC (sT k) j ≠ 1000 ∧ i = k + fC (sT k) j))) ∨
  (sT k = 104 ∧ ∃ j, i = sB k + 15 * (j % sN k)) ∨
  ((sT k = 106 ∨ sT k = 107) ∧ ∃ j : Nat, j < sN k ∧ 0 ≤ u k (j : Int) ∧ i = (u k (j : Int)).toNat)
theorem gE_keep {t t' : gP} {u u' : uS} {k : Nat} (e2 : t'.2.1 = t.2.1) (hu : ∀ j, u' k j = u k j) (h9 : (sT k = 105 → u' 1000 1 = u 1000 1) ∧ (sT k = 108 → u' 1000 2 = u 1000 2) ∧ (sT k = 109 → u' 1000 3 = u 1000 3)) (hf : ∀ i, RefOf u k i → t'.2.2.1 i = t.2.2.1 i) : gE t' u' k = gE t u k := by
  unfold gE
  by_cases h1 : sT k < 100
  · rw [if_pos h1, if_pos h1]
    congr 2
    unfold gO
    apply List.map_congr_left
    intro j hj
    have hjl := List.mem_range.mp hj
    unfold gV
    rw [hu]
    by_cases h2 : fC (sT k) j = 0
    · rw [if_pos h2, if_pos h2]
    · rw [if_neg h2, if_neg h2]
      by_cases h3 : fC (sT k) j = 1000
      · rw [if_pos h3, if_pos h3, hf _ (Or.inl ⟨h1, j, hjl, Or.inl ⟨h3, rfl⟩⟩)]
      · rw [if_neg h3, if_neg h3, hf _ (Or.inl ⟨h1, j, hjl, Or.inr ⟨h2, h3, rfl⟩⟩)]
  · rw [if_neg h1, if_neg h1]
    by_cases h2 : sT k = 104
    · rw [if_pos h2, if_pos h2, e2]
      have : (fun j => some (t'.2.2.1 (sB k + 15 * (j % sN k)))) = fun j => some (t.2.2.1 (sB k + 15 * (j % sN k))) := funext fun j => by rw [hf _ (Or.inr (Or.inl ⟨h2, j, rfl⟩))]
      rw [this]
    · rw [if_neg h2, if_neg h2]
      simp only [hu, e2]
      by_cases h3 : sT k = 103
      · rw [if_pos h3, if_pos h3]
      · rw [if_neg h3, if_neg h3]
        by_cases h5 : sT k = 105
        · rw [if_pos h5, if_pos h5, h9.1 h5]
        · rw [if_neg h5, if_neg h5]
          by_cases h6 : sT k = 108
          · rw [if_pos h6, if_pos h6, h9.2.1 h6]
          · rw [if_neg h6, if_neg h6]
            by_cases h7 : sT k = 109
            · rw [if_pos h7, if_pos h7, h9.2.2 h7]
            · rw [if_neg h7, if_neg h7]
              by_cases h8 : sT k = 106 ∨ sT k = 107
              · rw [if_pos h8, if_pos h8]
                have : gQ t' u' k = gQ t u k := by
                  funext j
                  unfold gQ
                  rw [hu]
                  by_cases hj : j < sN k
                  · rw [if_pos hj, if_pos hj]
                    by_cases hz : u k (j : Int) < 0
                    · rw [if_pos hz, if_pos hz]
                    · rw [if_neg hz, if_neg hz, hf _ (Or.inr (Or.inr ⟨h8, j, hj, by omega, rfl⟩))]
                  · rw [if_neg hj, if_neg hj]
                rw [this]
              · rw [if_neg h8, if_neg h8]
theorem ref_c {u : uS} {k i : Nat} (hk : k < 264) (h37 : k ≠ 37) (h : RefOf u k i) : (i < 264 ∧ i ≠ 37 ∧ i ≠ 38) ∨ (k = 0 ∧ (i = (u 0 4).toNat ∨ i = (u 0 5).toNat)) := by
  have h1a : ∀ k, k < 264 → ∀ j, j < 26 → (k = 37 ∨ fC (sT k) j = 0 ∨ fC (sT k) j = 1000 ∨ (k + fC (sT k) j < 264 ∧ k + fC (sT k) j ≠ 37 ∧ k + fC (sT k) j ≠ 38)) := by decide +kernel
  have h1b : ∀ k, k < 264 → ∀ j, j < 26 → (¬ fC (sT k) j = 1000 ∨ (k = 0 ∧ (j = 4 ∨ j = 5))) := by decide +kernel
  have h1 : ∀ k, k < 264 → k ≠ 37 → ∀ j, j < 26 → fC (sT k) j = 0 ∨ (fC (sT k) j = 1000 ∧ k = 0 ∧ (j = 4 ∨ j = 5)) ∨ (fC (sT k) j ≠ 1000 ∧ k + fC (sT k) j < 264 ∧ k + fC (sT k) j ≠ 37 ∧ k + fC (sT k) j ≠ 38) := fun k hk h37 j hj => by
    by_cases h : fC (sT k) j = 1000
    · exact Or.inr (Or.inl ⟨h, (h1b k hk j hj).resolve_left (fun q => q h)⟩)
    · rcases h1a k hk j hj with q | q | q | q
      · exact absurd q h37
      · exact Or.inl q
      · exact absurd q h
      · exact Or.inr (Or.inr ⟨h, q⟩)
  have h2 : ∀ k, k < 264 → sT k < 100 → fN (sT k) ≤ 26 := by decide +kernel
  have h3 : ∀ k, k < 264 → sT k = 104 → ∀ j, j < sN k → sB k + 15 * j < 264 ∧ sB k + 15 * j ≠ 37 ∧ sB k + 15 * j ≠ 38 := by decide +kernel
  have h4 : ∀ k, k < 264 → sT k = 104 → 0 < sN k := by decide +kernel
  have h5 : ∀ k, k < 264 → sT k ≠ 106 ∧ sT k ≠ 107 := by decide +kernel
  rcases h with ⟨hs, j, hj, h⟩ | ⟨hs, j, rfl⟩ | ⟨hs, -⟩
  · have hj2 := Nat.lt_of_lt_of_le hj (h2 k hk hs)
    rcases h1 k hk h37 j hj2 with q | ⟨q, rfl, hq⟩ | ⟨q, q2⟩
    · rcases h with ⟨h, -⟩ | ⟨h, -⟩
      · omega
      · exact absurd q h
    · rcases h with ⟨-, rfl⟩ | ⟨-, h, -⟩
      · rcases hq with rfl | rfl
        · exact Or.inr ⟨rfl, Or.inl rfl⟩
        · exact Or.inr ⟨rfl, Or.inr rfl⟩
      · exact absurd q h
    · rcases h with ⟨h, -⟩ | ⟨-, -, rfl⟩
      · exact absurd h q
      · exact Or.inl q2
  · exact Or.inl (h3 k hk hs _ (Nat.mod_lt _ (h4 k hk hs)))
  · rcases hs with q | q
    · exact absurd q (h5 k hk).1
    · exact absurd q (h5 k hk).2
theorem sT_16 : ∀ i, i < NM → sT i = 16 → 271 ≤ i ∧ i < 286 := by decide +kernel
theorem sT_15 : ∀ i, i < NM → sT i = 15 → 294 ≤ i ∧ i < 354 := by decide +kernel
theorem sT_106 : ∀ i, i < NM → sT i = 106 → i = 265 := by decide +kernel
theorem sT_107 : ∀ i, i < NM → sT i = 107 → i = 266 ∨ i = 293 := by decide +kernel
theorem sT_l : ∀ i, i < NM → (sT i = 105 ↔ i = 38) ∧ (sT i = 108 ↔ i = 290) ∧ (sT i = 109 ↔ i = 288) := by decide +kernel
theorem ref_l {t : gP} {u : uS} {k i : Nat} (hC : gC t u) (hal : al t k) (hk : 264 ≤ k) (h : RefOf u k i) : (k = 264 ∧ 265 ≤ i ∧ i ≤ 270 ∧ al t i) ∨ (sT k = 16 ∧ i = k + 1 ∧ al t i) ∨ (sT k = 106 ∧ al t i ∧ sT i = 16) ∨ (sT k = 107 ∧ al t i ∧ sT i = 15) ∨ (k = 287 ∧ i = 288) ∨ (k = 289 ∧ i = 290) := by
  have h1a : ∀ k, k < 94 → ∀ j, j < 24 → (fC (sT (264 + k)) j = 0 ∨ (k = 0 ∧ 1 ≤ fC (sT (264 + k)) j ∧ fC (sT (264 + k)) j ≤ 6) ∨ ((sT (264 + k) = 16 ∨ k = 23 ∨ k = 25) ∧ fC (sT (264 + k)) j = 1)) := by decide +kernel
  have h1 : ∀ k, k < 94 → ∀ j, j < 24 → fC (sT (264 + k)) j = 0 ∨ (fC (sT (264 + k)) j ≠ 1000 ∧ ((k = 0 ∧ 1 ≤ fC (sT (264 + k)) j ∧ fC (sT (264 + k)) j ≤ 6) ∨ (sT (264 + k) = 16 ∧ fC (sT (264 + k)) j = 1) ∨ (k = 23 ∧ fC (sT (264 + k)) j = 1) ∨ (k = 25 ∧ fC (sT (264 + k)) j = 1))) := fun k hk j hj => by
    rcases h1a k hk j hj with q | q | ⟨q | q | q, q2⟩
    · exact Or.inl q
    · exact Or.inr ⟨by omega, Or.inl q⟩
    · exact Or.inr ⟨by omega, Or.inr (Or.inl ⟨q, q2⟩)⟩
    · exact Or.inr ⟨by omega, Or.inr (Or.inr (Or.inl ⟨q, q2⟩))⟩
    · exact Or.inr ⟨by omega, Or.inr (Or.inr (Or.inr ⟨q, q2⟩))⟩
  have h2 : ∀ k, k < 358 → sT k < 100 → fN (sT k) ≤ 26 := by decide +kernel
  have h2b : ∀ k, k < 94 → sT (264 + k) < 100 → fN (sT (264 + k)) ≤ 24 := by decide +kernel
  have h4 : ∀ k, k < 94 → sT (264 + k) ≠ 104 := by decide +kernel
  have hl : k < 358 := al_lt hal
  obtain ⟨m, rfl⟩ : ∃ m, k = 264 + m := ⟨k - 264, by omega⟩
  rcases h with ⟨hs, j, hj, h⟩ | ⟨hs, -⟩ | ⟨hs, j, hj, h0, rfl⟩
  · have hj2 := Nat.lt_of_lt_of_le hj (h2b m (by omega) hs)
    rcases h1 m (by omega) j hj2 with q | ⟨q, q2⟩
    · rcases h with ⟨h, -⟩ | ⟨h, -⟩
      · omega
      · exact absurd q h
    · rcases h with ⟨h, -⟩ | ⟨-, -, rfl⟩
      · exact absurd h q
      · rcases q2 with ⟨rfl, q3, q4⟩ | ⟨q3, q4⟩ | ⟨rfl, q4⟩ | ⟨rfl, q4⟩
        · refine Or.inl ⟨rfl, by omega, by omega, ?_⟩
          obtain ⟨a1, a2, a3, a4, a5, a6⟩ := hC.2.1 hal
          generalize fC (sT (264 + 0)) j = z at q3 q4 ⊢
          have : z = 1 ∨ z = 2 ∨ z = 3 ∨ z = 4 ∨ z = 5 ∨ z = 6 := by omega
          rcases this with rfl | rfl | rfl | rfl | rfl | rfl
          · exact a1
          · exact a2
          · exact a3
          · exact a4
          · exact a5
          · exact a6
        · rw [q4]; exact Or.inr (Or.inl ⟨q3, rfl, hC.1 _ hal q3⟩)
        · exact Or.inr (Or.inr (Or.inr (Or.inr (Or.inl ⟨rfl, by omega⟩))))
        · exact Or.inr (Or.inr (Or.inr (Or.inr (Or.inr ⟨rfl, by omega⟩))))
  · exact absurd hs (h4 m (by omega))
  · have h9 := hC.2.2 _ hal hs (j : Int) (by omega) (by omega) h0
    rcases hs with q | q
    · rw [q, if_pos rfl] at h9
      exact Or.inr (Or.inr (Or.inl ⟨q, h9⟩))
    · rw [q, if_neg (by decide)] at h9
      exact Or.inr (Or.inr (Or.inr (Or.inl ⟨q, h9⟩)))
/-- the main object's own names of networks lie among the class's cells -/
abbrev mkOk (u : uS) : Prop := (u 0 4).toNat < 37 ∧ (u 0 5).toNat < 37
/-- cells k0 .. k0 + n - 1 lie at a 0 .. and are there -/
def tsetn (t : gP) (k0 n : Nat) (a : Nat → Nat) : gP := (t.1, t.2.1, fun i => if k0 ≤ i ∧ i < k0 + n then a (i - k0) else if 1000 + k0 ≤ i ∧ i < 1000 + k0 + n then 1 else t.2.2.1 i, t.2.2.2)
theorem tsetn_o {t : gP} {k0 n i : Nat} {a : Nat → Nat} (h : ¬ (k0 ≤ i ∧ i < k0 + n)) (h2 : i < 1000) : (tsetn t k0 n a).2.2.1 i = t.2.2.1 i := by
  unfold tsetn
  show (if _ then _ else _) = _
  rw [if_neg h, if_neg (by omega)]
theorem tsetn_n {t : gP} {k0 n i : Nat} {a : Nat → Nat} (h : i < n) : (tsetn t k0 n a).2.2.1 (k0 + i) = a i := by
  unfold tsetn
  show (if _ then _ else _) = _
  rw [if_pos ⟨by omega, by omega⟩, Nat.add_sub_cancel_left]
theorem tsetn_al {t : gP} {k0 n i : Nat} {a : Nat → Nat} (hk0 : 264 ≤ k0 ∧ k0 + n ≤ NM) (hs : ∀ j, j < n → sT (k0 + j) ≠ 999) : al (tsetn t k0 n a) i ↔ al t i ∨ (k0 ≤ i ∧ i < k0 + n) := by
  have hM : NM = 358 := rfl
  have hN : NN = 264 := rfl
  rw [al_iff, al_iff]
  have e : (tsetn t k0 n a).2.2.1 (1000 + i) = if k0 ≤ i ∧ i < k0 + n then 1 else if k0 ≤ 1000 + i ∧ 1000 + i < k0 + n then a (1000 + i - k0) else t.2.2.1 (1000 + i) := by
    unfold tsetn
    show (if _ then _ else _) = _
    by_cases h : k0 ≤ i ∧ i < k0 + n
    · rw [if_pos h, if_neg (by omega), if_pos ⟨by omega, by omega⟩]
    · rw [if_neg h, if_neg (fun q : 1000 + k0 ≤ 1000 + i ∧ 1000 + i < 1000 + k0 + n => h ⟨by omega, by omega⟩)]
  rw [e]
  by_cases h : k0 ≤ i ∧ i < k0 + n
  · rw [if_pos h]
    have h1 := hs (i - k0) (by omega)
    rw [Nat.add_sub_cancel' h.1] at h1
    exact ⟨fun _ => Or.inr h, fun _ => ⟨h1, Or.inr ⟨by omega, rfl⟩⟩⟩
  · rw [if_neg h, if_neg (by omega)]
    exact ⟨fun q => Or.inl q, fun q => q.resolve_right h⟩
/-- the lengths that the texts' bytes have -/
abbrev lenOk (t : gP) (u u' : uS) (k0 n : Nat) : Prop := u' 1000 1 = u 1000 1 ∧ ((k0 ≤ 290 ∧ 290 < k0 + n) ∨ ¬ al t 290 ∨ u' 1000 2 = u 1000 2) ∧ ((k0 ≤ 288 ∧ 288 < k0 + n) ∨ ¬ al t 288 ∨ u' 1000 3 = u 1000 3)
theorem G.makeL {t : gP} {u u' : uS} {H H1 : Heap} {k0 n : Nat} {a : Nat → Nat} {L : va_W} (hG : G t u H) (hk0 : 264 ≤ k0 ∧ k0 + n ≤ NM) (hs : ∀ j, j < n → sT (k0 + j) ≠ 999) (hd : ∀ j, j < n → ¬ al t (k0 + j)) (h287 : (k0 ≤ 288 ∧ 288 < k0 + n) → ¬ al t 287) (h289 : (k0 ≤ 290 ∧ 290 < k0 + n) → ¬ al t 289) (hm : mkOk u)
    (hP : va_P t.1 vwCl (gL t u ++ L) H1) (hD : va_D (gA t) (gL t u ++ L)) (hE : ∀ j, j < n → L[j]? = some (a j, gE (tsetn t k0 n a) u' (k0 + j))) (hu : ∀ i, ¬ (k0 ≤ i ∧ i < k0 + n) → al t i → ∀ j, u' i j = u i j) (h9 : lenOk t u u' k0 n) (hC : gC (tsetn t k0 n a) u') : G (tsetn t k0 n a) u' H1 := by
  have hM : NM = 358 := rfl
  have hal := fun i => tsetn_al (t := t) (a := a) (i := i) hk0 hs
  have hlt : ∀ i, al t i → i < 1000 := fun i h => by have := al_lt h; omega
  -- old cells
  have hold : ∀ i, al t i → ¬ (k0 ≤ i ∧ i < k0 + n) := fun i h q => hd (i - k0) (by omega) (by rw [Nat.add_sub_cancel' q.1]; exact h)
  have hga : ∀ i, al t i → gad (tsetn t k0 n a) i = gad t i := fun i h => tsetn_o (hold i h) (hlt i h)
  have hge : ∀ i, al t i → gE (tsetn t k0 n a) u' i = gE t u i := fun i h => by
    have hi := al_lt h
    refine gE_keep rfl (hu i (hold i h) h) ⟨fun q => h9.1, fun q => ?_, fun q => ?_⟩ (fun z hz => ?_)
    · have := ((sT_l i hi).2.1).mp q
      subst this
      rcases h9.2.1 with q1 | q1 | q1
      · exact absurd q1 (hold _ h)
      · exact absurd h q1
      · exact q1
    · have := ((sT_l i hi).2.2).mp q
      subst this
      rcases h9.2.2 with q1 | q1 | q1
      · exact absurd q1 (hold _ h)
      · exact absurd h q1
      · exact q1
    · by_cases h264 : i < 264
      · by_cases h37 : i = 37
        · subst h37
          have h1 : z = 38 := by
            have e1 : ∀ j, j < 4 → (fC (sT 37) j = 0 ∨ fC (sT 37) j = 1) := by decide +kernel
            have e2 : fN (sT 37) = 4 := by decide +kernel
            have e3 : sT 37 = 1 := by decide +kernel
            rcases hz with ⟨-, j, hj, q⟩ | ⟨q, -⟩ | ⟨q, -⟩
            · rw [e2] at hj
              rcases e1 j hj with w | w <;> rcases q with ⟨q, -⟩ | ⟨q, -, q2⟩ <;> omega
            · rw [e3] at q; omega
            · rw [e3] at q; omega
          subst h1
          exact tsetn_o (by omega) (by omega)
        · rcases ref_c h264 h37 hz with q | ⟨-, q | q⟩
          · exact tsetn_o (by omega) (by omega)
          · rw [q]; exact tsetn_o (by have := hm.1; omega) (by have := hm.1; omega)
          · rw [q]; exact tsetn_o (by have := hm.2; omega) (by have := hm.2; omega)
      · rcases ref_l hG.2.2.2 h (by omega) hz with ⟨-, -, -, q⟩ | ⟨-, -, q⟩ | ⟨-, q, -⟩ | ⟨-, q, -⟩ | ⟨rfl, rfl⟩ | ⟨rfl, rfl⟩
        · exact tsetn_o (hold z q) (hlt z q)
        · exact tsetn_o (hold z q) (hlt z q)
        · exact tsetn_o (hold z q) (hlt z q)
        · exact tsetn_o (hold z q) (hlt z q)
        · exact tsetn_o (fun q => h287 q h) (by omega)
        · exact tsetn_o (fun q => h289 q h) (by omega)
  have hnew : ∀ i, k0 ≤ i → i < k0 + n → (gL t u ++ L)[(gL t u).length + (i - k0)]? = some (gad (tsetn t k0 n a) i, gE (tsetn t k0 n a) u' i) := fun i h1 h2 => by
    rw [List.getElem?_append_right (by omega), Nat.add_sub_cancel_left, hE (i - k0) (by omega)]
    have e1 : gad (tsetn t k0 n a) i = a (i - k0) := by
      have := tsetn_n (t := t) (k0 := k0) (n := n) (a := a) (i := i - k0) (by omega)
      rw [Nat.add_sub_cancel' h1] at this; exact this
    rw [e1, Nat.add_sub_cancel' h1]
  have hpos : ∀ i, al (tsetn t k0 n a) i → ∃ p, (gL t u ++ L)[p]? = some (gad (tsetn t k0 n a) i, gE (tsetn t k0 n a) u' i) ∧ ((al t i ∧ p = gi t i) ∨ (k0 ≤ i ∧ i < k0 + n ∧ p = (gL t u).length + (i - k0))) := fun i h => by
    rcases (hal i).mp h with q | ⟨q1, q2⟩
    · exact ⟨gi t i, by rw [List.getElem?_append_left (gi_lt q), gL_at q, hga i q, hge i q], Or.inl ⟨q, rfl⟩⟩
    · exact ⟨_, hnew i q1 q2, Or.inr ⟨q1, q2, rfl⟩⟩
  refine ⟨fun i hi => ?_, fun i j hi hj hij => ?_, fun i hi => ?_, hC⟩
  · obtain ⟨p, hp, -⟩ := hpos i hi
    exact hP p _ hp
  · obtain ⟨p, hp, h1⟩ := hpos i hi
    obtain ⟨q, hq, h2⟩ := hpos j hj
    have hpq := hD.1 p q _ _ hp hq hij
    rcases h1 with ⟨h1, e1⟩ | ⟨h1, h1b, e1⟩
    · rcases h2 with ⟨h2, e2⟩ | ⟨h2, h2b, e2⟩
      · exact gi_inj h1 h2 (by omega)
      · have := gi_lt (u := u) h1
        omega
    · rcases h2 with ⟨h2, e2⟩ | ⟨h2, h2b, e2⟩
      · have := gi_lt (u := u) h2
        omega
      · omega
  · obtain ⟨p, hp, -⟩ := hpos i hi
    exact hD.2 p _ hp
/-- cells lo .. hi - 1 are given up -/
def tkill (t : gP) (lo hi : Nat) : gP := (t.1, t.2.1, fun i => if 1000 + lo ≤ i ∧ i < 1000 + hi then 0 else t.2.2.1 i, t.2.2.2)
theorem tkill_o {t : gP} {lo hi i : Nat} (h : i < 1000) : (tkill t lo hi).2.2.1 i = t.2.2.1 i := by
  unfold tkill
  show (if _ then _ else _) = _
  rw [if_neg (by omega)]
theorem tkill_al {t : gP} {lo hi i : Nat} (h264 : 264 ≤ lo) : al (tkill t lo hi) i ↔ al t i ∧ ¬ (lo ≤ i ∧ i < hi) := by
  have hN : NN = 264 := rfl
  rw [al_iff, al_iff]
  have e : (tkill t lo hi).2.2.1 (1000 + i) = if lo ≤ i ∧ i < hi then 0 else t.2.2.1 (1000 + i) := by
    unfold tkill
    show (if _ then _ else _) = _
    by_cases h : lo ≤ i ∧ i < hi
    · rw [if_pos h, if_pos ⟨by omega, by omega⟩]
    · rw [if_neg h, if_neg (fun q : 1000 + lo ≤ 1000 + i ∧ 1000 + i < 1000 + hi => h ⟨by omega, by omega⟩)]
  rw [e]
  by_cases h : lo ≤ i ∧ i < hi
  · rw [if_pos h]
    exact ⟨fun q => by rcases q.2 with q2 | ⟨-, q2⟩ <;> omega, fun q => absurd h q.2⟩
  · rw [if_neg h]
    exact ⟨fun q => ⟨q, h⟩, fun q => q.1⟩
theorem G.kill {t : gP} {u : uS} {H : Heap} {lo hi : Nat} (hG : G t u H) (h264 : 264 ≤ lo) (hm : mkOk u) (hC : gC (tkill t lo hi) u) : G (tkill t lo hi) u H := by
  have hge : ∀ i, al t i → gE (tkill t lo hi) u i = gE t u i := fun i h => gE_keep rfl (fun _ => rfl) ⟨fun _ => rfl, fun _ => rfl, fun _ => rfl⟩ (fun z hz => tkill_o (by
    have hi := al_lt h
    have hM : NM = 358 := rfl
    by_cases h264 : i < 264
    · by_cases h37 : i = 37
      · subst h37
        have e1 : ∀ j, j < 4 → (fC (sT 37) j = 0 ∨ fC (sT 37) j = 1) := by decide +kernel
        have e2 : fN (sT 37) = 4 := by decide +kernel
        have e3 : sT 37 = 1 := by decide +kernel
        rcases hz with ⟨-, j, hj, q⟩ | ⟨q, -⟩ | ⟨q, -⟩
        · rw [e2] at hj
          rcases e1 j hj with w | w <;> rcases q with ⟨q, -⟩ | ⟨q, -, q2⟩ <;> omega
        · rw [e3] at q; omega
        · rw [e3] at q; omega
      · rcases ref_c h264 h37 hz with q | ⟨-, q | q⟩
        · omega
        · have := hm.1; omega
        · have := hm.2; omega
    · rcases ref_l hG.2.2.2 h (by omega) hz with ⟨-, -, -, q⟩ | ⟨-, -, q⟩ | ⟨-, q, -⟩ | ⟨-, q, -⟩ | ⟨-, rfl⟩ | ⟨-, rfl⟩
      · have := al_lt q; omega
      · have := al_lt q; omega
      · have := al_lt q; omega
      · have := al_lt q; omega
      · omega
      · omega))
  have hga : ∀ i, al t i → gad (tkill t lo hi) i = gad t i := fun i h => tkill_o (by have := al_lt h; have hM : NM = 358 := rfl; omega)
  refine ⟨fun i hi => ?_, fun i j hi hj hij => ?_, fun i hi => ?_, hC⟩
  · have h1 := ((tkill_al h264).mp hi).1
    rw [hga i h1, hge i h1]
    exact hG.1 i h1
  · have h1 := ((tkill_al h264).mp hi).1
    have h2 := ((tkill_al h264).mp hj).1
    rw [hga i h1, hga j h2] at hij
    exact hG.2.1 i j h1 h2 hij
  · have h1 := ((tkill_al h264).mp hi).1
    rw [hga i h1]
    exact hG.2.2.1 i h1
/-- addresses that differ in some cells alone: 37 and 38 (b = 37), 38 (b = 38), or none of these (b = 39); and lo .. hi - 1 -/
def ag (b lo hi : Nat) (t t' : gP) : Prop := t'.1 = t.1 ∧ t'.2.1 = t.2.1 ∧ t'.2.2.2 = t.2.2.2 ∧ ∀ k, ¬ (b ≤ k ∧ k < 39) → ¬ (lo ≤ k ∧ k < hi) → ¬ (1000 + lo ≤ k ∧ k < 1000 + hi) → t'.2.2.1 k = t.2.2.1 k
theorem ag.rf {b lo hi : Nat} {t : gP} : ag b lo hi t t := ⟨rfl, rfl, rfl, fun _ _ _ _ => rfl⟩
theorem ag.tr {b lo hi b1 lo1 hi1 b2 lo2 hi2 : Nat} {t t1 t2 : gP} (h1 : ag b1 lo1 hi1 t t1) (h2 : ag b2 lo2 hi2 t1 t2) (q : (b ≤ b1 ∧ b ≤ b2) ∧ (hi1 ≤ lo1 ∨ (lo ≤ lo1 ∧ hi1 ≤ hi)) ∧ (hi2 ≤ lo2 ∨ (lo ≤ lo2 ∧ hi2 ≤ hi))) : ag b lo hi t t2 :=
  ⟨h2.1.trans h1.1, h2.2.1.trans h1.2.1, h2.2.2.1.trans h1.2.2.1, fun k k1 k2 k3 => (h2.2.2.2 k (by omega) (by omega) (by omega)).trans (h1.2.2.2 k (by omega) (by omega) (by omega))⟩
theorem ag.at {b lo hi k : Nat} {t t' : gP} (h : ag b lo hi t t') (hk : (k < b ∨ 39 ≤ k) ∧ (k < lo ∨ hi ≤ k) ∧ (k < 1000 + lo ∨ 1000 + hi ≤ k)) : t'.2.2.1 k = t.2.2.1 k := h.2.2.2 k (by omega) (by omega) (by omega)
theorem ag.al {b lo hi k : Nat} {t t' : gP} (h : ag b lo hi t t') (hk : (lo ≤ 1000 + 0 ∧ hi ≤ 1000) ∧ (k < lo ∨ hi ≤ k)) (ha : al t k) : al t' k := by
  have hM : NM = 358 := rfl
  have hl := al_lt ha
  rw [al_iff] at ha ⊢
  refine ⟨ha.1, ha.2.imp id fun q => ⟨q.1, ?_⟩⟩
  rw [h.at (k := 1000 + k) (by omega)]
  exact q.2
theorem gS.ag {b lo hi : Nat} {t t' : gP} {U : State} {H : Heap} (h : ag b lo hi t t') (hh : hi ≤ 1000 ∧ 37 ≤ b) (hS : gS t U H) : gS t' U H := by
  have eA : gA t' = gA t := by unfold gA; rw [h.2.2.1]
  have e1 : (fun i => t.2.2.1 (2000 + i)) = fun i => t'.2.2.1 (2000 + i) := funext fun i => (h.at (by omega)).symm
  have e2 : (fun i => t.2.2.1 (3000 + i)) = fun i => t'.2.2.1 (3000 + i) := funext fun i => (h.at (by omega)).symm
  obtain ⟨h1, h2, h3, h4, h5, h6, h7, h8, h9, h10, h11⟩ := hS
  rw [e1, e2] at h4
  unfold gS
  rw [eA]
  exact ⟨h1, h2, h3, h4, fun q hq => by rw [h.at (by omega)]; exact h5 q hq, h6, h7, h8, h9, h10, h11⟩
theorem xC.ag {b lo hi : Nat} {t t' : gP} {p : Program} {s : State} {m : MethodId} {args : Array Value} {c : Code} {cc : ByteArray} {ws : List Cond} {own : String} {nL : Nat} (X : xC t p s m args c cc ws own nL) (h : ag b lo hi t t') (hh : hi ≤ 1000 ∧ 37 ≤ b) : xC t' p s m args c cc ws own nL :=
  ⟨X.1, by rw [h.1, show gT t' = gT t by unfold gT; rw [h.2.1]]; exact X.2.1, gS.ag h hh X.2.2.1, by rw [h.2.2.1]; exact X.2.2.2⟩
theorem gA_ag {b lo hi : Nat} {t t' : gP} (h : ag b lo hi t t') : gA t' = gA t := by unfold gA; rw [h.2.2.1]
