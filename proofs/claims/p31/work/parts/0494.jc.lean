/-! X, part j: ensureCapacityInternal -/
theorem f_newCap_eq (x1 : Int) (u : uS) (h0 : sbOk u) (hc : u 37 1 = 0) (h1 : u 1000 1 < x1 ∧ x1 ≤ 600) : f_J5_newCapacity_0f7a4 x1 u = some (maxI x1 (2 * u 1000 1 + 2), u) := by
  obtain ⟨h0a, h0b, -⟩ := h0
  have e1 : ∀ a : Int, shlI a 0 = a := fun a => by show a * 1 = a; omega
  have e2 : ∀ a : Int, shrI a 0 = a := fun a => by show a / 1 = a; omega
  have e3 : u 1000 1 + maxI (x1 - u 1000 1) (u 1000 1 + 2) = maxI x1 (2 * u 1000 1 + 2) := by unfold maxI; split <;> split <;> omega
  have e5 : 0 < maxI x1 (2 * u 1000 1 + 2) ∧ maxI x1 (2 * u 1000 1 + 2) ≤ 2002 := by unfold maxI; split <;> omega
  have n1 : f_J8_newLength_cabcc (u 1000 1) (x1 - u 1000 1) (u 1000 1 + 2) u = some (maxI x1 (2 * u 1000 1 + 2), u) := by
    unfold f_J8_newLength_cabcc xgd xlet
    rw [if_pos ⟨⟨by omega, by omega⟩, ⟨by omega, by omega⟩⟩]
    simp only [e3]
    rw [if_pos ⟨by omega, by omega⟩, if_neg (by omega), if_pos ⟨by omega, by omega⟩, if_neg (by omega)]
  unfold f_J5_newCapacity_0f7a4 xgd xlet
  simp only [hc, e1]
  rw [if_pos ⟨h0a, by omega⟩, if_pos (by decide), if_pos (by decide), n1]
  show (if _ then _ else _) = _
  dsimp only
  rw [if_pos ⟨by omega, by omega⟩, if_neg (by omega), if_pos ⟨⟨by omega, by omega⟩, by rw [hc]; decide⟩, hc, e2]
abbrev rJ5_ensureCapacityInternal_d00df : Room := { frames := 3, cells := 1, slots := 600, locals := 120 }
set_option maxRecDepth 100000 in
set_option maxHeartbeats 8000000 in
theorem c_J5_ensureCapacityInternal_d00df (l : Launch) (t : gP) (x1 : Int) (u : uS) (r : Int) (u' : uS) (h : f_J5_ensureCapacityInternal_d00df x1 u = some (r, u')) : xMvm l yJ5_ensureCapacityInternal_d00df wsJ5_ensureCapacityInternal_d00df rJ5_ensureCapacityInternal_d00df t [.ref (t.2.2.1 37), .int (iI x1)] u u' 1 600 := by
  refine x_ofWvm (cc := cJ5_ensureCapacityInternal_d00df) (maxL := 3) (own := RJ5) (by decide) rfl rfl (Nat.le_of_ble_eq_true rfl) ?_
  intro p e s m args below meth c Q X hret H locs ls hG hS hl
  replace hl : lv_has ls 3 [(0, .ref (t.2.2.1 37)), (1, .int (iI x1))] := hl
  have iJ4 : ∀ w ∈ wsJ40, w ∈ wsJ5_ensureCapacityInternal_d00df := by decide +kernel
  have q37 : 37 < NN ∧ sT 37 = 1 := by decide
  unfold f_J5_ensureCapacityInternal_d00df at h
  obtain ⟨⟨h0, hcd, h4, h5, hx0, hx1⟩, h⟩ := xgd_of h
  have hb0 := h0.2.1
  have hc0 : InR (u 1000 1) := ⟨by have := h0.1; omega, by omega⟩
  have hcR : 0 ≤ u 1000 1 := h0.1
  refine lv_aload_n X.1.1 X.1.2.1 dJ5_ensureCapacityInternal_d00df_0 rfl (lv_at hl 0 rfl) ?_
  refine x_getr X hG 1 0 37 1 (inC := iJ4) rfl q37.1 q37.2 ⟨by decide, by decide, by decide, rfl, by decide, by decide⟩ (x_w 1 rfl) dJ5_ensureCapacityInternal_d00df_1 ?_
  refine x_sblen X hG ⟨h0.1, by omega⟩ dJ5_ensureCapacityInternal_d00df_4 ?_
  refine lv_aload_n X.1.1 X.1.2.1 dJ5_ensureCapacityInternal_d00df_5 rfl (lv_at hl 0 rfl) ?_
  refine x_geti X hG 1 1 37 1 (inC := iJ4) rfl q37.1 q37.2 ⟨by decide, by decide, by decide, rfl, rfl⟩ (x_w 2 rfl) dJ5_ensureCapacityInternal_d00df_6 ?_
  refine x_ishr X hc0 (by rw [hcd]; decide) dJ5_ensureCapacityInternal_d00df_9 ?_
  have e2 : shrI (u 1000 1) (u 37 1) = u 1000 1 := by rw [hcd]; show u 1000 1 / 1 = _; omega
  have e1 : ∀ a, shlI a (u 37 1) = a := fun a => by rw [hcd]; show a * 1 = _; omega
  rw [e2]
  refine lv_istore_n (lv' := [(2, .int (iI (u 1000 1))), (0, .ref (t.2.2.1 37)), (1, .int (iI x1))]) X.1.1 X.1.2.1 dJ5_ensureCapacityInternal_d00df_10 rfl hl (by decide) rfl (fun ls hl => ?_)
  refine lv_iload_n X.1.1 X.1.2.1 dJ5_ensureCapacityInternal_d00df_11 rfl (lv_at hl 2 rfl) ?_
  refine lv_iload_n X.1.1 X.1.2.1 dJ5_ensureCapacityInternal_d00df_12 rfl (lv_at hl 0 rfl) ?_
  refine x_isub X dJ5_ensureCapacityInternal_d00df_13 ?_
  refine x_if_le (tgt := 38) X ⟨by omega, by omega⟩ dJ5_ensureCapacityInternal_d00df_14 (by decide) (fun c1 => ?_) (fun c1 => ?_)
  · rw [if_pos (by omega)] at h
    cases h
    exact hret (t.2.2.1 38) _ _ _ _ _ _ (by decide) (by decide) dJ5_ensureCapacityInternal_d00df_38 (by rw [mv_self]; exact hG) hS
  · rw [if_neg (by omega)] at h
    obtain ⟨hcap, h⟩ := xgd_of h
    cases h
    have hn : u 1000 1 < maxI x1 (2 * u 1000 1 + 2) ∧ maxI x1 (2 * u 1000 1 + 2) ≤ 600 := by unfold maxI; split <;> omega
    generalize hnd : maxI x1 (2 * u 1000 1 + 2) = n at hn hret ⊢
    have hf : f_J5_newCapacity_0f7a4 x1 u = some (n, u) := by rw [← hnd]; exact f_newCap_eq x1 u h0 hcd ⟨by omega, hx1⟩
    refine lv_aload_n X.1.1 X.1.2.1 dJ5_ensureCapacityInternal_d00df_17 rfl (lv_at hl 1 rfl) ?_
    refine lv_aload_n X.1.1 X.1.2.1 dJ5_ensureCapacityInternal_d00df_18 rfl (lv_at hl 1 rfl) ?_
    refine x_getr X hG 1 0 37 1 (inC := iJ4) rfl q37.1 q37.2 ⟨by decide, by decide, by decide, rfl, by decide, by decide⟩ (x_w 1 rfl) dJ5_ensureCapacityInternal_d00df_19 ?_
    refine lv_aload_n X.1.1 X.1.2.1 dJ5_ensureCapacityInternal_d00df_22 rfl (lv_at hl 1 rfl) ?_
    refine lv_iload_n X.1.1 X.1.2.1 dJ5_ensureCapacityInternal_d00df_23 rfl (lv_at hl 2 rfl) ?_
    refine x_ki hS (va_runU (As := [.int (iI x1)]) X.1 (c_J5_newCapacity_0f7a4 l t _ _ _ _ hf) (va_cwU 1 X.1.2.2.2.2 gJ5_ensureCapacityInternal_d00df_J5_newCapacity_0f7a4_u104J4 rfl rfl rfl rfl hd_J5_newCapacity_0f7a4.2 ⟨Nat.le_of_ble_eq_true rfl, Nat.le_of_ble_eq_true rfl⟩) ⟨x_blind, x_sbrecv X hG, x_pre X hG hS⟩ rfl rfl hl.1 rfl (lv_room (Nat.le_of_ble_eq_true rfl)) dJ5_ensureCapacityInternal_d00df_24 ⟨by decide, by decide⟩) (fun H locs hG hS => ?_)
    refine lv_aload_n X.1.1 X.1.2.1 dJ5_ensureCapacityInternal_d00df_27 rfl (lv_at hl 1 rfl) ?_
    refine x_geti X hG 1 1 37 1 (inC := iJ4) rfl q37.1 q37.2 ⟨by decide, by decide, by decide, rfl, rfl⟩ (x_w 2 rfl) dJ5_ensureCapacityInternal_d00df_28 ?_
    refine x_ishl X (by rw [hcd]; decide) dJ5_ensureCapacityInternal_d00df_31 ?_
    rw [e1]
    refine va_callr (va_runS (As := [.ref (t.2.2.1 38), .int (iI n)]) (rest := [.ref (t.2.2.1 37)]) X.1 (c_J7_copyOf_9075b l t n u h0 hn) (va_cwS 2 X.1.2.2.2.2 gJ5_ensureCapacityInternal_d00df_J7_copyOf_9075b rfl rfl rfl hds_J7_copyOf_9075b ⟨Nat.le_of_ble_eq_true rfl, Nat.le_of_ble_eq_true rfl⟩) ⟨x_blind, x_pre X hG hS⟩ rfl rfl hl.1 rfl (lv_room (Nat.le_of_ble_eq_true rfl)) dJ5_ensureCapacityInternal_d00df_32 ⟨by decide, by decide⟩) hS (fun q _ h => h) (fun q h => h) (fun u2 q U H1 locs1 hU hvm hw hB hz1 hk1 hS1 => ?_)
    obtain ⟨hG1, hcell, hq, hqA⟩ := hB
    rw [hU] at hG1 hcell
    let E : va_E := .inl (t.2.1 102, (n.toNat, .inl (fun j => if (j : Int) < u 1000 1 then iI (u 38 (j : Int)) else 0)))
    have hat : ∀ p z, (gL t u ++ [(q, E)])[p]? = some z → (∃ k, al t k ∧ p = gi t k ∧ z = (gad t k, gE t u k)) ∨ (p = (gL t u).length ∧ z = (q, E)) := fun p z hz => by
      by_cases hp : p < (gL t u).length
      · rw [List.getElem?_append_left hp] at hz
        obtain ⟨k, hk, hpk, e⟩ := gL_lt hz
        refine Or.inl ⟨k, hk, ?_, e⟩
        have h1 := gi_at hk
        exact ((List.getElem?_inj (List.getElem?_eq_some_iff.mp hpk).1 gIds_nd).mp (hpk.trans h1.symm))
      · rw [List.getElem?_append_right (by omega)] at hz
        have h8 := (List.getElem?_eq_some_iff.mp hz).1
        have h9 : p = (gL t u).length := by simp only [List.length_singleton] at h8; omega
        subst h9
        rw [Nat.sub_self] at hz
        exact Or.inr ⟨rfl, (Option.some.inj hz).symm⟩
    have hP3 : va_P t.1 vwCl (gL t u ++ [(q, E)]) H1 := fun p z hz => by
      rcases hat p z hz with ⟨k, hk, -, rfl⟩ | ⟨-, rfl⟩
      · exact hG1.1 k hk
      · exact hcell
    have hD3 : va_D (gA t) (gL t u ++ [(q, E)]) := by
      refine ⟨fun i j a b ha hb hab => ?_, fun p z hz => ?_⟩
      · rcases hat i a ha with ⟨i, hi, rfl, rfl⟩ | ⟨hi, rfl⟩
        · rcases hat j b hb with ⟨j, hj, rfl, rfl⟩ | ⟨hj, rfl⟩
          · rw [hG1.2.1 i j hi hj hab]
          · exact absurd hab (hq i hi)
        · rcases hat j b hb with ⟨j, hj, rfl, rfl⟩ | ⟨hj, rfl⟩
          · exact absurd hab.symm (hq j hj)
          · rw [hi, hj]
      · rcases hat p z hz with ⟨k, hk, -, rfl⟩ | ⟨-, rfl⟩
        · exact hG1.2.2.1 k hk
        · exact hqA
    have e37 : (gL t u ++ [(q, E)])[gi t 37]? = some (gad t 37, .inr (1, gO t u 37)) := by
      rw [List.getElem?_append_left (gi_lt al37)]
      exact gL_o al37 q37.2 (by decide)
    refine va_put (D := t.1) (cl := vwCl) (C := RJ4) (T := TJ4) (N := 4) X.1.1 X.1.2.1 X.1.2.2.2.2 iJ4 tyJ4 tyJ4_ok nmJ4 X.1.2.2.2.1 X.2.1 hP3 hD3 hS1 (gi t 37) e37 rfl 0 (by decide) (X.1.2.2.2.2 _ (x_w 1 rfl)) (fun _ h9 => h9) rfl (ty := .array .byte) (by decide +kernel) rfl rfl (by rw [gO_len q37.2]; decide) dJ5_ensureCapacityInternal_d00df_35 (fun H2 locs2 hP4 _ hS4 => ?_)
    refine hret q _ _ _ _ _ _ (by decide) (by decide) dJ5_ensureCapacityInternal_d00df_38 ?_ hS4
    have hgad : ∀ k, k ≠ 38 → gad (mv t q) k = gad t k := fun k hk => mv_at hk
    have hg38 : gad (mv t q) 38 = q := rfl
    have hal : ∀ {k}, al (mv t q) k → al t k := fun {k} h => by
      rw [al_iff, mv_at (by omega)] at h; rw [al_iff]; exact h
    have h37l := gi_lt (u := u) (al37 (t := t))
    refine ⟨fun k hk => ?_, fun i j hi hj hij => ?_, fun k hk => ?_, gC_mv hG1.2.2.2⟩
    · replace hk := hal hk
      by_cases h37 : k = 37
      · subst h37
        have h9 := hP4 (gi t 37) _ (List.getElem?_set_self (by rw [List.length_append]; omega))
        exact h9
      · by_cases h38 : k = 38
        · subst h38
          have h9 := hP4 (gL t u).length (q, E) (by
            rw [List.getElem?_set_ne (by omega), List.getElem?_append_right (Nat.le_refl _), Nat.sub_self]; rfl)
          have hE : gE (mv t q) (grown u n) 38 = E := by
            have hfun : (fun j : Nat => iI (grown u n 38 (j : Int))) = fun j : Nat => if (j : Int) < u 1000 1 then iI (u 38 (j : Int)) else 0 := by
              funext j
              show iI (if (j : Int) < u 1000 1 then u 38 (j : Int) else 0) = _
              split <;> rfl
            show (Sum.inl (t.2.1 102, ((grown u n 1000 1).toNat, .inl (fun j : Nat => iI (grown u n 38 (j : Int))))) : va_E) = E
            rw [hfun]
            rfl
          rw [hE]
          exact h9
        · have h9 := hP4 (gi t k) (gad t k, gE t u k) (by
            rw [List.getElem?_set_ne (fun q => h37 (gi_inj hk al37 q.symm)), List.getElem?_append_left (gi_lt hk)]; exact gL_at hk)
          rw [hgad k h38, gE_mv hG1.2.2.2 hk h37 h38 ⟨h4, h5⟩]
          exact h9
    · replace hi := hal hi
      replace hj := hal hj
      by_cases hi8 : i = 38
      · by_cases hj8 : j = 38
        · rw [hi8, hj8]
        · rw [hi8, hg38, hgad j hj8] at hij
          exact absurd hij.symm (hq j hj)
      · by_cases hj8 : j = 38
        · rw [hj8, hg38, hgad i hi8] at hij
          exact absurd hij (hq i hi)
        · rw [hgad i hi8, hgad j hj8] at hij
          exact hG1.2.1 i j hi hj hij
    · by_cases h38 : k = 38
      · subst h38; exact hqA
      · rw [hgad k h38]; exact hG1.2.2.1 k (hal hk)
theorem hd_J5_ensureCapacityInternal_d00df : yJ5_ensureCapacityInternal_d00df.cls = RJ5 ∧ yJ5_ensureCapacityInternal_d00df.cls ≠ "java/lang/invoke/MethodHandle" ∧ yJ5_ensureCapacityInternal_d00df.cls ≠ "java/lang/invoke/VarHandle" ∧ (parseMethodDescriptor yJ5_ensureCapacityInternal_d00df.desc).map (fun d => d.parameters.length) = some 1 := by decide +kernel
