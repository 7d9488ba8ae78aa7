/-! pure part, 20: the class's text -/
def TXc (u : uS) (D : List Int) : Prop := u 37 1 = 0 ∧ u 37 3 = (D.length : Int) ∧ (u 1000 1 = 16 ∨ u 1000 1 = 34 ∨ u 1000 1 = 70) ∧ (D.length : Int) ≤ u 1000 1 ∧ (∀ j : Nat, j < (u 1000 1).toNat → -128 ≤ u 38 (j : Int) ∧ u 38 (j : Int) < 128) ∧ (∀ j : Nat, j < D.length → u 38 (j : Int) = D.getD j 0) ∧ (u 0 4).toNat ≠ 38 ∧ (u 0 5).toNat ≠ 38
def FrB (u w : uS) : Prop := ∀ c, c ≠ 37 → c ≠ 38 → c ≠ 1000 → w c = u c
theorem FrB.rf {u : uS} : FrB u u := fun _ _ _ _ => rfl
theorem FrB.tr {u v w : uS} (h : FrB u v) (h2 : FrB v w) : FrB u w := fun c a b d => (h2 c a b d).trans (h c a b d)
section SB
variable {u : uS} {D : List Int}
theorem censure {x : Int} (h : TXc u D) (hx : 0 ≤ x ∧ x ≤ 60 ∧ x ≤ (D.length : Int) + 11) : wp (f_J5_ensureCapacityInternal_d00df x u) (fun q => FrB u q.2 ∧ TXc q.2 D ∧ x ≤ q.2 1000 1 ∧ q.2 37 = u 37) := by
  obtain ⟨h1, h2, h3, h4, h5, h6, h7, h8⟩ := h
  unfold f_J5_ensureCapacityInternal_d00df
  refine wp_g ⟨⟨by omega, by omega, h5⟩, h1, h7, h8, hx.1, by omega⟩ ?_
  refine wp_i (fun c => ?_) (fun c => ?_)
  · exact wp_s ⟨FrB.rf, ⟨h1, h2, h3, h4, h5, h6, h7, h8⟩, c, rfl⟩
  · refine wp_g (by omega) ?_
    refine wp_s ?_
    have em : maxI x (2 * u 1000 1 + 2) = 2 * u 1000 1 + 2 := by
      unfold maxI
      rw [if_pos (by omega)]
    rw [em]
    have gr : ∀ c j, (c ≠ 38) → (c ≠ 1000 ∨ j ≠ 1) → grown u (2 * u 1000 1 + 2) c j = u c j := fun c j c0 c1 => by
      unfold grown
      rw [if_neg (by omega), if_neg c0]
    have g1 : grown u (2 * u 1000 1 + 2) 1000 1 = 2 * u 1000 1 + 2 := if_pos ⟨rfl, rfl⟩
    have g38 : ∀ j, grown u (2 * u 1000 1 + 2) 38 j = if j < u 1000 1 then u 38 j else 0 := fun j => by
      unfold grown
      rw [if_neg (by omega), if_pos rfl]
    refine ⟨fun c c0 c1 c2 => funext fun j => gr c j c1 (Or.inl c2), ⟨?_, ?_, ?_, ?_, fun j hj => ?_, fun j hj => ?_, ?_, ?_⟩, ?_, funext fun j => gr 37 j (by decide) (by omega)⟩
    · exact (gr 37 1 (by decide) (by omega)).trans h1
    · exact (gr 37 3 (by decide) (by omega)).trans h2
    · show grown u (2 * u 1000 1 + 2) 1000 1 = 16 ∨ grown u (2 * u 1000 1 + 2) 1000 1 = 34 ∨ grown u (2 * u 1000 1 + 2) 1000 1 = 70
      rw [g1]; omega
    · show _ ≤ grown u (2 * u 1000 1 + 2) 1000 1
      rw [g1]; omega
    · show -128 ≤ grown u (2 * u 1000 1 + 2) 38 (j : Int) ∧ grown u (2 * u 1000 1 + 2) 38 (j : Int) < 128
      rw [g38]
      split
      · exact h5 j (by omega)
      · omega
    · show grown u (2 * u 1000 1 + 2) 38 (j : Int) = _
      rw [g38, if_pos (by omega)]; exact h6 j hj
    · show (grown u (2 * u 1000 1 + 2) 0 4).toNat ≠ 38
      rw [gr 0 4 (by decide) (by omega)]; exact h7
    · show (grown u (2 * u 1000 1 + 2) 0 5).toNat ≠ 38
      rw [gr 0 5 (by decide) (by omega)]; exact h8
    · show x ≤ grown u (2 * u 1000 1 + 2) 1000 1
      rw [g1]; omega
theorem cisLatin1 (h : u 37 1 = 0) : f_J5_isLatin1_aae02 u = some (1, u) := by
  refine wp_eq ?_
  unfold f_J5_isLatin1_aae02
  refine wp_f (by decide) ?_
  refine wp_g (by omega) ?_
  refine wp_t (by omega) ?_
  exact wp_s rfl
/-- the bytes behind the text are laid, then its length -/
theorem TXc.lay {w : uS} {E : List Int} {n : Int} (h : TXc u D) (hw : ∀ c, c ≠ 38 → w c = u c) (hn : n = (D.length : Int) + E.length) (hc : n ≤ u 1000 1) (hE : ∀ x ∈ E, 0 ≤ x ∧ x < 128) (h1 : ∀ j : Nat, j < D.length → w 38 (j : Int) = u 38 (j : Int)) (h2 : ∀ j : Nat, j < E.length → w 38 ((D.length : Int) + j) = E.getD j 0) (h3 : ∀ j : Int, n ≤ j → w 38 j = u 38 j) : TXc (up w 37 3 n) (D ++ E) := by
  obtain ⟨a1, a2, a3, a4, a5, a6, a7, a8⟩ := h
  have gb : ∀ j : Nat, j < E.length → 0 ≤ E.getD j 0 ∧ E.getD j 0 < 128 := fun j hj => by
    rw [List.getD_eq_getElem?_getD, List.getElem?_eq_getElem hj, Option.getD_some]
    exact hE _ (List.getElem_mem hj)
  have c1000 : up w 37 3 n 1000 1 = u 1000 1 := by rw [up_k (by decide), hw 1000 (by decide)]
  have c38 : ∀ j, up w 37 3 n 38 j = w 38 j := fun j => up_k (by decide)
  refine ⟨by rw [up_j (by decide), hw 37 (by decide)]; exact a1, by rw [up_s, List.length_append]; omega, by rw [c1000]; exact a3, by rw [c1000, List.length_append]; omega, fun j hj => ?_, fun j hj => ?_, by rw [up_k (by decide), hw 0 (by decide)]; exact a7, by rw [up_k (by decide), hw 0 (by decide)]; exact a8⟩
  · rw [c1000] at hj
    rw [c38]
    by_cases q1 : j < D.length
    · rw [h1 j q1]; exact a5 j hj
    · by_cases q2 : (j : Int) < n
      · have e := h2 (j - D.length) (by omega)
        rw [show (D.length : Int) + ((j - D.length : Nat) : Int) = (j : Int) by omega] at e
        have := gb (j - D.length) (by omega)
        rw [e]; omega
      · rw [h3 j (by omega)]; exact a5 j hj
  · rw [c38]
    rw [List.length_append] at hj
    by_cases q1 : j < D.length
    · rw [h1 j q1, getD_l q1]; exact a6 j q1
    · have e := h2 (j - D.length) (by omega)
      rw [show (D.length : Int) + ((j - D.length : Nat) : Int) = (j : Int) by omega] at e
      rw [e, getD_r (by omega)]
theorem cappendS {k : Nat} (hk : 2000 ≤ k ∧ k < 2020) (h : TXc u D) (hl : D.length + (strL k).length ≤ 60) (h11 : (strL k).length ≤ 11) : wp (f_J4_append_15ec4 k u) (fun q => q.1 = 37 ∧ FrB u q.2 ∧ TXc q.2 (D ++ strL k)) := by
  unfold f_J4_append_15ec4
  refine wp_g hk ?_
  have h2 := h.2.1
  unfold f_J5_append_cf1ce
  have main : wp (xgd (2000 ≤ k ∧ k < 2020) <| xbd (f_J0_length_8abf5 k u) fun v2 u3 => xbd (f_J5_ensureCapacityInternal_d00df (u3 37 3 + v2) u3) fun _ u5 => xbd (f_J5_putStringAt_47b60 (u5 37 3) k u5) fun _ u7 => xlet (up u7 37 3 (u7 37 3 + v2)) fun u8 => some ((37 : Int), u8)) (fun q => q.1 = 37 ∧ FrB u q.2 ∧ TXc q.2 (D ++ strL k)) := by
    refine wp_g hk ?_
    refine wp_e (estrlen hk) ?_
    rw [h2]
    refine wp_b (censure h (by omega)) (fun r v hv => ?_)
    obtain ⟨f1, t1, c1, q37⟩ := hv
    have f1 : FrB u v := f1
    have t1 : TXc v D := t1
    have c1 : (D.length : Int) + (strL k).length ≤ v 1000 1 := c1
    have t1' := t1
    obtain ⟨a1, a2, a3, a4, a5, a6, a7, a8⟩ := t1'
    have hp : f_J5_putStringAt_47b60 (v 37 3) k v = some (0, upA v 38 (fun j => if (D.length : Int) ≤ j ∧ j < (D.length : Int) + ((strL k).length : Int) then (strL k).getD (j - (D.length : Int)).toNat 0 else v 38 j)) := by
      have e1 : ∀ a : Int, shlI a 0 = a := fun a => by show a * 1 = a; omega
      refine wp_eq ?_
      unfold f_J5_putStringAt_47b60
      refine wp_g hk ?_
      have ec : f_J0_coder_7d493 k v = some (0, v) := xgd_t hk
      have ei : f_J5_inflateIfNeededFor_a7421 k v = some (0, v) := by
        refine wp_eq ?_
        unfold f_J5_inflateIfNeededFor_a7421
        refine wp_g hk (wp_f (by decide) (wp_e ec ?_))
        repeat (first | (with_reducible refine wp_g ?_ ?_; · omega) | (with_reducible refine wp_f ?_ ?_; · omega) | (with_reducible refine wp_t ?_ ?_; · omega))
        exact wp_s rfl
      refine wp_e ei ?_
      unfold f_J0_getBytes_840e7
      rw [a1, a2]
      have eg : (xgd (2000 ≤ k ∧ k < 2020) <| xbd (f_J0_coder_7d493 k v) fun v2 u3 => xgd (InR v2 ∧ InR 0) <| if v2 = 0 then xgd (0 ≤ (0 : Int) ∧ (0 : Int) < 32) <| xgd ((0 ≤ (shlI (D.length : Int) 0) ∧ (shlI (D.length : Int) 0) + ((strL k).length : Int) ≤ u3 1000 1 ∧ u3 1000 1 < 2147483648)) <| xlet (upA u3 38 (fun j => if (shlI (D.length : Int) 0) ≤ j ∧ j < (shlI (D.length : Int) 0) + ((strL k).length : Int) then (strL k).getD (j - (shlI (D.length : Int) 0)).toNat 0 else u3 38 j)) fun u12 => some ((0 : Int), u12) else none) = some (0, upA v 38 (fun j => if (D.length : Int) ≤ j ∧ j < (D.length : Int) + ((strL k).length : Int) then (strL k).getD (j - (D.length : Int)).toNat 0 else v 38 j)) := by
        refine wp_eq ?_
        refine wp_g hk (wp_e ec ?_)
        rw [e1]
        repeat (first | (with_reducible refine wp_L ?_) | (with_reducible refine wp_g ?_ ?_; · omega) | (with_reducible refine wp_f ?_ ?_; · omega) | (with_reducible refine wp_t ?_ ?_; · omega))
        exact wp_s rfl
      refine wp_e eg ?_
      exact wp_s rfl
    refine wp_e hp ?_
    refine wp_L ?_
    refine wp_s ⟨rfl, fun c c0 c1 c2 => ?_, ?_⟩
    · exact (up_c c0).trans ((upA_c c1).trans (f1 c c0 c1 c2))
    · have e37 : upA v 38 (fun j => if (D.length : Int) ≤ j ∧ j < (D.length : Int) + ((strL k).length : Int) then (strL k).getD (j - (D.length : Int)).toNat 0 else v 38 j) 37 3 = (D.length : Int) := (upA_k (by decide)).trans a2
      show TXc (up (upA v 38 (fun j => if (D.length : Int) ≤ j ∧ j < (D.length : Int) + ((strL k).length : Int) then (strL k).getD (j - (D.length : Int)).toNat 0 else v 38 j)) 37 3 (upA v 38 (fun j => if (D.length : Int) ≤ j ∧ j < (D.length : Int) + ((strL k).length : Int) then (strL k).getD (j - (D.length : Int)).toNat 0 else v 38 j) 37 3 + ((strL k).length : Int))) (D ++ strL k)
      rw [e37]
      refine t1.lay (fun c hc => upA_c hc) rfl c1 (fun x hx => strL_b (k - 2000) (by omega) x hx) (fun j hj => ?_) (fun j hj => ?_) (fun j hj => ?_)
      · rw [upA_s, if_neg (by omega)]
      · rw [upA_s, if_pos ⟨by omega, by omega⟩]
        congr 1
        omega
      · rw [upA_s, if_neg (by omega)]
  refine wp_b main (fun r v hv => ?_)
  obtain ⟨r1, r2⟩ := hv
  refine wp_g r1 (wp_s ⟨rfl, r2⟩)
theorem cappendC {x : Int} (hx : 0 ≤ x ∧ x < 128) (h : TXc u D) (hl : D.length + 1 ≤ 60) : wp (f_J4_append_cf468 x u) (fun q => q.1 = 37 ∧ FrB u q.2 ∧ TXc q.2 (D ++ [x])) := by
  have h2 := h.2.1
  unfold f_J4_append_cf468
  have main : wp (f_J5_append_3fe6f x u) (fun q => q.1 = 37 ∧ FrB u q.2 ∧ TXc q.2 (D ++ [x])) := by
    unfold f_J5_append_3fe6f
    rw [h2]
    refine wp_b (censure h (by omega)) (fun r v hv => ?_)
    obtain ⟨f1, t1, c1, q37⟩ := hv
    have f1 : FrB u v := f1
    have t1 : TXc v D := t1
    have c1 : (D.length : Int) + 1 ≤ v 1000 1 := c1
    have t1' := t1
    obtain ⟨a1, a2, a3, a4, a5, a6, a7, a8⟩ := t1'
    refine wp_e (cisLatin1 a1) ?_
    refine wp_g (by decide) ?_
    refine wp_L ?_
    refine wp_f (by decide) ?_
    have ee : f_J1_canEncode_fc78d x v = some (1, v) := by
      refine wp_eq ?_
      unfold f_J1_canEncode_fc78d
      refine wp_g (by omega) ?_
      refine wp_f (by omega) ?_
      exact wp_s rfl
    refine wp_e ee ?_
    refine wp_g (by decide) ?_
    refine wp_f (by decide) ?_
    have en : nar8 x = x := by unfold nar8; omega
    have z1 : up v 37 3 (v 37 3 + 1) 1000 1 = v 1000 1 := up_k (by decide)
    refine wp_L ?_
    rw [en, z1, a2]
    refine wp_g (by omega) ?_
    refine wp_L ?_
    refine wp_s ⟨rfl, fun c c0 c1 c2 => (up_c c1).trans ((up_c c0).trans (f1 c c0 c1 c2)), ?_⟩
    have ex : up (up v 37 3 ((D.length : Int) + 1)) 38 (D.length : Int) x = up (up v 38 (D.length : Int) x) 37 3 ((D.length : Int) + 1) := by
      funext a b
      unfold up
      by_cases q1 : a = 38 ∧ b = (D.length : Int)
      · rw [if_pos q1, if_neg (by omega), if_pos q1]
      · rw [if_neg q1, if_neg q1]
    show TXc (up (up v 37 3 ((D.length : Int) + 1)) 38 (D.length : Int) x) (D ++ [x])
    rw [ex]
    refine t1.lay (E := [x]) (fun c hc => up_c hc) rfl c1 (fun y hy => by rw [List.mem_singleton] at hy; subst hy; exact hx) (fun j hj => up_j (by omega)) (fun j hj => ?_) (fun j hj => up_j (by omega))
    have : j = 0 := by
      have hj : j < 1 := hj
      omega
    subst this
    show up v 38 (D.length : Int) x 38 ((D.length : Int) + 0) = x
    rw [Int.add_zero, up_s]
  refine wp_b main (fun r v hv => ?_)
  obtain ⟨r1, r2⟩ := hv
  refine wp_g r1 (wp_s ⟨rfl, r2⟩)
theorem dOnes : ∀ r : Nat, r < 100 → gL_DigitOnes.getD r 0 = 48 + (r : Int) % 10 := by decide +kernel
theorem dTens : ∀ r : Nat, r < 100 → gL_DigitTens.getD r 0 = 48 + (r : Int) / 10 := by decide +kernel
theorem dgOnes {r : Int} (h : 0 ≤ r ∧ r < 100) : gL_DigitOnes.getD r.toNat 0 = 48 + r % 10 := by
  rw [dOnes r.toNat (by omega), show ((r.toNat : Nat) : Int) = r by omega]
theorem dgTens {r : Int} (h : 0 ≤ r ∧ r < 100) : gL_DigitTens.getD r.toNat 0 = 48 + r / 10 := by
  rw [dTens r.toNat (by omega), show ((r.toNat : Nat) : Int) = r by omega]
theorem cstringSize {x : Int} (hx : 0 ≤ x ∧ x ≤ 9999) : f_J6_stringSize_0f7a4 x u = some (((dg x).length : Int), u) := by
  refine wp_eq ?_
  rw [dg_len]
  unfold f_J6_stringSize_0f7a4
  refine wp_g (by omega) ?_
  refine wp_L ?_
  refine wp_f (by omega) ?_
  refine wp_L ?_
  refine wp_L ?_
  refine wp_L ?_
  refine wl3 (fun p i v => v = u ∧ ((p = -10 ∧ i = 1) ∨ (p = -100 ∧ i = 2 ∧ 10 ≤ x) ∨ (p = -1000 ∧ i = 3 ∧ 100 ≤ x) ∨ (p = -10000 ∧ i = 4 ∧ 1000 ≤ x))) (fun _ i _ => (10 - i).toNat) (fun go p i v hI hg => ?_) FU _ _ _ ⟨rfl, Or.inl ⟨rfl, rfl⟩⟩ (FU_l (by decide))
  obtain ⟨rfl, ht⟩ := hI
  unfold s_J6_stringSize_0f7a4_16
  refine wp_g (by omega) ?_
  refine wp_f (by omega) ?_
  refine wp_g (by omega) ?_
  refine wp_i (fun c => ?_) (fun c => ?_)
  · refine wp_L ?_
    exact hg _ _ _ ⟨rfl, by omega⟩ (by omega)
  · refine wp_s ?_
    congr 1
    rcases ht with ⟨h1, h2⟩ | ⟨h1, h2, h3⟩ | ⟨h1, h2, h3⟩ | ⟨h1, h2, h3⟩
    · rw [if_pos (by omega)]; omega
    · rw [if_neg (by omega), if_pos (by omega)]; omega
    · rw [if_neg (by omega), if_neg (by omega), if_pos (by omega)]; omega
    · rw [if_neg (by omega), if_neg (by omega), if_neg (by omega)]; omega
end SB
