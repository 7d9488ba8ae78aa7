/-! the law's text, longer than the class's -/
def FrC (u w : uS) : Prop := (∀ c, c ≠ 37 → c ≠ 38 → c ≠ 1000 → w c = u c) ∧ ∀ j, j ≠ 1 → w 1000 j = u 1000 j
theorem FrC.rf {u : uS} : FrC u u := ⟨fun _ _ _ _ => rfl, fun _ _ => rfl⟩
theorem FrC.tr {u v w : uS} (h : FrC u v) (h2 : FrC v w) : FrC u w := ⟨fun c a b d => (h2.1 c a b d).trans (h.1 c a b d), fun j hj => (h2.2 j hj).trans (h.2 j hj)⟩
section LSB
variable {u : uS} {D : List Int}
/-! pure part, 20: the class's text -/
def TXl (u : uS) (D : List Int) : Prop := u 37 1 = 0 ∧ u 37 3 = (D.length : Int) ∧ (16 ≤ u 1000 1 ∧ u 1000 1 ≤ 520) ∧ (D.length : Int) ≤ u 1000 1 ∧ (∀ j : Nat, j < (u 1000 1).toNat → -128 ≤ u 38 (j : Int) ∧ u 38 (j : Int) < 128) ∧ (∀ j : Nat, j < D.length → u 38 (j : Int) = D.getD j 0) ∧ (u 0 4).toNat ≠ 38 ∧ (u 0 5).toNat ≠ 38
theorem lensure {x : Int} (h : TXl u D) (hx : 0 ≤ x ∧ x ≤ 258) : wp (f_J5_ensureCapacityInternal_d00df x u) (fun q => FrC u q.2 ∧ TXl q.2 D ∧ x ≤ q.2 1000 1 ∧ q.2 37 = u 37) := by
  obtain ⟨h1, h2, h3, h4, h5, h6, h7, h8⟩ := h
  unfold f_J5_ensureCapacityInternal_d00df
  refine wp_g ⟨⟨by omega, by omega, h5⟩, h1, h7, h8, hx.1, by omega⟩ ?_
  refine wp_i (fun c => ?_) (fun c => ?_)
  · exact wp_s ⟨FrC.rf, ⟨h1, h2, h3, h4, h5, h6, h7, h8⟩, c, rfl⟩
  · have em : x ≤ maxI x (2 * u 1000 1 + 2) ∧ 2 * u 1000 1 + 2 ≤ maxI x (2 * u 1000 1 + 2) ∧ maxI x (2 * u 1000 1 + 2) ≤ 520 := by
      unfold maxI
      split <;> omega
    generalize maxI x (2 * u 1000 1 + 2) = m at *
    refine wp_g (by omega) ?_
    refine wp_s ?_
    have gr : ∀ c j, (c ≠ 38) → (c ≠ 1000 ∨ j ≠ 1) → grown u m c j = u c j := fun c j c0 c1 => by
      unfold grown
      rw [if_neg (by omega), if_neg c0]
    have g1 : grown u m 1000 1 = m := if_pos ⟨rfl, rfl⟩
    have g38 : ∀ j, grown u m 38 j = if j < u 1000 1 then u 38 j else 0 := fun j => by
      unfold grown
      rw [if_neg (by omega), if_pos rfl]
    refine ⟨⟨fun c c0 c1 c2 => funext fun j => gr c j c1 (Or.inl c2), fun j hj => gr 1000 j (by decide) (Or.inr hj)⟩, ⟨?_, ?_, ?_, ?_, fun j hj => ?_, fun j hj => ?_, ?_, ?_⟩, ?_, funext fun j => gr 37 j (by decide) (by omega)⟩
    · exact (gr 37 1 (by decide) (by omega)).trans h1
    · exact (gr 37 3 (by decide) (by omega)).trans h2
    · show 16 ≤ grown u m 1000 1 ∧ grown u m 1000 1 ≤ 520
      rw [g1]; omega
    · show _ ≤ grown u m 1000 1
      rw [g1]; omega
    · show -128 ≤ grown u m 38 (j : Int) ∧ grown u m 38 (j : Int) < 128
      rw [g38]
      split
      · exact h5 j (by omega)
      · omega
    · show grown u m 38 (j : Int) = _
      rw [g38, if_pos (by omega)]; exact h6 j hj
    · show (grown u m 0 4).toNat ≠ 38
      rw [gr 0 4 (by decide) (by omega)]; exact h7
    · show (grown u m 0 5).toNat ≠ 38
      rw [gr 0 5 (by decide) (by omega)]; exact h8
    · show x ≤ grown u m 1000 1
      rw [g1]; omega
/-- the bytes behind the text are laid, then its length -/
theorem TXl.lay {w : uS} {E : List Int} {n : Int} (h : TXl u D) (hw : ∀ c, c ≠ 38 → w c = u c) (hn : n = (D.length : Int) + E.length) (hc : n ≤ u 1000 1) (hE : ∀ x ∈ E, 0 ≤ x ∧ x < 128) (h1 : ∀ j : Nat, j < D.length → w 38 (j : Int) = u 38 (j : Int)) (h2 : ∀ j : Nat, j < E.length → w 38 ((D.length : Int) + j) = E.getD j 0) (h3 : ∀ j : Int, n ≤ j → w 38 j = u 38 j) : TXl (up w 37 3 n) (D ++ E) := by
  obtain ⟨a1, a2, a3, a4, a5, a6, a7, a8⟩ := h
  have gb : ∀ j : Nat, j < E.length → 0 ≤ E.getD j 0 ∧ E.getD j 0 < 128 := fun j hj => by
    rw [List.getD_eq_getElem?_getD, List.getElem?_eq_getElem hj, Option.getD_some]
    exact hE _ (List.getElem_mem hj)
  have c1000 : up w 37 3 n 1000 1 = u 1000 1 := by rw [up_k (by decide), hw 1000 (by decide)]
  have c38 : ∀ j, up w 37 3 n 38 j = w 38 j := fun j => up_k (by decide)
  refine ⟨by rw [up_j (by decide), hw 37 (by decide)]; exact a1, by rw [up_s, List.length_append]; omega, by rw [c1000]; exact a3, by rw [c1000, List.length_append]; omega, fun j hj => ?_, fun j hj => ?_, by rw [up_k (by decide), hw 0 (by decide)]; exact a7, by rw [up_k (by decide), hw 0 (by decide)]; exact a8⟩
  · rw [c1000] at hj
    rw [c38]
    by_cases q1 : j < D.length
    · rw [h1 j q1]; exact a5 j hj
    · by_cases q2 : (j : Int) < n
      · have e := h2 (j - D.length) (by omega)
        rw [show (D.length : Int) + ((j - D.length : Nat) : Int) = (j : Int) by omega] at e
        have := gb (j - D.length) (by omega)
        rw [e]; omega
      · rw [h3 j (by omega)]; exact a5 j hj
  · rw [c38]
    rw [List.length_append] at hj
    by_cases q1 : j < D.length
    · rw [h1 j q1, getD_l q1]; exact a6 j q1
    · have e := h2 (j - D.length) (by omega)
      rw [show (D.length : Int) + ((j - D.length : Nat) : Int) = (j : Int) by omega] at e
      rw [e, getD_r (by omega)]
theorem lappendS {k : Nat} (hk : 2000 ≤ k ∧ k < 2020) (h : TXl u D) (hl : D.length + (strL k).length ≤ 258) : wp (f_J4_append_15ec4 k u) (fun q => q.1 = 37 ∧ FrC u q.2 ∧ TXl q.2 (D ++ strL k)) := by
  unfold f_J4_append_15ec4
  refine wp_g hk ?_
  have h2 := h.2.1
  unfold f_J5_append_cf1ce
  have main : wp (xgd (2000 ≤ k ∧ k < 2020) <| xbd (f_J0_length_8abf5 k u) fun v2 u3 => xbd (f_J5_ensureCapacityInternal_d00df (u3 37 3 + v2) u3) fun _ u5 => xbd (f_J5_putStringAt_47b60 (u5 37 3) k u5) fun _ u7 => xlet (up u7 37 3 (u7 37 3 + v2)) fun u8 => some ((37 : Int), u8)) (fun q => q.1 = 37 ∧ FrC u q.2 ∧ TXl q.2 (D ++ strL k)) := by
    refine wp_g hk ?_
    refine wp_e (estrlen hk) ?_
    rw [h2]
    refine wp_b (lensure h (by omega)) (fun r v hv => ?_)
    obtain ⟨f1, t1, c1, q37⟩ := hv
    have f1 : FrC u v := f1
    have t1 : TXl v D := t1
    have c1 : (D.length : Int) + (strL k).length ≤ v 1000 1 := c1
    have t1' := t1
    obtain ⟨a1, a2, a3, a4, a5, a6, a7, a8⟩ := t1'
    have hp : f_J5_putStringAt_47b60 (v 37 3) k v = some (0, upA v 38 (fun j => if (D.length : Int) ≤ j ∧ j < (D.length : Int) + ((strL k).length : Int) then (strL k).getD (j - (D.length : Int)).toNat 0 else v 38 j)) := by
      have e1 : ∀ a : Int, shlI a 0 = a := fun a => by show a * 1 = a; omega
      refine wp_eq ?_
      unfold f_J5_putStringAt_47b60
      refine wp_g hk ?_
      have ec : f_J0_coder_7d493 k v = some (0, v) := xgd_t hk
      have ei : f_J5_inflateIfNeededFor_a7421 k v = some (0, v) := by
        refine wp_eq ?_
        unfold f_J5_inflateIfNeededFor_a7421
        refine wp_g hk (wp_f (by decide) (wp_e ec ?_))
        repeat (first | (with_reducible refine wp_g ?_ ?_; · omega) | (with_reducible refine wp_f ?_ ?_; · omega) | (with_reducible refine wp_t ?_ ?_; · omega))
        exact wp_s rfl
      refine wp_e ei ?_
      unfold f_J0_getBytes_840e7
      rw [a1, a2]
      have eg : (xgd (2000 ≤ k ∧ k < 2020) <| xbd (f_J0_coder_7d493 k v) fun v2 u3 => xgd (InR v2 ∧ InR 0) <| if v2 = 0 then xgd (0 ≤ (0 : Int) ∧ (0 : Int) < 32) <| xgd ((0 ≤ (shlI (D.length : Int) 0) ∧ (shlI (D.length : Int) 0) + ((strL k).length : Int) ≤ u3 1000 1 ∧ u3 1000 1 < 2147483648)) <| xlet (upA u3 38 (fun j => if (shlI (D.length : Int) 0) ≤ j ∧ j < (shlI (D.length : Int) 0) + ((strL k).length : Int) then (strL k).getD (j - (shlI (D.length : Int) 0)).toNat 0 else u3 38 j)) fun u12 => some ((0 : Int), u12) else none) = some (0, upA v 38 (fun j => if (D.length : Int) ≤ j ∧ j < (D.length : Int) + ((strL k).length : Int) then (strL k).getD (j - (D.length : Int)).toNat 0 else v 38 j)) := by
        refine wp_eq ?_
        refine wp_g hk (wp_e ec ?_)
        rw [e1]
        repeat (first | (with_reducible refine wp_L ?_) | (with_reducible refine wp_g ?_ ?_; · omega) | (with_reducible refine wp_f ?_ ?_; · omega) | (with_reducible refine wp_t ?_ ?_; · omega))
        exact wp_s rfl
      refine wp_e eg ?_
      exact wp_s rfl
    refine wp_e hp ?_
    refine wp_l (fun u8 h8 => ?_)
    have k1 : ∀ c, c ≠ 37 → c ≠ 38 → c ≠ 1000 → u8 c = u c := fun c c0 c1 c2 => by rw [h8]; exact (up_c c0).trans ((upA_c c1).trans (f1.1 c c0 c1 c2))
    have k2 : ∀ j, j ≠ 1 → u8 1000 j = u 1000 j := fun j hj => by rw [h8, up_k (by decide), upA_k (by decide)]; exact f1.2 j hj
    refine wp_s ⟨rfl, ⟨k1, k2⟩, ?_⟩
    show TXl u8 _
    rw [h8]
    have e37 : upA v 38 (fun j => if (D.length : Int) ≤ j ∧ j < (D.length : Int) + ((strL k).length : Int) then (strL k).getD (j - (D.length : Int)).toNat 0 else v 38 j) 37 3 = (D.length : Int) := (upA_k (by decide)).trans a2
    show TXl (up (upA v 38 (fun j => if (D.length : Int) ≤ j ∧ j < (D.length : Int) + ((strL k).length : Int) then (strL k).getD (j - (D.length : Int)).toNat 0 else v 38 j)) 37 3 (upA v 38 (fun j => if (D.length : Int) ≤ j ∧ j < (D.length : Int) + ((strL k).length : Int) then (strL k).getD (j - (D.length : Int)).toNat 0 else v 38 j) 37 3 + ((strL k).length : Int))) (D ++ strL k)
    rw [e37]
    refine t1.lay (fun c hc => upA_c hc) rfl c1 (fun x hx => strL_b (k - 2000) (by omega) x hx) (fun j hj => ?_) (fun j hj => ?_) (fun j hj => ?_)
    · rw [upA_s, if_neg (by omega)]
    · rw [upA_s, if_pos ⟨by omega, by omega⟩]
      congr 1
      omega
    · rw [upA_s, if_neg (by omega)]
  refine wp_b main (fun r v hv => ?_)
  obtain ⟨r1, r2⟩ := hv
  refine wp_g r1 (wp_s ⟨rfl, r2⟩)
theorem lappendC {x : Int} (hx : 0 ≤ x ∧ x < 128) (h : TXl u D) (hl : D.length + 1 ≤ 258) : wp (f_J4_append_cf468 x u) (fun q => q.1 = 37 ∧ FrC u q.2 ∧ TXl q.2 (D ++ [x])) := by
  have h2 := h.2.1
  unfold f_J4_append_cf468
  have main : wp (f_J5_append_3fe6f x u) (fun q => q.1 = 37 ∧ FrC u q.2 ∧ TXl q.2 (D ++ [x])) := by
    unfold f_J5_append_3fe6f
    rw [h2]
    refine wp_b (lensure h (by omega)) (fun r v hv => ?_)
    obtain ⟨f1, t1, c1, q37⟩ := hv
    have f1 : FrC u v := f1
    have t1 : TXl v D := t1
    have c1 : (D.length : Int) + 1 ≤ v 1000 1 := c1
    have t1' := t1
    obtain ⟨a1, a2, a3, a4, a5, a6, a7, a8⟩ := t1'
    refine wp_e (cisLatin1 a1) ?_
    refine wp_g (by decide) ?_
    refine wp_L ?_
    refine wp_f (by decide) ?_
    have ee : f_J1_canEncode_fc78d x v = some (1, v) := by
      refine wp_eq ?_
      unfold f_J1_canEncode_fc78d
      refine wp_g (by omega) ?_
      refine wp_f (by omega) ?_
      exact wp_s rfl
    refine wp_e ee ?_
    refine wp_g (by decide) ?_
    refine wp_f (by decide) ?_
    have en : nar8 x = x := by unfold nar8; omega
    have z1 : up v 37 3 (v 37 3 + 1) 1000 1 = v 1000 1 := up_k (by decide)
    refine wp_L ?_
    rw [en, z1, a2]
    refine wp_g (by omega) ?_
    refine wp_l (fun u8 h8 => ?_)
    have k1 : ∀ c, c ≠ 37 → c ≠ 38 → c ≠ 1000 → u8 c = u c := fun c c0 c1 c2 => by rw [h8]; exact (up_c c1).trans ((up_c c0).trans (f1.1 c c0 c1 c2))
    have k2 : ∀ j, j ≠ 1 → u8 1000 j = u 1000 j := fun j hj => by rw [h8, up_k (by decide), up_k (by decide)]; exact f1.2 j hj
    refine wp_s ⟨rfl, ⟨k1, k2⟩, ?_⟩
    show TXl u8 _
    rw [h8]
    have ex : up (up v 37 3 ((D.length : Int) + 1)) 38 (D.length : Int) x = up (up v 38 (D.length : Int) x) 37 3 ((D.length : Int) + 1) := by
      funext a b
      unfold up
      by_cases q1 : a = 38 ∧ b = (D.length : Int)
      · rw [if_pos q1, if_neg (by omega), if_pos q1]
      · rw [if_neg q1, if_neg q1]
    show TXl (up (up v 37 3 ((D.length : Int) + 1)) 38 (D.length : Int) x) (D ++ [x])
    rw [ex]
    refine t1.lay (E := [x]) (fun c hc => up_c hc) rfl c1 (fun y hy => by rw [List.mem_singleton] at hy; subst hy; exact hx) (fun j hj => up_j (by omega)) (fun j hj => ?_) (fun j hj => up_j (by omega))
    have : j = 0 := by
      have hj : j < 1 := hj
      omega
    subst this
    show up v 38 (D.length : Int) x 38 ((D.length : Int) + 0) = x
    rw [Int.add_zero, up_s]
  refine wp_b main (fun r v hv => ?_)
  obtain ⟨r1, r2⟩ := hv
  refine wp_g r1 (wp_s ⟨rfl, r2⟩)
theorem lgetChars {x b : Int} (hx : 0 ≤ x ∧ x ≤ 9999) (hb : 0 ≤ b) (hc : b + ((dg x).length : Int) ≤ u 1000 1 ∧ u 1000 1 ≤ 600) : wp (f_J6_getChars_ba4f3 x (b + ((dg x).length : Int)) u) (fun q => GCp x b u q.2) := by
  unfold f_J6_getChars_ba4f3
  refine wp_g (by omega) ?_
  refine wp_L ?_
  refine wp_t (by omega) ?_
  refine wp_g (by omega) ?_
  refine wp_t rfl ?_
  refine wp_L ?_
  refine wp_L ?_
  generalize hidx : b + ((dg x).length : Int) = idx at *
  have hlen := dg_len x
  refine wl3 (fun y i v => (y = -x ∧ i = idx ∧ v = u) ∨ (100 ≤ x ∧ y = -(x / 100) ∧ i = idx - 2 ∧ v = up (up u 38 (idx - 1) (48 + x % 10)) 38 (idx - 2) (48 + x / 10 % 10))) (fun y _ _ => (-y).toNat) (fun go y i v hI hg => ?_) FU _ _ _ (Or.inl ⟨rfl, rfl, rfl⟩) (FU_l (by omega))
  have v1000 : v 1000 1 = u 1000 1 := by
    rcases hI with ⟨-, -, rfl⟩ | ⟨-, -, -, rfl⟩
    · rfl
    · rw [up_k (by decide), up_k (by decide)]
  have hi1 : 1 ≤ i ∧ i ≤ idx := by
    rcases hI with ⟨-, h, -⟩ | ⟨h0, -, h, -⟩
    · split at hlen <;> (try split at hlen) <;> (try split at hlen) <;> omega
    · rw [if_neg (by omega), if_neg (by omega)] at hlen
      split at hlen <;> omega
  unfold s_J6_getChars_ba4f3_22b
  have hy : -9999 ≤ y ∧ y ≤ 0 := by omega
  refine wp_g (by omega) ?_
  refine wp_i (fun c => ?_) (fun c => ?_)
  · have o1 := dgOnes (r := -y) (by omega)
    have o2 := dgTens (r := -y) (by omega)
    refine wp_g (by omega) ?_
    rw [o1]
    refine wp_g (by omega) ?_
    refine wp_L ?_
    have z : up v 38 (i + -1) (48 + -y % 10) 1000 1 = u 1000 1 := (up_k (by decide)).trans v1000
    refine wp_g (by omega) ?_
    refine wp_i (fun c => ?_) (fun c => ?_)
    · refine wp_g (by decide) ?_
      refine wp_t rfl (wp_s ?_)
      show GCp x b u (up v 38 (i + -1) (48 + -y % 10))
      rcases hI with ⟨rfl, rfl, rfl⟩ | ⟨h0, rfl, rfl, rfl⟩
      · rw [if_pos (by omega)] at hlen
        have := gc1 (u := v) (b := b) (show x < 10 by omega)
        rw [show i + -1 = b by omega, show 48 + - -x % 10 = 48 + x % 10 by omega]
        exact this
      · rw [if_neg (by omega), if_neg (by omega), if_pos (by omega)] at hlen
        have := gc3 (u := u) (b := b) h0 (show x < 1000 by omega)
        rw [show idx - 2 + -1 = b by omega, show idx - 1 = b + 2 by omega, show idx - 2 = b + 1 by omega, show 48 + - -(x / 100) % 10 = 48 + x / 100 % 10 by omega]
        exact this
    · have hi2 : 2 ≤ i := by
        rcases hI with ⟨h1, h, -⟩ | ⟨h0, h1, h, -⟩
        · rw [if_neg (by omega)] at hlen
          split at hlen <;> (try split at hlen) <;> omega
        · rw [if_neg (by omega), if_neg (by omega), if_neg (by omega)] at hlen
          omega
      refine wp_g (by omega) ?_
      rw [o2]
      refine wp_g (by omega) ?_
      refine wp_L ?_
      refine wp_g (by decide) ?_
      refine wp_t rfl (wp_s ?_)
      show GCp x b u (up (up v 38 (i + -1) (48 + -y % 10)) 38 (i + -1 + -1) (48 + -y / 10))
      rcases hI with ⟨rfl, rfl, rfl⟩ | ⟨h0, rfl, rfl, rfl⟩
      · rw [if_neg (by omega), if_pos (by omega)] at hlen
        have := gc2 (u := v) (b := b) (show 10 ≤ x by omega) (show x < 100 by omega)
        rw [show i + -1 + -1 = b by omega, show i + -1 = b + 1 by omega, show 48 + - -x % 10 = 48 + x % 10 by omega, show 48 + - -x / 10 = 48 + x / 10 % 10 by omega]
        exact this
      · rw [if_neg (by omega), if_neg (by omega), if_neg (by omega)] at hlen
        have := gc4 (u := u) (b := b) (show 1000 ≤ x by omega)
        rw [show idx - 2 + -1 + -1 = b by omega, show idx - 2 + -1 = b + 1 by omega, show idx - 1 = b + 3 by omega, show idx - 2 = b + 2 by omega, show 48 + - -(x / 100) % 10 = 48 + x / 100 % 10 by omega, show 48 + - -(x / 100) / 10 = 48 + x / 1000 % 10 by omega]
        exact this
  · rcases hI with ⟨rfl, rfl, rfl⟩ | ⟨h0, h1, h, -⟩
    · have et : (-x).tdiv 100 = -(x / 100) := by rw [Int.neg_tdiv, Int.tdiv_eq_ediv_of_nonneg hx.1]
      have er : -(x / 100) * 100 - -x = x % 100 := by omega
      rw [if_neg (by omega), if_neg (by omega)] at hlen
      have hl3 : 3 ≤ i := by split at hlen <;> omega
      have o1 := dgOnes (r := x % 100) (by omega)
      have o2 := dgTens (r := x % 100) (by omega)
      refine wp_g (by omega) ?_
      refine wp_L ?_
      refine wp_L ?_
      rw [et, er]
      refine wp_g (by omega) ?_
      rw [o1]
      refine wp_g (by omega) ?_
      refine wp_L ?_
      have z : up v 38 (i + -1) (48 + x % 100 % 10) 1000 1 = v 1000 1 := up_k (by decide)
      refine wp_g (by omega) ?_
      rw [o2]
      refine wp_g (by omega) ?_
      refine wp_L ?_
      refine hg _ _ _ (Or.inr ⟨by omega, rfl, by omega, ?_⟩) (by omega)
      rw [show i + -1 + -1 = i - 2 by omega, show i + -1 = i - 1 by omega, show 48 + x % 100 % 10 = 48 + x % 10 by omega, show 48 + x % 100 / 10 = 48 + x / 10 % 10 by omega]
    · omega
theorem lappendI {x : Int} (hx : 0 ≤ x ∧ x ≤ 9999) (h : TXl u D) (hl : D.length + 4 ≤ 258) : wp (f_J4_append_bf812 x u) (fun q => q.1 = 37 ∧ FrC u q.2 ∧ TXl q.2 (D ++ dg x)) := by
  have h2 := h.2.1
  have hdl : (dg x).length ≤ 4 := by
    rw [dg_len]
    split
    · decide
    · split
      · decide
      · split <;> decide
  unfold f_J4_append_bf812
  have main : wp (f_J5_append_c97b9 x u) (fun q => q.1 = 37 ∧ FrC u q.2 ∧ TXl q.2 (D ++ dg x)) := by
    unfold f_J5_append_c97b9
    refine wp_L ?_
    refine wp_e (cstringSize hx) ?_
    refine wp_L ?_
    rw [h2]
    refine wp_b (lensure h (by omega)) (fun r v hv => ?_)
    obtain ⟨f1, t1, c1, q37⟩ := hv
    have f1 : FrC u v := f1
    have t1 : TXl v D := t1
    have c1 : (D.length : Int) + ((dg x).length : Int) ≤ v 1000 1 := c1
    have a3 := t1.2.2.1
    refine wp_e (cisLatin1 t1.1) ?_
    refine wp_g (by decide) ?_
    refine wp_L ?_
    refine wp_f (by decide) ?_
    refine wp_b (lgetChars (u := v) hx (b := (D.length : Int)) (by omega) ⟨c1, by omega⟩) (fun r w hw => ?_)
    obtain ⟨w1, w2, w3⟩ := hw
    have w1 : ∀ c, c ≠ 38 → w c = v c := w1
    refine wp_l (fun u8 h8 => ?_)
    have k1 : ∀ c, c ≠ 37 → c ≠ 38 → c ≠ 1000 → u8 c = u c := fun c c0 c1 c2 => by rw [h8]; exact (up_c c0).trans ((w1 c c1).trans (f1.1 c c0 c1 c2))
    have k2 : ∀ j, j ≠ 1 → u8 1000 j = u 1000 j := fun j hj => by rw [h8, up_k (by decide), w1 1000 (by decide)]; exact f1.2 j hj
    refine wp_s ⟨rfl, ⟨k1, k2⟩, ?_⟩
    show TXl u8 _
    rw [h8]
    refine t1.lay w1 rfl c1 (dg_b hx) (fun j hj => w3 _ (by omega)) (fun j hj => w2 j hj) (fun j hj => w3 _ (by omega))
  refine wp_b main (fun r v hv => ?_)
  obtain ⟨r1, r2⟩ := hv
  refine wp_g r1 (wp_s ⟨rfl, r2⟩)
end LSB
