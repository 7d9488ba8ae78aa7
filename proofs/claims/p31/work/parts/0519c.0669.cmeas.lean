/-! pure part, 39: the class's tables; its parse -/
section CM2
variable {u : uS} {k : Nat} {M : uS}
/-- what the tables hold so far -/
def TBp (v : uS) (k : Nat) (M : uS) (i : Int) : Prop := (∀ a b, 0 ≤ a → a < M 0 0 → 0 ≤ b → b < i → v (k + 7) (8 * a + b) = tvS M a b) ∧ ∀ n s, 0 ≤ n → n < nds M → 0 ≤ s → s < i → v (k + 8) (8 * n + s) = ndD M n s
def FrT2 (k : Nat) (u w : uS) : Prop := ∀ c, c ≠ k + 7 → c ≠ k + 8 → w c = u c
theorem cmeasure (hk : k = 10 ∨ k = 19) (hN : NWF M) (hM : CNb u k M) : wp (f_X5_measure k u) (fun q => FrT2 k u q.2 ∧ CN q.2 k M) := by
  have hW := hN
  obtain ⟨n0, n1, n2, n3, n4, n5, n6, n7, n8, n9, n10, n11, n12, n13, n14, nS, nR⟩ := hN
  obtain ⟨nk, nk1, nk2⟩ := net_k hk
  have nd := nds_b hW
  unfold f_X5_measure
  refine wp_g nk ?_
  refine wl2 (fun i v => FrT2 k u v ∧ (0 ≤ i ∧ i ≤ M 0 0) ∧ TBp v k M i) (fun i _ => (M 0 0 - i).toNat) (fun go i v hI hg => ?_) FU _ _ ⟨fun _ _ _ => rfl, by omega, fun a b h1 h2 h3 h4 => by omega, fun a b h1 h2 h3 h4 => by omega⟩ (FU_l (by omega))
  obtain ⟨hf, hi, hT⟩ := hI
  have hMv : CNb v k M := hM.rw (fun c c0 c1 => hf c (by omega) (by omega))
  have m0 : v k 10 = M 0 0 := hMv.1 0 (by decide) (by decide)
  unfold s_X5_measure_2
  rw [m0]
  refine wp_g (by omega) ?_
  refine wp_i (fun cc => ?_) (fun cc => ?_)
  · have ei : i = M 0 0 := by omega
    subst ei
    exact wp_s ⟨hf, hMv.cn hk hT.1 hT.2⟩
  · have hx := nS i hi.1 (by omega)
    refine wp_g (by omega) ?_
    refine wp_f (by omega) ?_
    refine wp_L ?_
    -- the stations' travels
    refine wl2 (fun a w => FrT2 k u w ∧ (0 ≤ a ∧ a ≤ M 0 0) ∧ TBp w k M i ∧ ∀ q, 0 ≤ q → q < a → w (k + 7) (8 * q + i) = tvS M q i) (fun a _ => (M 0 0 - a).toNat) (fun go2 a w hI2 hg2 => ?_) FU _ _ ⟨hf, by omega, hT, fun q q0 q1 => by omega⟩ (FU_l (by omega))
    obtain ⟨hf2, ha, hT2, hA⟩ := hI2
    have hMw : CNb w k M := hM.rw (fun c c0 c1 => hf2 c (by omega) (by omega))
    have m02 : w k 10 = M 0 0 := hMw.1 0 (by decide) (by decide)
    unfold s_X5_measure_18
    rw [m02]
    refine wp_g (by omega) ?_
    refine wp_i (fun cc => ?_) (fun cc => ?_)
    · have ea : a = M 0 0 := by omega
      subst ea
      -- the nodes' distances
      refine wl2 (fun m z => FrT2 k u z ∧ (0 ≤ m ∧ m ≤ nds M) ∧ TBp z k M i ∧ (∀ q, 0 ≤ q → q < M 0 0 → z (k + 7) (8 * q + i) = tvS M q i) ∧ ∀ q, 0 ≤ q → q < m → z (k + 8) (8 * q + i) = ndD M q i) (fun m _ => (nds M - m).toNat) (fun go3 m z hI3 hg3 => ?_) FU _ _ ⟨hf2, by omega, hT2, hA, fun q q0 q1 => by omega⟩ (FU_l (by omega))
      obtain ⟨hf3, hm, hT3, hA3, hD⟩ := hI3
      have hMz : CNb z k M := hM.rw (fun c c0 c1 => hf3 c (by omega) (by omega))
      have nxt : m = nds M → wp (go (i + 1) z) (fun q => FrT2 k u q.2 ∧ CN q.2 k M) := fun hm2 => by
        subst hm2
        refine hg _ _ ⟨hf3, by omega, fun a b a0 a1 b0 b1 => ?_, fun a b a0 a1 b0 b1 => ?_⟩ (by omega)
        · by_cases hb : b = i
          · subst hb; exact hA3 a a0 a1
          · exact hT3.1 a b a0 a1 b0 (by omega)
        · by_cases hb : b = i
          · subst hb; exact hD a a0 a1
          · exact hT3.2 a b a0 a1 b0 (by omega)
      unfold s_X5_measure_84
      refine wp_e (bnodeCount hk hMz) ?_
      refine wp_g (by omega) ?_
      refine wp_i (fun cc => ?_) (fun cc => ?_)
      · exact nxt (by omega)
      · have x1 := ndX_b hW (n := m) hm.1
        have x2 := ndY_b hW (n := m) hm.1 (by omega)
        have e5 : z (k + 5) i = M 1 i ∧ z (k + 6) i = M 2 i := hMz.2.1 i hi.1 (by omega)
        refine wp_g (by omega) ?_
        refine wp_f (by omega) ?_
        refine wp_e (bnodeX hk hW hMz (by omega)) ?_
        refine wp_g (by omega) ?_
        refine wp_e (bnodeY hk hW hMz (by omega)) ?_
        refine wp_g (by omega) ?_
        rw [e5.1, e5.2]
        refine wp_e (cdistance (by omega) (by omega)) ?_
        refine wp_g (by omega) ?_
        refine wp_L ?_
        refine hg3 _ _ ⟨fun c c7 c8 => (up_c c8).trans (hf3 c c7 c8), by omega, ⟨fun a b a0 a1 b0 b1 => ?_, fun a b a0 a1 b0 b1 => ?_⟩, fun q q0 q1 => ?_, fun q q0 q1 => ?_⟩ (by omega)
        · rw [up_k (by omega)]; exact hT3.1 a b a0 a1 b0 b1
        · rw [up_j (by omega)]; exact hT3.2 a b a0 a1 b0 b1
        · rw [up_k (by omega)]; exact hA3 q q0 q1
        · by_cases hq : q = m
          · subst hq
            rw [show 8 * q + i = q * 8 + i by omega, up_s]; rfl
          · rw [up_j (by omega)]; exact hD q q0 (by omega)
    · have hx2 := nS a ha.1 (by omega)
      have e5 : w (k + 5) i = M 1 i ∧ w (k + 6) i = M 2 i := hMw.2.1 i hi.1 (by omega)
      have e6 : w (k + 5) a = M 1 a ∧ w (k + 6) a = M 2 a := hMw.2.1 a ha.1 (by omega)
      have e7 : w k 2 = M 0 7 := hMw.1 7 (by decide) (by decide)
      repeat (first | (with_reducible refine wp_L ?_) | (with_reducible refine wp_g ?_ ?_; · omega) | (with_reducible refine wp_f ?_ ?_; · omega) | (with_reducible refine wp_t ?_ ?_; · omega))
      rw [e5.1, e5.2, e6.1, e6.2]
      refine wp_e (cdistance (by omega) (by omega)) ?_
      have db := dst_b (M 1 a - M 1 i) (M 2 a - M 2 i)
      have et : f_X5_travelOver k (dst (M 1 a - M 1 i) (M 2 a - M 2 i)) w = some (tvS M a i, w) := by
        refine wp_eq ?_
        unfold f_X5_travelOver
        refine wp_g nk ?_
        repeat (first | (with_reducible refine wp_L ?_) | (with_reducible refine wp_g ?_ ?_; · omega) | (with_reducible refine wp_f ?_ ?_; · omega) | (with_reducible refine wp_t ?_ ?_; · omega))
        rw [e7]
        exact wp_s rfl
      refine wp_e et ?_
      refine wp_g (by omega) ?_
      refine wp_L ?_
      refine hg2 _ _ ⟨fun c c7 c8 => (up_c c7).trans (hf2 c c7 c8), by omega, ⟨fun p b a0 a1 b0 b1 => ?_, fun p b a0 a1 b0 b1 => ?_⟩, fun q q0 q1 => ?_⟩ (by omega)
      · rw [up_j (by omega)]; exact hT2.1 p b a0 a1 b0 b1
      · rw [up_k (by omega)]; exact hT2.2 p b a0 a1 b0 b1
      · by_cases hq : q = a
        · subst hq
          rw [show 8 * q + i = q * 8 + i by omega, up_s]
        · rw [up_j (by omega)]; exact hA q q0 (by omega)
end CM2
