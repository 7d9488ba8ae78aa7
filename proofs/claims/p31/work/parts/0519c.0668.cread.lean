/-! pure part, 38: the class reads a text -/
/-- the network of an empty text -/
def dN : uS := fun j q => if j = 0 then ([0, 0, 0, 0, 5, 5, 20, 60, 3, 12, 300, 150, 3, 2, 1] : List Int).getD q.toNat 0 else 0
theorem dN_w : NWF dN := ⟨by decide, by decide, by decide, by decide, by decide, by decide, by decide, by decide, by decide, by decide, by decide, by decide, by decide, by decide, by decide, fun s h0 h1 => by have e : dN 0 0 = 0 := rfl; omega, fun s h0 h1 => by have e : dN 0 1 = 0 := rfl; omega⟩
section CR
variable {u : uS} {k : Nat} {M : uS}
theorem cfill {c : Nat} {x : Int} (hc : c < NN ∧ sT c = 100) (hs : sN c ≤ 2000) : wp (f_J7_fill_53178 c x u) (fun q => (∀ d, d ≠ c → q.2 d = u d) ∧ ∀ j, 0 ≤ j → j < (sN c : Int) → q.2 c j = x) := by
  unfold f_J7_fill_53178
  refine wp_g hc ?_
  refine wp_L ?_
  refine wl2 (fun i v => (0 ≤ i ∧ i ≤ (sN c : Int)) ∧ (∀ d, d ≠ c → v d = u d) ∧ ∀ j, 0 ≤ j → j < i → v c j = x) (fun i _ => ((sN c : Int) - i).toNat) (fun go i v hI hg => ?_) FU _ _ ⟨by omega, fun _ _ => rfl, fun j j0 j1 => by omega⟩ (FU_l (by omega))
  obtain ⟨hi, hf, hv⟩ := hI
  unfold s_J7_fill_53178_5
  refine wp_g (by omega) ?_
  refine wp_i (fun cc => ?_) (fun cc => ?_)
  · exact wp_s ⟨hf, fun j j0 j1 => hv j j0 (by omega)⟩
  · repeat (first | (with_reducible refine wp_L ?_) | (with_reducible refine wp_g ?_ ?_; · omega) | (with_reducible refine wp_f ?_ ?_; · omega) | (with_reducible refine wp_t ?_ ?_; · omega))
    refine hg _ _ ⟨by omega, fun d hd => (up_c hd).trans (hf d hd), fun j j0 j1 => ?_⟩ (by omega)
    by_cases hj : j = i
    · subst hj; exact up_s _ _ _ _
    · rw [up_j hj]; exact hv j j0 (by omega)
theorem creset (hk : k = 10 ∨ k = 19) : wp (f_X5_reset k u) (fun q => (∀ c, (c < k ∨ k + 9 ≤ c) → q.2 c = u c) ∧ CNb q.2 k dN) := by
  obtain ⟨nk, nk1, nk2⟩ := net_k hk
  unfold f_X5_reset
  refine wp_g nk ?_
  have e : f_X2_place (k + 1) 0 0 5 5 20 u = some (0, up (up (up (up (up u (k + 1) 0 0) (k + 1) 1 0) (k + 1) 2 5) (k + 1) 3 5) (k + 1) 4 20) := by
    refine wp_eq ?_
    unfold f_X2_place
    refine wp_g nk1 ?_
    repeat (first | (with_reducible refine wp_L ?_) | (with_reducible refine wp_g ?_ ?_; · omega) | (with_reducible refine wp_f ?_ ?_; · omega) | (with_reducible refine wp_t ?_ ?_; · omega))
    exact wp_s rfl
  refine wp_e e ?_
  repeat (first | (with_reducible refine wp_L ?_) | (with_reducible refine wp_g ?_ ?_; · omega) | (with_reducible refine wp_f ?_ ?_; · omega) | (with_reducible refine wp_t ?_ ?_; · omega))
  refine wp_s ⟨fun c hc => ?_, fun i i0 i1 => ?_, fun s s0 s1 => by have e : dN 0 0 = 0 := rfl; omega, fun s s0 s1 => by have e : dN 0 1 = 0 := rfl; omega⟩
  · show up (up (up (up (up (up (up (up (up (up (up (up (up (up (up u (k + 1) 0 0) (k + 1) 1 0) (k + 1) 2 5) (k + 1) 3 5) (k + 1) 4 20) (k + 2) 0 0) k 2 60) k 3 3) k 4 12) k 5 300) k 6 150) k 7 3) k 8 2) k 9 1) k 10 0 c = u c
    iterate 15 rw [up_c (by omega)]
  · show up (up (up (up (up (up (up (up (up (up (up (up (up (up (up u (k + 1) 0 0) (k + 1) 1 0) (k + 1) 2 5) (k + 1) 3 5) (k + 1) 4 20) (k + 2) 0 0) k 2 60) k 3 3) k 4 12) k 5 300) k 6 150) k 7 3) k 8 2) k 9 1) k 10 0 (k + lxa i) (lxb i) = dN 0 i
    rcases hk with rfl | rfl <;> rcases i15 ⟨i0, i1⟩ with rfl | rfl | rfl | rfl | rfl | rfl | rfl | rfl | rfl | rfl | rfl | rfl | rfl | rfl | rfl <;> rfl
theorem croot {x : Int} (hx : InR x) : f_X9_root x u = some (rs x 12 0, u) := by
  refine wp_eq ?_
  unfold f_X9_root
  refine wl3 (fun a b v => v = u ∧ (-1 ≤ b ∧ b ≤ 11) ∧ (0 ≤ a ∧ a + (2 : Int) ^ (b + 1).toNat ≤ 4096) ∧ rs x (b + 1).toNat a = rs x 12 0) (fun _ b _ => (b + 1).toNat) (fun go a b v hI hg => ?_) FU _ _ _ ⟨rfl, by decide, by decide, rfl⟩ (FU_l (by decide))
  obtain ⟨rfl, hb, ha, hr⟩ := hI
  unfold s_X9_root_5
  refine wp_g (by omega) ?_
  refine wp_i (fun cc => ?_) (fun cc => ?_)
  · rw [show b = -1 by omega] at hr
    exact wp_s (by rw [← hr]; rfl)
  · have e1 : (b + 1).toNat = b.toNat + 1 := by omega
    have ep : (2 : Int) ^ (b.toNat + 1) = 2 ^ b.toNat * 2 := Int.pow_succ 2 _
    have pp := two_pow_pos' b.toNat
    have es : shlI 1 b = 2 ^ b.toNat := by unfold shlI; rw [Int.one_mul]
    have er : rs x (b.toNat + 1) a = rs x b.toNat (if (a + (2 : Int) ^ b.toNat) * (a + (2 : Int) ^ b.toNat) ≤ x then a + (2 : Int) ^ b.toNat else a) := rfl
    rw [e1, ep] at ha
    rw [e1, er] at hr
    have e2 : (b + -1 + 1).toNat = b.toNat := by omega
    have e3 : (2 : Int) ^ (b + -1 + 1).toNat = 2 ^ b.toNat := by rw [e2]
    have sq := sq_le (a := a + (2 : Int) ^ b.toNat) (B := 4096) (by omega) (by decide)
    refine wp_g (by omega) ?_
    refine wp_L ?_
    rw [es]
    generalize (2 : Int) ^ b.toNat = P at *
    generalize hX : (a + P) * (a + P) = X at *
    refine wp_g (by omega) ?_
    refine wp_i (fun cc => ?_) (fun cc => ?_)
    · rw [if_neg (by omega)] at hr
      exact hg _ _ _ ⟨rfl, by omega, by rw [e3]; omega, by rw [e2]; exact hr⟩ (by omega)
    · rw [if_pos (by omega)] at hr
      exact hg _ _ _ ⟨rfl, by omega, by rw [e3]; omega, by rw [e2]; exact hr⟩ (by omega)
theorem cdistance {a b : Int} (ha : -2500 ≤ a ∧ a ≤ 2500) (hb : -2500 ≤ b ∧ b ≤ 2500) : f_X9_distance a b u = some (dst a b, u) := by
  have h1 := sq_le ha (by decide)
  have h2 := sq_le hb (by decide)
  refine wp_eq ?_
  unfold f_X9_distance
  refine wp_e (croot (by omega)) ?_
  rw [dst_12 ha hb]
  exact wp_s rfl
theorem bnodeCount (hk : k = 10 ∨ k = 19) (h : CNb u k M) : f_X2_nodeCount (k + 1) u = some (nds M, u) := by
  have a4 : u (k + 1) 2 = M 0 4 := h.1 4 (by decide) (by decide)
  have a5 : u (k + 1) 3 = M 0 5 := h.1 5 (by decide) (by decide)
  refine wp_eq ?_
  unfold f_X2_nodeCount
  refine wp_g (net_k hk).2.1 ?_
  rw [a4, a5]
  exact wp_s rfl
theorem bnodeX {m : Int} (hk : k = 10 ∨ k = 19) (hN : NWF M) (h : CNb u k M) (hm : 0 ≤ m ∧ m < 1000) : f_X2_nodeX (k + 1) m u = some (ndX M m, u) := by
  obtain ⟨n0, n1, n2, n3, n4, n5, n6, n7, n8, n9, n10, n11, n12, n13, n14, nS, nR⟩ := hN
  have a2 : u (k + 1) 0 = M 0 2 := h.1 2 (by decide) (by decide)
  have a4 : u (k + 1) 2 = M 0 4 := h.1 4 (by decide) (by decide)
  have a6 : u (k + 1) 4 = M 0 6 := h.1 6 (by decide) (by decide)
  refine wp_eq ?_
  unfold f_X2_nodeX
  refine wp_g (net_k hk).2.1 ?_
  repeat (first | (with_reducible refine wp_L ?_) | (with_reducible refine wp_g ?_ ?_; · omega) | (with_reducible refine wp_f ?_ ?_; · omega) | (with_reducible refine wp_t ?_ ?_; · omega))
  rw [a2, a4]
  exact wp_s (by show (M 0 2 + m.tmod (M 0 4) * u (k + 1) 4, u) = _; rw [a6]; rfl)
theorem bnodeY {m : Int} (hk : k = 10 ∨ k = 19) (hN : NWF M) (h : CNb u k M) (hm : 0 ≤ m ∧ m < 1000) : f_X2_nodeY (k + 1) m u = some (ndY M m, u) := by
  obtain ⟨n0, n1, n2, n3, n4, n5, n6, n7, n8, n9, n10, n11, n12, n13, n14, nS, nR⟩ := hN
  have a3 : u (k + 1) 1 = M 0 3 := h.1 3 (by decide) (by decide)
  have a4 : u (k + 1) 2 = M 0 4 := h.1 4 (by decide) (by decide)
  have a6 : u (k + 1) 4 = M 0 6 := h.1 6 (by decide) (by decide)
  refine wp_eq ?_
  unfold f_X2_nodeY
  refine wp_g (net_k hk).2.1 ?_
  repeat (first | (with_reducible refine wp_L ?_) | (with_reducible refine wp_g ?_ ?_; · omega) | (with_reducible refine wp_f ?_ ?_; · omega) | (with_reducible refine wp_t ?_ ?_; · omega))
  rw [a3, a4]
  exact wp_s (by show (M 0 3 + m.tdiv (M 0 4) * u (k + 1) 4, u) = _; rw [a6]; rfl)
theorem CNb.cn (hk : k = 10 ∨ k = 19) (h : CNb u k M) (h7 : ∀ a b, 0 ≤ a → a < M 0 0 → 0 ≤ b → b < M 0 0 → u (k + 7) (8 * a + b) = tvS M a b) (h8 : ∀ n s, 0 ≤ n → n < nds M → 0 ≤ s → s < M 0 0 → u (k + 8) (8 * n + s) = ndD M n s) : CN u k M :=
  ⟨(net_k hk).1, ⟨h.1 0 (by decide) (by decide), h.1 1 (by decide) (by decide), h.1 2 (by decide) (by decide), h.1 3 (by decide) (by decide), h.1 4 (by decide) (by decide), h.1 5 (by decide) (by decide), h.1 6 (by decide) (by decide), h.1 7 (by decide) (by decide), h.1 8 (by decide) (by decide), h.1 9 (by decide) (by decide), h.1 10 (by decide) (by decide), h.1 11 (by decide) (by decide), h.1 12 (by decide) (by decide), h.1 13 (by decide) (by decide), h.1 14 (by decide) (by decide)⟩, h.2.1, h.2.2, h7, h8⟩
end CR
