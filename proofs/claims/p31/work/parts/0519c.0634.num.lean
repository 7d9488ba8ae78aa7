/-! pure part, 4: bounds of the values' numbers -/
theorem two_pow_pos' (b : Nat) : (0 : Int) < 2 ^ b := Int.pow_pos (by decide)
theorem rs_b {x : Int} : ∀ {b : Nat} {a : Int}, 0 ≤ a → 0 ≤ rs x b a ∧ rs x b a < a + 2 ^ b := by
  intro b
  induction b with
  | zero => intro a h; exact ⟨h, by show a < a + 1; omega⟩
  | succ b ih =>
    intro a h
    have h2 := two_pow_pos' b
    have e : (2 : Int) ^ (b + 1) = 2 ^ b * 2 := Int.pow_succ 2 b
    show 0 ≤ rs x b (if (a + (2 : Int) ^ b) * (a + (2 : Int) ^ b) ≤ x then a + (2 : Int) ^ b else a) ∧ rs x b (if (a + (2 : Int) ^ b) * (a + (2 : Int) ^ b) ≤ x then a + (2 : Int) ^ b else a) < a + 2 ^ (b + 1)
    rw [e]
    by_cases hc : (a + (2 : Int) ^ b) * (a + (2 : Int) ^ b) ≤ x
    · rw [if_pos hc]
      have := @ih (a + 2 ^ b) (by omega)
      omega
    · rw [if_neg hc]
      have := @ih a h
      omega
theorem dst_b (a b : Int) : 0 ≤ dst a b ∧ dst a b ≤ 8191 := by
  have h := @rs_b (a * a + b * b) 13 0 (Int.le_refl 0)
  have e : (2 : Int) ^ 13 = 8192 := by decide
  rw [e] at h
  unfold dst
  omega
theorem dst_neg (a b : Int) : dst (-a) (-b) = dst a b := by
  unfold dst
  rw [Int.neg_mul_neg, Int.neg_mul_neg]
theorem dst_comm (a b c d : Int) : dst (a - b) (c - d) = dst (b - a) (d - c) := by
  rw [← dst_neg, Int.neg_sub, Int.neg_sub]
theorem sq_le {a B : Int} (h : -B ≤ a ∧ a ≤ B) (hB : 0 ≤ B) : 0 ≤ a * a ∧ a * a ≤ B * B := by
  rcases Int.le_total 0 a with h0 | h0
  · exact ⟨Int.mul_nonneg h0 h0, Int.mul_le_mul h.2 h.2 h0 hB⟩
  · have h1 : a * a = (-a) * (-a) := (Int.neg_mul_neg a a).symm
    rw [h1]
    exact ⟨Int.mul_nonneg (by omega) (by omega), Int.mul_le_mul (by omega) (by omega) (by omega) hB⟩
/-- twelve bits are enough for what is near -/
theorem dst_12 {a b : Int} (ha : -2500 ≤ a ∧ a ≤ 2500) (hb : -2500 ≤ b ∧ b ≤ 2500) : dst a b = rs (a * a + b * b) 12 0 := by
  have h1 := sq_le ha (by decide)
  have h2 := sq_le hb (by decide)
  unfold dst
  show rs (a * a + b * b) 12 (if ((0 : Int) + (2 : Int) ^ 12) * (0 + (2 : Int) ^ 12) ≤ a * a + b * b then 0 + (2 : Int) ^ 12 else 0) = _
  rw [if_neg (by have e : ((0 : Int) + (2 : Int) ^ 12) * (0 + (2 : Int) ^ 12) = 16777216 := by decide
                 rw [e]; omega)]
theorem tdv {d t : Int} (hd : 0 ≤ d) (ht : 1 ≤ t) : 0 ≤ d.tdiv t ∧ d.tdiv t ≤ d := by
  rw [Int.tdiv_eq_ediv_of_nonneg hd]
  exact ⟨Int.ediv_nonneg hd (by omega), Int.ediv_le_self t hd⟩
theorem tdv_abs {d t : Int} (ht : 1 ≤ t) : -absI d ≤ d.tdiv t ∧ d.tdiv t ≤ absI d := by
  unfold absI
  rcases Int.le_total 0 d with h | h
  · rw [if_pos h]; have := tdv h ht; omega
  · have h1 := tdv (d := -d) (t := t) (by omega) ht
    rw [Int.neg_tdiv] at h1
    by_cases h0 : 0 ≤ d
    · rw [if_pos h0]; omega
    · rw [if_neg h0]; omega
theorem tmd {a : Int} (h : 0 ≤ a) (b : Int) : a.tmod b = a % b := Int.tmod_eq_emod_of_nonneg h
theorem tvS_b {N : uS} (hN : NWF N) (a b : Int) : 0 ≤ tvS N a b ∧ tvS N a b ≤ 81910 := by
  have h7 := hN.2.2.2.2.2.2.2.1
  have h := dst_b (N 1 a - N 1 b) (N 2 a - N 2 b)
  have h2 := tdv (d := dst (N 1 a - N 1 b) (N 2 a - N 2 b) * 10) (t := N 0 7) (by omega) h7.1
  unfold tvS
  omega
theorem tvS_comm (N : uS) (a b : Int) : tvS N a b = tvS N b a := by
  unfold tvS
  rw [dst_comm]
theorem tvN_b {N : uS} (hN : NWF N) (n s : Int) : 0 ≤ tvN N n s ∧ tvN N n s ≤ 81910 := by
  have h7 := hN.2.2.2.2.2.2.2.1
  have h : 0 ≤ ndD N n s ∧ ndD N n s ≤ 8191 := dst_b _ _
  have h2 := tdv (d := ndD N n s * 10) (t := N 0 7) (by omega) h7.1
  unfold tvN
  omega
theorem nds_b {N : uS} (hN : NWF N) : 1 ≤ nds N ∧ nds N ≤ 144 := by
  obtain ⟨-, -, -, -, h4, h5, -⟩ := hN
  unfold nds
  have h1 : 1 * 1 ≤ N 0 4 * N 0 5 := Int.mul_le_mul h4.1 h5.1 (by decide) (by omega)
  have h2 : N 0 4 * N 0 5 ≤ 12 * 12 := Int.mul_le_mul h4.2 h5.2 (by omega) (by decide)
  omega
theorem ndX_b {N : uS} (hN : NWF N) {n : Int} (hn : 0 ≤ n) : 0 ≤ ndX N n ∧ ndX N n ≤ 2088 := by
  obtain ⟨-, -, h2, -, h4, -, h6, -⟩ := hN
  unfold ndX
  rw [tmd hn]
  have a1 := Int.emod_nonneg n (show N 0 4 ≠ 0 by omega)
  have a2 := Int.emod_lt_of_pos n (show 0 < N 0 4 by omega)
  have b1 : 0 ≤ n % N 0 4 * N 0 6 := Int.mul_nonneg a1 (by omega)
  have b2 : n % N 0 4 * N 0 6 ≤ 11 * 99 := Int.mul_le_mul (by omega) h6.2 (by omega) (by decide)
  omega
theorem ndY_b {N : uS} (hN : NWF N) {n : Int} (hn : 0 ≤ n) (h : n < nds N) : 0 ≤ ndY N n ∧ ndY N n ≤ 2088 := by
  obtain ⟨-, -, -, h3, h4, h5, h6, -⟩ := hN
  unfold ndY
  rw [Int.tdiv_eq_ediv_of_nonneg hn]
  have a1 : 0 ≤ n / N 0 4 := Int.ediv_nonneg hn (by omega)
  have a2 : n / N 0 4 < N 0 5 := Int.ediv_lt_of_lt_mul (by omega) (by unfold nds at h; rw [Int.mul_comm]; exact h)
  have b1 : 0 ≤ n / N 0 4 * N 0 6 := Int.mul_nonneg a1 (by omega)
  have b2 : n / N 0 4 * N 0 6 ≤ 11 * 99 := Int.mul_le_mul (by omega) h6.2 (by omega) (by decide)
  omega
theorem smA_b {N V : uS} (hV : WFb N V) {s : Int} (hs : 0 ≤ s ∧ s < 8) (t : Int) : 0 ≤ smA V s t ∧ smA V s t ≤ 9999 := by
  unfold smA
  by_cases h : t ≤ 0
  · rw [if_pos h]; omega
  · rw [if_neg h]
    exact hV.2.2.2.2.1 _ (by omega) (by omega)
theorem lat_b {N V : uS} (hV : WFb N V) {s : Int} (hs : 0 ≤ s ∧ s < 8) {m : Int} (hm : 0 ≤ m ∧ m ≤ 99) : 0 ≤ lat V s m ∧ lat V s m ≤ 989901 := by
  have h := @sg_le (fun b => smA V s (V 0 0 - b)) 9999 m.toNat (fun i _ _ => smA_b hV hs _)
  have h2 : (m.toNat : Int) * 9999 ≤ 99 * 9999 := by omega
  unfold lat
  omega
theorem sg_mono {f : Int → Int} : ∀ {d n : Nat}, (∀ i : Int, 0 ≤ i → i < ((n + d : Nat) : Int) → 0 ≤ f i) → sg f n ≤ sg f (n + d) := by
  intro d
  induction d with
  | zero => intro n _; exact Int.le_refl _
  | succ d ih =>
    intro n h
    have h1 := @ih n (fun i h1 h2 => h i h1 (by omega))
    have h2 := h ((n + d : Nat) : Int) (by omega) (by omega)
    show sg f n ≤ sg f (n + d) + f ((n + d : Nat) : Int)
    omega
theorem lat_le {N V : uS} (hN : NWF N) (hV : WFb N V) {s : Int} (hs : 0 ≤ s ∧ s < 8) : lat V s (N 0 8) ≤ lat V s (N 0 9) := by
  have h8 := hN.2.2.2.2.2.2.2.2.1
  have h9 := hN.2.2.2.2.2.2.2.2.2.1
  have h := @sg_mono (fun b => smA V s (V 0 0 - b)) ((N 0 9).toNat - (N 0 8).toNat) (N 0 8).toNat (fun i _ _ => (smA_b hV hs _).1)
  rw [show (N 0 8).toNat + ((N 0 9).toNat - (N 0 8).toNat) = (N 0 9).toNat by omega] at h
  exact h
theorem rat_b {N : uS} (hN : NWF N) {S L : Int} (hS : 0 ≤ S) (hL : S ≤ L) : 0 ≤ rat N S L ∧ rat N S L ≤ 9900 := by
  obtain ⟨-, -, -, -, -, -, -, -, h8, h9, -⟩ := hN
  unfold rat
  by_cases h : L = 0
  · rw [if_pos h]; omega
  · rw [if_neg h]
    have a1 : 0 ≤ S * N 0 9 * 100 := Int.mul_nonneg (Int.mul_nonneg hS (by omega)) (by decide)
    rw [Int.tdiv_eq_ediv_of_nonneg a1]
    have a2 : 0 < L * N 0 8 := Int.mul_pos (by omega) (by omega)
    refine ⟨Int.ediv_nonneg a1 (by omega), ?_⟩
    have a3 : S * N 0 9 ≤ L * 99 := Int.mul_le_mul hL h9.2 (by omega) (by omega)
    have a4 : L * 1 ≤ L * N 0 8 := Int.mul_le_mul_of_nonneg_left h8.1 (by omega)
    have a5 : S * N 0 9 * 100 / (L * N 0 8) < 9901 := Int.ediv_lt_of_lt_mul a2 (by omega)
    omega
theorem rto_b {N V : uS} (hN : NWF N) (hV : WFb N V) {s : Int} (hs : 0 ≤ s ∧ s < 8) : 0 ≤ rto N V s ∧ rto N V s ≤ 9900 := by
  have h8 := hN.2.2.2.2.2.2.2.2.1
  exact rat_b hN (lat_b hV hs (by omega)).1 (lat_le hN hV hs)
theorem pk_b (V : uS) (e : Int) (h : 0 ≤ V 0 1) : 0 ≤ pk V e ∧ pk V e ≤ V 0 1 := by
  have h2 := @sg_le (fun p => if V 11 p = e then 1 else 0) 1 (V 0 1).toNat (fun i _ _ => by show 0 ≤ (if V 11 i = e then (1 : Int) else 0) ∧ (if V 11 i = e then (1 : Int) else 0) ≤ 1; split <;> omega)
  unfold pk
  omega
theorem dly_b {N V : uS} (hN : NWF N) (hV : WFb N V) {p : Int} (hp : 0 ≤ p ∧ p < V 0 1) (n : Int) : -81910 ≤ dly N V n p ∧ dly N V n p ≤ 10199 := by
  have h1 := (hV.2.2.2.2.2.1 p hp.1 hp.2).2.1
  have h2 := tvN_b hN n (V 8 p)
  unfold dly
  omega
theorem absI_b (a : Int) : 0 ≤ absI a ∧ (-absI a ≤ a ∧ a ≤ absI a) ∧ (absI a = a ∨ absI a = -a) := by
  unfold absI
  split <;> omega
theorem sdl_b {N V : uS} (hN : NWF N) (hV : WFb N V) (n e : Int) {i : Int} (hi : 0 ≤ i ∧ i ≤ V 0 1) : -4914600 ≤ sg (fun p => if V 11 p = e then dly N V n p else 0) i.toNat ∧ sg (fun p => if V 11 p = e then dly N V n p else 0) i.toNat ≤ 4914600 := by
  have hm := hV.2.1
  have h := @sg_bnd (fun p => if V 11 p = e then dly N V n p else 0) 81910 i.toNat (fun q h1 h2 => by
    show -81910 ≤ (if V 11 q = e then dly N V n q else 0) ∧ (if V 11 q = e then dly N V n q else 0) ≤ 81910
    have := dly_b hN hV (p := q) (by omega) n
    split <;> omega)
  omega
theorem org_b {N V : uS} (hN : NWF N) (hV : WFb N V) (n e : Int) (h : 1 ≤ pk V e) : -4914600 ≤ org N V n e ∧ org N V n e ≤ 4914600 := by
  have hm := hV.2.1
  have h1 := sdl_b hN hV n e (i := V 0 1) (by omega)
  have h2 := tdv_abs (d := sg (fun p => if V 11 p = e then dly N V n p else 0) (V 0 1).toNat) (t := pk V e) h
  have h3 := absI_b (sg (fun p => if V 11 p = e then dly N V n p else 0) (V 0 1).toNat)
  unfold org
  omega
theorem msf_b {N V : uS} (hN : NWF N) (hV : WFb N V) (n e : Int) (h : 1 ≤ pk V e) {i : Int} (hi : 0 ≤ i ∧ i ≤ V 0 1) : 0 ≤ sg (fun p => if V 11 p = e then absI (dly N V n p - org N V n e) else 0) i.toNat ∧ sg (fun p => if V 11 p = e then absI (dly N V n p - org N V n e) else 0) i.toNat ≤ 300000000 := by
  have hm := hV.2.1
  have ho := org_b hN hV n e h
  have h := @sg_le (fun p => if V 11 p = e then absI (dly N V n p - org N V n e) else 0) 5000000 i.toNat (fun q h1 h2 => by
    show 0 ≤ (if V 11 q = e then absI (dly N V n q - org N V n e) else 0) ∧ (if V 11 q = e then absI (dly N V n q - org N V n e) else 0) ≤ 5000000
    have := dly_b hN hV (p := q) (by omega) n
    have := absI_b (dly N V n q - org N V n e)
    split <;> omega)
  omega
theorem rg_b {N : uS} (hN : NWF N) (a : Int) : ∀ n : Nat, (n : Int) ≤ N 0 1 → -1 ≤ rg N a n ∧ rg N a n ≤ 99 := by
  intro n
  induction n with
  | zero => intro _; exact ⟨by show (-1 : Int) ≤ -1; omega, by show (-1 : Int) ≤ 99; omega⟩
  | succ n ih =>
    intro h
    have h1 := ih (by omega)
    have h2 := (hN.2.2.2.2.2.2.2.2.2.2.2.2.2.2.2.2 (n : Int) (by omega) (by omega)).2
    show -1 ≤ (if N 3 (n : Int) ≤ a then N 4 (n : Int) else rg N a n) ∧ (if N 3 (n : Int) ≤ a then N 4 (n : Int) else rg N a n) ≤ 99
    split <;> omega
theorem rung_b {N : uS} (hN : NWF N) (a : Int) : -1 ≤ rung N a ∧ rung N a ≤ 99 := rg_b hN a _ (by have := hN.2.1; omega)
theorem mgp_b {N : uS} (hN : NWF N) (V : uS) (n p : Int) : -1 ≤ mgp N V n p ∧ mgp N V n p ≤ 99 := rung_b hN _
