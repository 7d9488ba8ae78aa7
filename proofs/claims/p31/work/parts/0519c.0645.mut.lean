/-! pure part, 15: muting and retracting, on both sides -/
theorem orI_nat {a b : Int} (ha : 0 ≤ a ∧ a < 2147483648) (hb : 0 ≤ b ∧ b < 2147483648) : orI a b = ((a.toNat ||| b.toNat : Nat) : Int) := by
  have n1 : ∀ x : Int, 0 ≤ x ∧ x < 2147483648 → (iI x).toBitVec.toNat = x.toNat := fun x hx => by
    show (Int32.ofInt x).toBitVec.toNat = _
    rw [Int32.toBitVec_ofInt, BitVec.toNat_ofInt]
    have e : ((2 ^ 32 : Nat) : Int) = 4294967296 := by decide
    rw [e, Int.emod_eq_of_lt hx.1 (by omega)]
  show (iI a ||| iI b).toBitVec.toInt = _
  have hn : (iI a ||| iI b).toBitVec.toNat = a.toNat ||| b.toNat := by
    rw [Int32.toBitVec_or, BitVec.toNat_or, n1 a ha, n1 b hb]
  have e31 : (2 : Nat) ^ 31 = 2147483648 := by decide
  have e32 : (2 : Nat) ^ 32 = 2 * 2 ^ 31 := by decide
  have hl : a.toNat ||| b.toNat < 2 ^ 31 := Nat.or_lt_two_pow (by omega) (by omega)
  rw [BitVec.toInt_eq_toNat_of_lt (by rw [hn]; omega), hn]
theorem shrI_nat {a e : Int} (ha : 0 ≤ a) : shrI a e % 2 = ((a.toNat / 2 ^ e.toNat % 2 : Nat) : Int) := by
  unfold shrI
  obtain ⟨n, rfl⟩ := Int.eq_ofNat_of_zero_le ha
  show (n : Int) / 2 ^ e.toNat % 2 = ((n / 2 ^ e.toNat % 2 : Nat) : Int)
  rw [Int.natCast_emod, Int.natCast_ediv, Int.natCast_pow]
  rfl
/-- a bit is set in a word of few bits -/
theorem or_bit {L x n : Int} (hn : 0 ≤ n ∧ n ≤ 30) (hL : 0 ≤ L ∧ L < 2 ^ n.toNat) (hx : 0 ≤ x ∧ x < n) : (0 ≤ orI L (shlI 1 x) ∧ orI L (shlI 1 x) < 2 ^ n.toNat) ∧ ∀ e, 0 ≤ e → shrI (orI L (shlI 1 x)) e % 2 = if e = x then 1 else shrI L e % 2 := by
  have e1 : shlI 1 x = ((2 ^ x.toNat : Nat) : Int) := by
    unfold shlI
    rw [Int.one_mul, Int.natCast_pow]; rfl
  have pn : (2 : Int) ^ n.toNat = ((2 ^ n.toNat : Nat) : Int) := by rw [Int.natCast_pow]; rfl
  have p30 : (2 : Nat) ^ n.toNat ≤ 1073741824 := Nat.le_trans (Nat.pow_le_pow_right (by decide) (by omega)) (show (2 : Nat) ^ 30 ≤ 1073741824 by decide)
  have px : (2 : Nat) ^ x.toNat < 2 ^ n.toNat := Nat.pow_lt_pow_right (by decide) (by omega)
  rw [pn] at hL
  have eo : orI L (shlI 1 x) = ((L.toNat ||| 2 ^ x.toNat : Nat) : Int) := by
    rw [e1]
    generalize (2 : Nat) ^ x.toNat = P at *
    generalize (2 : Nat) ^ n.toNat = Q at *
    rw [orI_nat (by omega) (by omega)]
    rfl
  have hlt : L.toNat ||| 2 ^ x.toNat < 2 ^ n.toNat := Nat.or_lt_two_pow (by generalize (2 : Nat) ^ n.toNat = Q at *; omega) px
  refine ⟨by rw [eo, pn]; generalize L.toNat ||| 2 ^ x.toNat = P at *; generalize (2 : Nat) ^ n.toNat = Q at *; omega, fun e he => ?_⟩
  rw [shrI_nat (by rw [eo]; exact Int.natCast_nonneg _), shrI_nat hL.1, eo]
  have tb : ∀ m : Nat, m / 2 ^ e.toNat % 2 = if m.testBit e.toNat then 1 else 0 := fun m => by
    rw [Nat.testBit_eq_decide_div_mod_eq]
    have : m / 2 ^ e.toNat % 2 < 2 := Nat.mod_lt _ (by decide)
    by_cases h : m / 2 ^ e.toNat % 2 = 1
    · rw [decide_eq_true h, if_pos rfl, h]
    · rw [decide_eq_false h, if_neg (by decide)]; omega
  show ((((L.toNat ||| 2 ^ x.toNat : Nat) : Int).toNat / 2 ^ e.toNat % 2 : Nat) : Int) = _
  rw [Int.toNat_natCast, tb, tb, Nat.testBit_or, Nat.testBit_two_pow]
  by_cases h : e = x
  · subst h
    rw [decide_eq_true rfl, Bool.or_true, if_pos rfl, if_pos rfl]; rfl
  · rw [decide_eq_false (by omega), Bool.or_false, if_neg h]
theorem or_0 {L : Int} (h : InR L) : orI L 0 = L := by
  show (iI L ||| iI 0).toInt = L
  have : iI L ||| iI 0 = iI L := Int32.or_zero
  rw [this, iI_t h]
/-! values -/
def mt1i (V : uS) (s n : Int) : uS := fun j i =>
  if j = 12 ∧ 0 ≤ i ∧ i < n ∧ V 8 i = s then 1 else if j = 11 ∧ 0 ≤ i ∧ i < n ∧ V 8 i = s then -1 else up (up V 6 s 1) 5 s 0 j i
theorem mt1i_0 {V : uS} {s : Int} {j : Nat} {i : Int} : up (up V 6 s 1) 5 s 0 j i = mt1i V s 0 j i := by
  unfold mt1i
  rw [if_neg (by omega), if_neg (by omega)]
theorem mt1i_r {V : uS} {s n : Int} {j : Nat} {i : Int} (h1 : j ≠ 11) (h2 : j ≠ 12) : mt1i V s n j i = up (up V 6 s 1) 5 s 0 j i := by
  unfold mt1i
  rw [if_neg (fun q => h2 q.1), if_neg (fun q => h1 q.1)]
theorem mt1i_12 {V : uS} {s n i : Int} : mt1i V s n 12 i = if 0 ≤ i ∧ i < n ∧ V 8 i = s then 1 else V 12 i := by
  unfold mt1i
  by_cases h : 0 ≤ i ∧ i < n ∧ V 8 i = s
  · rw [if_pos ⟨rfl, h⟩, if_pos h]
  · rw [if_neg (fun q => h q.2), if_neg (by omega), if_neg h]; rfl
theorem mt1i_11 {V : uS} {s n i : Int} : mt1i V s n 11 i = if 0 ≤ i ∧ i < n ∧ V 8 i = s then -1 else V 11 i := by
  unfold mt1i
  rw [if_neg (by omega)]
  by_cases h : 0 ≤ i ∧ i < n ∧ V 8 i = s
  · rw [if_pos ⟨rfl, h⟩, if_pos h]
  · rw [if_neg (fun q => h q.2), if_neg h]; rfl
theorem mt1i_o {V : uS} {s n : Int} {j : Nat} {i : Int} (h : i ≠ n ∨ V 8 n ≠ s) : mt1i V s n j i = mt1i V s (n + 1) j i := by
  have hc : (0 ≤ i ∧ i < n ∧ V 8 i = s) ↔ (0 ≤ i ∧ i < n + 1 ∧ V 8 i = s) := by
    refine ⟨fun q => ⟨q.1, by omega, q.2.2⟩, fun q => ⟨q.1, ?_, q.2.2⟩⟩
    by_cases hi : i = n
    · subst hi; rcases h with h | h; exact absurd rfl h; exact absurd q.2.2 h
    · omega
  by_cases h1 : j = 12
  · subst h1
    rw [mt1i_12, mt1i_12]
    by_cases h : 0 ≤ i ∧ i < n ∧ V 8 i = s
    · rw [if_pos h, if_pos (hc.mp h)]
    · rw [if_neg h, if_neg (fun q => h (hc.mpr q))]
  · by_cases h2 : j = 11
    · subst h2
      rw [mt1i_11, mt1i_11]
      by_cases h : 0 ≤ i ∧ i < n ∧ V 8 i = s
      · rw [if_pos h, if_pos (hc.mp h)]
      · rw [if_neg h, if_neg (fun q => h (hc.mpr q))]
    · rw [mt1i_r h2 h1, mt1i_r h2 h1]
theorem mt1i_s {V : uS} {s n : Int} {j : Nat} {i : Int} (h0 : 0 ≤ n) (h : V 8 n = s) : up (up (mt1i V s n) 11 n (-1)) 12 n 1 j i = mt1i V s (n + 1) j i := by
  by_cases hi : i = n
  · subst hi
    by_cases h1 : j = 12
    · subst h1; rw [up_s, mt1i_12, if_pos ⟨h0, by omega, h⟩]
    · rw [up_k h1]
      by_cases h2 : j = 11
      · subst h2; rw [up_s, mt1i_11, if_pos ⟨h0, by omega, h⟩]
      · rw [up_k h2, mt1i_r h2 h1, mt1i_r h2 h1]
  · rw [up_j hi, up_j hi]; exact mt1i_o (Or.inl hi)
theorem mt1i_e {V : uS} {s : Int} : mt1i V s (V 0 1) = mt1 V s := by
  funext j i
  unfold mt1i mt1
  by_cases h1 : j = 12 ∧ 0 ≤ i ∧ i < V 0 1 ∧ V 8 i = s
  · rw [if_pos h1, if_neg (by omega), if_neg (by omega), if_pos h1]
  · rw [if_neg h1]
    by_cases h2 : j = 11 ∧ 0 ≤ i ∧ i < V 0 1 ∧ V 8 i = s
    · rw [if_pos h2, if_neg (by omega), if_neg (by omega), if_neg h1, if_pos h2]
    · rw [if_neg h2, if_neg h1, if_neg h2]
      unfold up
      by_cases h3 : j = 6 ∧ i = s
      · rw [if_neg (by omega), if_pos h3, if_pos h3]
      · rw [if_neg h3, if_neg h3]
theorem mt2_0 {N V : uS} : mt2 N V 0 = V := by
  funext j i
  unfold mt2
  rw [if_neg (by omega), if_neg (by omega)]
theorem mt2_n {N V : uS} {n : Int} (h : ¬ (V 14 n = 0 ∧ pk V n < N 0 12)) : mt2 N V (n + 1) = mt2 N V n := by
  funext j i
  unfold mt2
  have e1 : (j = 14 ∧ 0 ≤ i ∧ i < n + 1 ∧ V 14 i = 0 ∧ pk V i < N 0 12) ↔ (j = 14 ∧ 0 ≤ i ∧ i < n ∧ V 14 i = 0 ∧ pk V i < N 0 12) := by
    refine ⟨fun q => ⟨q.1, q.2.1, ?_, q.2.2.2⟩, fun q => ⟨q.1, q.2.1, by omega, q.2.2.2⟩⟩
    by_cases hi : i = n
    · subst hi; exact absurd q.2.2.2 h
    · omega
  have e2 : (j = 11 ∧ 0 ≤ V 11 i ∧ V 11 i < n + 1 ∧ V 14 (V 11 i) = 0 ∧ pk V (V 11 i) < N 0 12) ↔ (j = 11 ∧ 0 ≤ V 11 i ∧ V 11 i < n ∧ V 14 (V 11 i) = 0 ∧ pk V (V 11 i) < N 0 12) := by
    refine ⟨fun q => ⟨q.1, q.2.1, ?_, q.2.2.2⟩, fun q => ⟨q.1, q.2.1, by omega, q.2.2.2⟩⟩
    by_cases hi : V 11 i = n
    · rw [hi] at q; exact absurd q.2.2.2 h
    · omega
  by_cases h1 : j = 14 ∧ 0 ≤ i ∧ i < n ∧ V 14 i = 0 ∧ pk V i < N 0 12
  · rw [if_pos (e1.mpr h1), if_pos h1]
  · rw [if_neg (fun q => h1 (e1.mp q)), if_neg h1]
    by_cases h2 : j = 11 ∧ 0 ≤ V 11 i ∧ V 11 i < n ∧ V 14 (V 11 i) = 0 ∧ pk V (V 11 i) < N 0 12
    · rw [if_pos (e2.mpr h2), if_pos h2]
    · rw [if_neg (fun q => h2 (e2.mp q)), if_neg h2]
theorem mt2_11 {N V : uS} {m i : Int} : mt2 N V m 11 i = if 0 ≤ V 11 i ∧ V 11 i < m ∧ V 14 (V 11 i) = 0 ∧ pk V (V 11 i) < N 0 12 then -1 else V 11 i := by
  unfold mt2
  rw [if_neg (by omega)]
  by_cases h1 : 0 ≤ V 11 i ∧ V 11 i < m ∧ V 14 (V 11 i) = 0 ∧ pk V (V 11 i) < N 0 12
  · rw [if_pos ⟨rfl, h1⟩, if_pos h1]
  · rw [if_neg (fun q => h1 q.2), if_neg h1]
theorem mt2_14i {N V : uS} {m i : Int} : mt2 N V m 14 i = if 0 ≤ i ∧ i < m ∧ V 14 i = 0 ∧ pk V i < N 0 12 then 1 else V 14 i := by
  unfold mt2
  by_cases h1 : 0 ≤ i ∧ i < m ∧ V 14 i = 0 ∧ pk V i < N 0 12
  · rw [if_pos ⟨rfl, h1⟩, if_pos h1]
  · rw [if_neg (fun q => h1 q.2), if_neg (by omega), if_neg h1]
theorem mt2_r {N V : uS} {m : Int} {j : Nat} {i : Int} (h1 : j ≠ 11) (h2 : j ≠ 14) : mt2 N V m j i = V j i := by
  unfold mt2
  rw [if_neg (fun q => h2 q.1), if_neg (fun q => h1 q.1)]
theorem fr_11 {V : uS} {e i : Int} : fr V e 11 i = if V 11 i = e then -1 else V 11 i := by
  unfold fr
  by_cases h : V 11 i = e
  · rw [if_pos ⟨rfl, h⟩, if_pos h]
  · rw [if_neg (fun q => h q.2), if_neg h]
theorem fr_r {V : uS} {e : Int} {j : Nat} {i : Int} (h : j ≠ 11) : fr V e j i = V j i := by
  unfold fr
  rw [if_neg (fun q => h q.1)]
theorem mt2_s {N V : uS} {n : Int} (h0 : 0 ≤ n) (h : V 14 n = 0 ∧ pk V n < N 0 12) : rtr (mt2 N V n) n = mt2 N V (n + 1) := by
  funext j i
  unfold rtr
  by_cases hj : j = 11
  · subst hj
    have e : up (mt2 N V n) 14 n 1 11 i = mt2 N V n 11 i := up_k (by decide)
    by_cases hn : V 11 i = n
    · have hv : mt2 N V n 11 i = V 11 i := mt2_11.trans (if_neg (by omega))
      have hw : mt2 N V (n + 1) 11 i = -1 := mt2_11.trans (if_pos ⟨by omega, by omega, by rw [hn]; exact h⟩)
      rw [fr_11, e, hv, hw, if_pos hn]
    · by_cases h1 : 0 ≤ V 11 i ∧ V 11 i < n ∧ V 14 (V 11 i) = 0 ∧ pk V (V 11 i) < N 0 12
      · have hv : mt2 N V n 11 i = -1 := mt2_11.trans (if_pos h1)
        have hw : mt2 N V (n + 1) 11 i = -1 := mt2_11.trans (if_pos ⟨h1.1, by omega, h1.2.2⟩)
        rw [fr_11, e, hv, hw, if_neg (by omega)]
      · have hv : mt2 N V n 11 i = V 11 i := mt2_11.trans (if_neg h1)
        have hw : mt2 N V (n + 1) 11 i = V 11 i := mt2_11.trans (if_neg (fun q => h1 ⟨q.1, by omega, q.2.2⟩))
        rw [fr_11, e, hv, hw, if_neg hn]
  · rw [fr_r hj]
    by_cases h14 : j = 14
    · subst h14
      rw [mt2_14i]
      by_cases hi : i = n
      · subst hi; rw [up_s, if_pos ⟨h0, by omega, h⟩]
      · rw [up_j hi, mt2_14i]
        by_cases h1 : 0 ≤ i ∧ i < n ∧ V 14 i = 0 ∧ pk V i < N 0 12
        · rw [if_pos h1, if_pos ⟨h1.1, by omega, h1.2.2⟩]
        · rw [if_neg h1, if_neg (fun q => h1 ⟨q.1, by omega, q.2.2⟩)]
    · rw [up_k h14, mt2_r hj h14, mt2_r hj h14]
theorem pk_mt2 {N V : uS} {n e : Int} (h : n ≤ e) (h0 : 0 ≤ e) : pk (mt2 N V n) e = pk V e := by
  show sg (fun p => if mt2 N V n 11 p = e then 1 else 0) (mt2 N V n 0 1).toNat = sg (fun p => if V 11 p = e then 1 else 0) (V 0 1).toNat
  have e1 : mt2 N V n 0 1 = V 0 1 := by unfold mt2; rw [if_neg (by omega), if_neg (by omega)]
  rw [e1]
  refine sg_c (fun p _ _ => ?_)
  have e2 : mt2 N V n 11 p = if 0 ≤ V 11 p ∧ V 11 p < n ∧ V 14 (V 11 p) = 0 ∧ pk V (V 11 p) < N 0 12 then -1 else V 11 p := by
    unfold mt2
    rw [if_neg (by omega)]
    by_cases h1 : 0 ≤ V 11 p ∧ V 11 p < n ∧ V 14 (V 11 p) = 0 ∧ pk V (V 11 p) < N 0 12
    · rw [if_pos ⟨rfl, h1⟩, if_pos h1]
    · rw [if_neg (fun q => h1 q.2), if_neg h1]
  rw [e2]
  split
  · rw [if_neg (by omega), if_neg (by omega)]
  · rfl
theorem mt2_14 {N V : uS} {n e : Int} (h : n ≤ e) : mt2 N V n 14 e = V 14 e := by
  unfold mt2
  rw [if_neg (by omega), if_neg (by omega)]
theorem mt2_0i {N V : uS} {n i : Int} : mt2 N V n 0 i = V 0 i := by
  unfold mt2
  rw [if_neg (by omega), if_neg (by omega)]
/-- only an event that has just lost a pick can have too few -/
theorem mt_lost {N V : uS} (hV : WFc N V) {s e : Int} (he : 0 ≤ e ∧ e < V 0 2) : (∃ p, 0 ≤ p ∧ p < V 0 1 ∧ V 8 p = s ∧ V 11 p = e) ∧ pk (mt1 V s) e < N 0 12 ↔ V 14 e = 0 ∧ pk (mt1 V s) e < N 0 12 := by
  obtain ⟨-, xS, xP, xE⟩ := hV
  have m11 : ∀ p, mt1 V s 11 p = if 0 ≤ p ∧ p < V 0 1 ∧ V 8 p = s then -1 else V 11 p := fun p => by
    rw [← mt1i_e, mt1i_11]
  have m01 : mt1 V s 0 1 = V 0 1 := by unfold mt1; rw [if_neg (by omega), if_neg (by omega), if_neg (by omega), if_neg (by omega)]
  refine ⟨fun ⟨⟨p, p0, p1, p2, p3⟩, h⟩ => ⟨by have := (xP p p0 p1).2.2 (by omega); rwa [p3] at this, h⟩, fun ⟨h1, h⟩ => ⟨?_, h⟩⟩
  have h3 := xE e he.1 he.2 h1
  refine Classical.byContradiction fun hno => ?_
  have h4 : pk V e ≤ pk (mt1 V s) e := by
    show sg (fun p => if V 11 p = e then 1 else 0) (V 0 1).toNat ≤ sg (fun p => if mt1 V s 11 p = e then 1 else 0) (mt1 V s 0 1).toNat
    rw [m01]
    refine sg_pt (fun p p0 p1 => ?_)
    show (if V 11 p = e then (1 : Int) else 0) ≤ if mt1 V s 11 p = e then 1 else 0
    by_cases hp : V 11 p = e
    · have hw : mt1 V s 11 p = e := by
        rw [m11, if_neg (fun q => hno ⟨p, p0, by omega, q.2.2, hp⟩)]; exact hp
      rw [if_pos hp, if_pos hw]; omega
    · rw [if_neg hp]; split <;> omega
  omega
