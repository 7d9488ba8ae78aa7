/-! pure part, 5: the reference's questions -/
theorem eof (p w : Int) (u : uS) : f_X10_of p w u = some (827 + 5 * p + w, u) := rfl
theorem eat (s w : Int) (u : uS) : f_X10_at s w u = some (3 + 4 * s + w, u) := rfl
theorem enodes (u : uS) : f_X10_nodes u = some (u 42 4 * u 42 5, u) := rfl
theorem ering {s t : Int} (u : uS) (h : InR t) : f_X10_ringAt s t u = some (35 + 99 * s + t.tmod 99, u) := xgd_t h
theorem ewithin {x a b : Int} (u : uS) (hx : InR x) (ha : InR a) (hb : InR b) : f_X10_within x a b u = some (if a ≤ x ∧ x ≤ b then 1 else 0, u) := by
  refine wp_eq ?_
  unfold f_X10_within
  refine wp_g (by omega) ?_
  refine wp_i (fun c => ?_) (fun c => ?_)
  · exact wp_s (by rw [if_neg (by omega)])
  · refine wp_g (by omega) ?_
    refine wp_i (fun c => ?_) (fun c => ?_)
    · exact wp_s (by rw [if_neg (by omega)])
    · exact wp_s (by rw [if_pos (by omega)])
theorem ethrowsIf0 {x k : Int} (u : uS) (hx : InR x) (h0 : u 40 0 = 0) (hk : 0 < k ∧ k < 100) : f_X10_throwsIf x k u = some (if x = 0 then (0, u) else (1, up u 40 0 k)) := by
  refine wp_eq ?_
  unfold f_X10_throwsIf
  repeat (first | (with_reducible refine wp_L ?_) | (with_reducible refine wp_g ?_ ?_; · omega) | (with_reducible refine wp_f ?_ ?_; · omega) | (with_reducible refine wp_t ?_ ?_; · omega) | (with_reducible refine wp_e (eof _ _ _) ?_) | (with_reducible refine wp_e (eat _ _ _) ?_) | (with_reducible refine wp_e (enodes _) ?_))
  refine wp_i (fun c => ?_) (fun c => ?_)
  · repeat (first | (with_reducible refine wp_L ?_) | (with_reducible refine wp_g ?_ ?_; · omega) | (with_reducible refine wp_f ?_ ?_; · omega) | (with_reducible refine wp_t ?_ ?_; · omega) | (with_reducible refine wp_e (eof _ _ _) ?_) | (with_reducible refine wp_e (eat _ _ _) ?_) | (with_reducible refine wp_e (enodes _) ?_))
    refine wp_s ?_
    rw [if_pos c]
  · have e : up u 40 0 k 40 0 = k := up_s _ _ _ _
    repeat (first | (with_reducible refine wp_L ?_) | (with_reducible refine wp_g ?_ ?_; · omega) | (with_reducible refine wp_f ?_ ?_; · omega) | (with_reducible refine wp_t ?_ ?_; · omega) | (with_reducible refine wp_e (eof _ _ _) ?_) | (with_reducible refine wp_e (eat _ _ _) ?_) | (with_reducible refine wp_e (enodes _) ?_))
    refine wp_s ?_
    rw [if_neg c]
/-- the check of a number: within 0 .. many - 1 it goes on, else thrown is 1 -/
theorem eno {x m : Int} (u : uS) (hx : InR x) (hm : 0 ≤ m ∧ m < 1000000) (h0 : u 40 0 = 0) : f_X10_no x m u = some (if 0 ≤ x ∧ x < m then (0, u) else (1, up u 40 0 1)) := by
  refine wp_eq ?_
  unfold f_X10_no
  refine wp_e (ewithin u hx (by decide) (by omega)) ?_
  by_cases h : 0 ≤ x ∧ x < m
  · rw [if_pos (show 0 ≤ x ∧ x ≤ m - 1 by omega), if_pos h]
    repeat (first | (with_reducible refine wp_L ?_) | (with_reducible refine wp_g ?_ ?_; · omega) | (with_reducible refine wp_f ?_ ?_; · omega) | (with_reducible refine wp_t ?_ ?_; · omega) | (with_reducible refine wp_e (eof _ _ _) ?_) | (with_reducible refine wp_e (eat _ _ _) ?_) | (with_reducible refine wp_e (enodes _) ?_))
    refine wp_e (ethrowsIf0 u (by decide) h0 (by decide)) ?_
    repeat (first | (with_reducible refine wp_L ?_) | (with_reducible refine wp_g ?_ ?_; · omega) | (with_reducible refine wp_f ?_ ?_; · omega) | (with_reducible refine wp_t ?_ ?_; · omega) | (with_reducible refine wp_e (eof _ _ _) ?_) | (with_reducible refine wp_e (eat _ _ _) ?_) | (with_reducible refine wp_e (enodes _) ?_))
    exact wp_s rfl
  · rw [if_neg (show ¬ (0 ≤ x ∧ x ≤ m - 1) by omega), if_neg h]
    repeat (first | (with_reducible refine wp_L ?_) | (with_reducible refine wp_g ?_ ?_; · omega) | (with_reducible refine wp_f ?_ ?_; · omega) | (with_reducible refine wp_t ?_ ?_; · omega) | (with_reducible refine wp_e (eof _ _ _) ?_) | (with_reducible refine wp_e (eat _ _ _) ?_) | (with_reducible refine wp_e (enodes _) ?_))
    refine wp_e (ethrowsIf0 u (by decide) h0 (by decide)) ?_
    repeat (first | (with_reducible refine wp_L ?_) | (with_reducible refine wp_g ?_ ?_; · omega) | (with_reducible refine wp_f ?_ ?_; · omega) | (with_reducible refine wp_t ?_ ?_; · omega) | (with_reducible refine wp_e (eof _ _ _) ?_) | (with_reducible refine wp_e (eat _ _ _) ?_) | (with_reducible refine wp_e (enodes _) ?_))
    exact wp_s rfl
theorem eapart {a b : Int} (u : uS) (ha : -2500 ≤ a ∧ a ≤ 2500) (hb : -2500 ≤ b ∧ b ≤ 2500) : f_X10_apart a b u = some (dst a b, u) := by
  refine wp_eq ?_
  unfold f_X10_apart
  refine wp_L ?_
  have h1 := sq_le ha (by decide)
  have h2 := sq_le hb (by decide)
  have hX : InR (a * a + b * b) := ⟨by omega, by omega⟩
  unfold dst
  generalize a * a + b * b = X at *
  refine wl3 (fun f i v => v = u ∧ ((i = 0 ∧ f = rs X 13 0) ∨ ∃ n : Nat, n < 13 ∧ i = 2 ^ n ∧ 0 ≤ f ∧ f + 2 * i ≤ 8192 ∧ rs X (n + 1) f = rs X 13 0)) (fun _ i _ => i.toNat) (fun go f i v hI hg => ?_) FU _ _ _ ⟨rfl, Or.inr ⟨12, by decide, by decide, by decide, by decide, rfl⟩⟩ (FU_l (by decide))
  obtain ⟨rfl, ⟨rfl, rfl⟩ | ⟨n, hn, rfl, hf, hb8, hr⟩⟩ := hI
  · unfold s_X10_apart_15
    repeat (first | (with_reducible refine wp_L ?_) | (with_reducible refine wp_g ?_ ?_; · omega) | (with_reducible refine wp_f ?_ ?_; · omega) | (with_reducible refine wp_t ?_ ?_; · omega) | (with_reducible refine wp_e (eof _ _ _) ?_) | (with_reducible refine wp_e (eat _ _ _) ?_) | (with_reducible refine wp_e (enodes _) ?_))
    exact wp_s rfl
  · have h2n := two_pow_pos' n
    have hsq := sq_le (a := f + 2 ^ n) (B := 8192) (by omega) (by decide)
    unfold s_X10_apart_15
    refine wp_g (by omega) ?_
    refine wp_f (by omega) ?_
    refine wp_L ?_
    refine wp_g ⟨⟨by omega, by omega⟩, hX⟩ ?_
    refine wp_L ?_
    have hr2 : rs X n (if (f + (2 : Int) ^ n) * (f + (2 : Int) ^ n) ≤ X then f + (2 : Int) ^ n else f) = rs X 13 0 := hr
    have step : ∀ g : Int, (g = f ∨ g = f + 2 ^ n) → rs X n g = rs X 13 0 → wp (xgd (InR ((2 : Int) ^ n)) (xlet (shrI (2 ^ n) 1) fun x => go g x v)) (fun b => b = (rs X 13 0, v)) := by
      intro g hg1 hg2
      have es : shrI (2 ^ n) 1 = (2 : Int) ^ n / 2 := rfl
      refine wp_g (by omega) ?_
      refine wp_L ?_
      rw [es]
      refine hg _ _ _ ⟨rfl, ?_⟩ (by omega)
      cases n with
      | zero =>
        left
        exact ⟨by decide, hg2⟩
      | succ k =>
        right
        have e2 : (2 : Int) ^ (k + 1) = 2 ^ k * 2 := Int.pow_succ 2 k
        rw [e2] at hb8 hg1 h2n ⊢
        exact ⟨k, by omega, by omega, by omega, by omega, hg2⟩
    refine wp_i (fun c => ?_) (fun c => ?_)
    · rw [if_neg (by omega)] at hr2
      exact step f (Or.inl rfl) hr2
    · rw [if_pos (by omega)] at hr2
      exact step _ (Or.inr rfl) hr2
section MQ
variable {u N V : uS}
theorem etimeFor {d : Int} (hN : NWF N) (hn : MN u N) (hd : 0 ≤ d ∧ d ≤ 8191) : f_X10_timeFor d u = some ((d * 10).tdiv (N 0 7), u) := by
  obtain ⟨n0, n1, n2, n3, n4, n5, n6, n7, n8, n9, n10, n11, n12, n13, n14, nS, nR⟩ := hN
  have e7 := hn.1 7 (by decide) (by decide)
  refine wp_eq ?_
  unfold f_X10_timeFor
  repeat (first | (with_reducible refine wp_L ?_) | (with_reducible refine wp_g ?_ ?_; · omega) | (with_reducible refine wp_f ?_ ?_; · omega) | (with_reducible refine wp_t ?_ ?_; · omega) | (with_reducible refine wp_e (eof _ _ _) ?_) | (with_reducible refine wp_e (eat _ _ _) ?_) | (with_reducible refine wp_e (enodes _) ?_))
  rw [e7]
  exact wp_s rfl
theorem etimeBetween {a b : Int} (hN : NWF N) (hn : MN u N) (ha : 0 ≤ a ∧ a < N 0 0) (hb : 0 ≤ b ∧ b < N 0 0) : f_X10_timeBetween a b u = some (tvS N a b, u) := by
  have hN2 := hN
  obtain ⟨n0, n1, n2, n3, n4, n5, n6, n7, n8, n9, n10, n11, n12, n13, n14, nS, nR⟩ := hN
  have a1 := hn.2.1 a ha.1 ha.2
  have a2 := hn.2.1 b hb.1 hb.2
  have a3 := nS a ha.1 ha.2
  have a4 := nS b hb.1 hb.2
  refine wp_eq ?_
  unfold f_X10_timeBetween
  repeat (first | (with_reducible refine wp_L ?_) | (with_reducible refine wp_g ?_ ?_; · omega) | (with_reducible refine wp_f ?_ ?_; · omega) | (with_reducible refine wp_t ?_ ?_; · omega) | (with_reducible refine wp_e (eof _ _ _) ?_) | (with_reducible refine wp_e (eat _ _ _) ?_) | (with_reducible refine wp_e (enodes _) ?_))
  rw [a1.1, a1.2, a2.1, a2.2]
  refine wp_e (eapart u (by omega) (by omega)) ?_
  refine wp_e (etimeFor hN2 hn (dst_b _ _)) ?_
  exact wp_s rfl
theorem enodeX {n : Int} (hN : NWF N) (hn : MN u N) (h : 0 ≤ n ∧ n < 1000) : f_X10_nodeX n u = some (ndX N n, u) := by
  obtain ⟨n0, n1, n2, n3, n4, n5, n6, n7, n8, n9, n10, n11, n12, n13, n14, nS, nR⟩ := hN
  have e2 := hn.1 2 (by decide) (by decide)
  have e4 := hn.1 4 (by decide) (by decide)
  have e6 := hn.1 6 (by decide) (by decide)
  refine wp_eq ?_
  unfold f_X10_nodeX
  repeat (first | (with_reducible refine wp_L ?_) | (with_reducible refine wp_g ?_ ?_; · omega) | (with_reducible refine wp_f ?_ ?_; · omega) | (with_reducible refine wp_t ?_ ?_; · omega) | (with_reducible refine wp_e (eof _ _ _) ?_) | (with_reducible refine wp_e (eat _ _ _) ?_) | (with_reducible refine wp_e (enodes _) ?_))
  rw [e2, e4, e6]
  exact wp_s rfl
theorem enodeY {n : Int} (hN : NWF N) (hn : MN u N) (h : 0 ≤ n ∧ n < 1000) : f_X10_nodeY n u = some (ndY N n, u) := by
  obtain ⟨n0, n1, n2, n3, n4, n5, n6, n7, n8, n9, n10, n11, n12, n13, n14, nS, nR⟩ := hN
  have e3 := hn.1 3 (by decide) (by decide)
  have e4 := hn.1 4 (by decide) (by decide)
  have e6 := hn.1 6 (by decide) (by decide)
  refine wp_eq ?_
  unfold f_X10_nodeY
  repeat (first | (with_reducible refine wp_L ?_) | (with_reducible refine wp_g ?_ ?_; · omega) | (with_reducible refine wp_f ?_ ?_; · omega) | (with_reducible refine wp_t ?_ ?_; · omega) | (with_reducible refine wp_e (eof _ _ _) ?_) | (with_reducible refine wp_e (eat _ _ _) ?_) | (with_reducible refine wp_e (enodes _) ?_))
  rw [e3, e4, e6]
  exact wp_s rfl
theorem enodeApart {n s : Int} (hN : NWF N) (hn : MN u N) (h : 0 ≤ n ∧ n < nds N) (hs : 0 ≤ s ∧ s < N 0 0) : f_X10_nodeApart n s u = some (ndD N n s, u) := by
  have hx := ndX_b hN h.1
  have hy := ndY_b hN h.1 h.2
  have hd := nds_b hN
  have hN2 := hN
  obtain ⟨n0, n1, n2, n3, n4, n5, n6, n7, n8, n9, n10, n11, n12, n13, n14, nS, nR⟩ := hN
  have a1 := hn.2.1 s hs.1 hs.2
  have a3 := nS s hs.1 hs.2
  refine wp_eq ?_
  unfold f_X10_nodeApart
  refine wp_e (enodeX hN2 hn (by omega)) ?_
  repeat (first | (with_reducible refine wp_L ?_) | (with_reducible refine wp_g ?_ ?_; · omega) | (with_reducible refine wp_f ?_ ?_; · omega) | (with_reducible refine wp_t ?_ ?_; · omega) | (with_reducible refine wp_e (eof _ _ _) ?_) | (with_reducible refine wp_e (eat _ _ _) ?_) | (with_reducible refine wp_e (enodes _) ?_))
  refine wp_e (enodeY hN2 hn (by omega)) ?_
  repeat (first | (with_reducible refine wp_L ?_) | (with_reducible refine wp_g ?_ ?_; · omega) | (with_reducible refine wp_f ?_ ?_; · omega) | (with_reducible refine wp_t ?_ ?_; · omega) | (with_reducible refine wp_e (eof _ _ _) ?_) | (with_reducible refine wp_e (eat _ _ _) ?_) | (with_reducible refine wp_e (enodes _) ?_))
  rw [a1.1, a1.2]
  refine wp_e (eapart u (by omega) (by omega)) ?_
  exact wp_s rfl
theorem erungOf {a : Int} (hN : NWF N) (hn : MN u N) (ha : InR a) : f_X10_rungOf a u = some (rung N a, u) := by
  obtain ⟨n0, n1, n2, n3, n4, n5, n6, n7, n8, n9, n10, n11, n12, n13, n14, nS, nR⟩ := hN
  have e1 := hn.1 1 (by decide) (by decide)
  refine wp_eq ?_
  unfold f_X10_rungOf
  refine wl3 (fun f i v => v = u ∧ 0 ≤ i ∧ i ≤ N 0 1 ∧ f = rg N a i.toNat) (fun _ i _ => (N 0 1 - i).toNat) (fun go f i v hI hg => ?_) FU _ _ _ ⟨rfl, by omega, by omega, rfl⟩ (FU_l (by omega))
  obtain ⟨rfl, h0, h1, rfl⟩ := hI
  unfold s_X10_rungOf_4
  refine wp_g (by omega) ?_
  refine wp_i (fun c => ?_) (fun c => ?_)
  · refine wp_s ?_
    rw [show i = N 0 1 by omega]
    rfl
  · have a1 := hn.2.2 i h0 (by omega)
    have a2 := nR i h0 (by omega)
    have es : rg N a (i + 1).toNat = if N 3 i ≤ a then N 4 i else rg N a i.toNat := by
      obtain ⟨n, rfl⟩ := Int.eq_ofNat_of_zero_le h0
      rfl
    repeat (first | (with_reducible refine wp_L ?_) | (with_reducible refine wp_g ?_ ?_; · omega) | (with_reducible refine wp_f ?_ ?_; · omega) | (with_reducible refine wp_t ?_ ?_; · omega) | (with_reducible refine wp_e (eof _ _ _) ?_) | (with_reducible refine wp_e (eat _ _ _) ?_) | (with_reducible refine wp_e (enodes _) ?_))
    refine wp_i (fun c => ?_) (fun c => ?_)
    · refine wp_L ?_
      refine hg _ _ _ ⟨rfl, by omega, by omega, ?_⟩ (by omega)
      rw [es, if_neg (by omega)]
    · repeat (first | (with_reducible refine wp_L ?_) | (with_reducible refine wp_g ?_ ?_; · omega) | (with_reducible refine wp_f ?_ ?_; · omega) | (with_reducible refine wp_t ?_ ?_; · omega) | (with_reducible refine wp_e (eof _ _ _) ?_) | (with_reducible refine wp_e (eat _ _ _) ?_) | (with_reducible refine wp_e (enodes _) ?_))
      refine hg _ _ _ ⟨rfl, by omega, by omega, ?_⟩ (by omega)
      rw [es, if_pos (by omega)]
      exact a1.2
theorem elatest {s m : Int} (hN : NWF N) (hV : WFb N V) (hm : MS u V) (hs : 0 ≤ s ∧ s < 8) (hk : 0 ≤ m ∧ m ≤ 99) : f_X10_latest s m u = some (lat V s m, u) := by
  have hV2 := hV
  obtain ⟨b0, b1, b2, bS, bI, bP, bE⟩ := hV
  have e0 := hm.t
  refine wp_eq ?_
  unfold f_X10_latest
  refine wp_L ?_
  refine wl3 (fun f i v => v = u ∧ i ≤ V 0 0 ∧ 0 ≤ i ∧ V 0 0 - i ≤ m ∧ f = sg (fun b => smA V s (V 0 0 - b)) (V 0 0 - i).toNat) (fun _ i _ => i.toNat) (fun go f i v hI hg => ?_) FU _ _ _ ⟨rfl, by omega, by omega, by omega, by rw [e0, show V 0 0 - V 0 0 = 0 by omega]; rfl⟩ (FU_l (by omega))
  obtain ⟨rfl, h0, h1, h2, rfl⟩ := hI
  unfold s_X10_latest_10
  refine wp_g (by omega) ?_
  refine wp_i (fun c => ?_) (fun c => ?_)
  · refine wp_s ?_
    have hz : lat V s m = sg (fun b => smA V s (V 0 0 - b)) (V 0 0 - i).toNat := by
      have hd : ∀ d n : Nat, (V 0 0 - i).toNat ≤ n → sg (fun b => smA V s (V 0 0 - b)) (n + d) = sg (fun b => smA V s (V 0 0 - b)) n := by
        intro d
        induction d with
        | zero => intro n _; rfl
        | succ d ih =>
          intro n hn
          show sg _ (n + d) + smA V s (V 0 0 - ((n + d : Nat) : Int)) = _
          rw [ih n hn]
          unfold smA
          rw [if_pos (by omega)]
          omega
      have := hd (m.toNat - (V 0 0 - i).toNat) (V 0 0 - i).toNat (Nat.le_refl _)
      rw [show (V 0 0 - i).toNat + (m.toNat - (V 0 0 - i).toNat) = m.toNat by omega] at this
      exact this
    rw [hz]
  · refine wp_g (by omega) ?_
    refine wp_i (fun c => ?_) (fun c => ?_)
    · refine wp_s ?_
      unfold lat
      rw [show V 0 0 - i = m by omega]
    · refine wp_e (ering v (by omega)) ?_
      have et : i.tmod 99 = i % 99 := tmd h1 99
      have e2 := hm.sm (s := 99 * s + i.tmod 99) (by omega) (by omega)
      rw [show 35 + (99 * s + i.tmod 99) = 35 + 99 * s + i.tmod 99 by omega] at e2
      repeat (first | (with_reducible refine wp_L ?_) | (with_reducible refine wp_g ?_ ?_; · omega) | (with_reducible refine wp_f ?_ ?_; · omega) | (with_reducible refine wp_t ?_ ?_; · omega) | (with_reducible refine wp_e (eof _ _ _) ?_) | (with_reducible refine wp_e (eat _ _ _) ?_) | (with_reducible refine wp_e (enodes _) ?_))
      refine hg _ _ _ ⟨rfl, by omega, by omega, by omega, ?_⟩ (by omega)
      rw [e2, show V 0 0 - (i + -1) = V 0 0 - i + 1 by omega, sg_s (by omega)]
      unfold smA
      rw [show V 0 0 - (V 0 0 - i) = i by omega, if_neg (by omega), et]
theorem eratioOf {s : Int} (hN : NWF N) (hn : MN u N) (hV : WFb N V) (hm : MS u V) (hs : 0 ≤ s ∧ s < 8) : f_X10_ratioOf s u = some (rto N V s, u) := by
  have hN2 := hN
  obtain ⟨n0, n1, n2, n3, n4, n5, n6, n7, n8, n9, n10, n11, n12, n13, n14, nS, nR⟩ := hN
  have e8 := hn.1 8 (by decide) (by decide)
  have e9 := hn.1 9 (by decide) (by decide)
  have l8 := lat_b hV hs (m := N 0 8) (by omega)
  have l9 := lat_b hV hs (m := N 0 9) (by omega)
  refine wp_eq ?_
  unfold f_X10_ratioOf
  rw [e8]
  refine wp_e (elatest hN2 hV hm hs (by omega)) ?_
  refine wp_g (by omega) ?_
  rw [e9]
  refine wp_e (elatest hN2 hV hm hs (by omega)) ?_
  unfold rto rat
  generalize lat V s (N 0 8) = S at *
  generalize lat V s (N 0 9) = L at *
  refine wp_g (by omega) ?_
  refine wp_g (by omega) ?_
  refine wp_i (fun c => ?_) (fun c => ?_)
  · refine wp_s ?_
    have hL : L = 0 := by
      unfold cmpL at c
      split at c
      · omega
      · split at c <;> omega
    rw [if_pos hL]
  · have hL : L ≠ 0 := fun q => c (by subst q; rfl)
    have p1 : 0 ≤ S * N 0 9 := Int.mul_nonneg l8.1 (by omega)
    have p2 : S * N 0 9 ≤ 989901 * 99 := Int.mul_le_mul l8.2 (by omega) (by omega) (by decide)
    have p3 : L * 1 ≤ L * N 0 8 := Int.mul_le_mul_of_nonneg_left n8.1 (by omega)
    have p4 : L * N 0 8 ≤ 989901 * 99 := Int.mul_le_mul l9.2 (by omega) (by omega) (by decide)
    rw [e8, e9]
    refine wp_g (by omega) ?_
    refine wp_g (by omega) ?_
    refine wp_g ⟨⟨by omega, by omega⟩, ⟨by omega, by omega⟩, by omega⟩ ?_
    rw [if_neg hL]
    exact wp_s rfl
end MQ
