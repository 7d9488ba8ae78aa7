/-! the law's network: origins, misfits, nodes, magnitudes -/
section LLo
variable {u v w N V : uS}
theorem qnodeT {n p : Int} (hN : NWF N) (hn : LN u N) (hV : WFb N V) (hm : LR N u V) (h : 0 ≤ n ∧ n < nds N) (hp : 0 ≤ p ∧ p < V 0 1) : f_X10_time (ndX N n) (ndY N n) (pc (V 8 p)) u = some (tvN N n (V 8 p), u) := by
  have bx := ndX_b hN h.1
  have bY := ndY_b hN h.1 h.2
  have bp := hV.2.2.2.2.2.1 p hp.1 hp.2
  exact qtime hN hn (by omega) (by omega) (by omega)
theorem wfitAt {n e : Int} (hN : NWF N) (hn : LN u N) (hV : WFb N V) (hm : LR N u V) (hk : mkOk u) (h : 0 ≤ n ∧ n < nds N) (he : InR e) (hp1 : 1 ≤ pk V e) :
    wp (f_X10_fitAt n e u) (fun q => q.1 = 354 ∧ (∀ c, c ≠ 354 → q.2 c = u c) ∧ q.2 354 0 = org N V n e ∧ q.2 354 1 = msf N V n e) := by
  have hVb := hV
  have hd := nds_b hN
  have hN2 := hN
  obtain ⟨n0, n1, n2, n3, n4, n5, n6, n7, n8, n9, n10, n11, n12, n13, n14, nS, nR⟩ := hN
  obtain ⟨b0, b1, b2, bS, bI, bP, bE⟩ := hV
  have e11 := hn.1.2.2.1
  have e12 := hn.1.2.2.2.1
  have e13 := hn.1.2.2.2.2.1
  have e15 := hn.1.2.2.2.2.2.2.1
  have en := hm.n
  have pb := pk_b V e b1.1
  have ob := org_b hN2 hVb n e hp1
  unfold f_X10_fitAt
  rw [e11, e12, e13, e15]
  refine wp_g (by omega) ?_
  refine wp_l (fun x hx => ?_)
  have hx : x = ndX N n := hx
  subst hx
  refine wp_g (by omega) ?_
  refine wp_l (fun y hy => ?_)
  have hy : y = ndY N n := hy
  subst hy
  refine wp_l (fun j5 h5 => ?_)
  have J5 : wp (j5 (sg (fun p => if V 11 p = e then dly N V n p else 0) (V 0 1).toNat) u) (fun q => q.1 = 354 ∧ (∀ c, c ≠ 354 → q.2 c = u c) ∧ q.2 354 0 = org N V n e ∧ q.2 354 1 = msf N V n e) := by
    rw [h5]
    refine wp_e (qsize hVb hm he) ?_
    have sb := sdl_b hN2 hVb n e (i := V 0 1) (by omega)
    refine wp_g (by omega) ?_
    refine wp_l (fun o ho => ?_)
    have ho : o = org N V n e := ho
    subst ho
    refine wp_l (fun j12 h12 => ?_)
    refine wl3 (fun f i v => v = u ∧ 0 ≤ i ∧ i ≤ V 0 1 ∧ f = sg (fun p => if V 11 p = e then absI (dly N V n p - org N V n e) else 0) i.toNat) (fun _ i _ => (V 0 1 - i).toNat) (fun go f i v hI hg => ?_) FU _ _ _ ⟨rfl, by omega, by omega, rfl⟩ (FU_l (by omega))
    obtain ⟨rfl, h0, h1, rfl⟩ := hI
    unfold s_X10_fitAt_124
    rw [en]
    refine wp_g (by omega) ?_
    refine wp_i (fun c => ?_) (fun c => ?_)
    · rw [h12]
      refine wp_g hk ?_
      refine wp_l (fun u17 h17 => ?_)
      refine wp_l (fun u19 h19 => ?_)
      refine wp_l (fun u20 h20 => ?_)
      have z1 : ∀ c, c ≠ 354 → u20 c = v c := fun c hc => by rw [h20, up_c hc, h19, up_c hc, h17, upA_c hc]
      have z2 : u20 354 0 = org N V n e := by rw [h20, up_j (by decide), h19, up_s]
      have z3 : u20 354 1 = msf N V n e := by
        rw [h20, up_s]
        unfold msf
        rw [show i = V 0 1 by omega]
      exact wp_s ⟨rfl, z1, z2, z3⟩
    · have hi : 0 ≤ i ∧ i < V 0 1 := by omega
      obtain ⟨x1, x2⟩ := hm.px hi.1 hi.2 b1.2
      have bp := bP i hi.1 hi.2
      have db := dly_b hN2 hVb hi n
      have e8 := hm.ps hi.1 hi.2
      have e9 := hm.pt hi.1 hi.2
      have e1 := hm.pe hi.1 hi.2
      obtain ⟨y1, y2⟩ := hn.px (s := V 8 i) (by omega) (by omega)
      refine wp_g (by omega) ?_
      refine wp_g x1 ?_
      refine wp_L ?_
      rw [x2, e1]
      refine wp_g (by omega) ?_
      refine wp_i (fun c => ?_) (fun c => ?_)
      · refine wp_g (by omega) ?_
        refine wp_g x1 ?_
        refine wp_L ?_
        refine wp_g (by omega) ?_
        refine wp_g x1 ?_
        refine wp_L ?_
        rw [e8]
        refine wp_g (by omega) ?_
        refine wp_g y1 ?_
        refine wp_L ?_
        rw [y2]
        refine wp_e (qnodeT hN2 hn hVb hm h hi) ?_
        rw [e9, show V 9 i - tvN N n (V 8 i) = dly N V n i from rfl]
        refine wp_g (by omega) ?_
        refine wp_L ?_
        refine hg _ _ _ ⟨rfl, by omega, by omega, ?_⟩ (by omega)
        rw [sg_s h0]
        show _ = _ + (if V 11 i = e then _ else _)
        rw [if_pos (by assumption)]
      · refine hg _ _ _ ⟨rfl, by omega, by omega, ?_⟩ (by omega)
        rw [sg_s h0]
        show _ = _ + (if V 11 i = e then _ else _)
        rw [if_neg (by assumption), Int.add_zero]
  refine wl3 (fun f i v => v = u ∧ 0 ≤ i ∧ i ≤ V 0 1 ∧ f = sg (fun p => if V 11 p = e then dly N V n p else 0) i.toNat) (fun _ i _ => (V 0 1 - i).toNat) (fun go f i v hI hg => ?_) FU _ _ _ ⟨rfl, by omega, by omega, rfl⟩ (FU_l (by omega))
  obtain ⟨rfl, h0, h1, rfl⟩ := hI
  unfold s_X10_fitAt_41
  rw [en]
  refine wp_g (by omega) ?_
  refine wp_i (fun c => ?_) (fun c => ?_)
  · rw [show i = V 0 1 by omega]
    exact J5
  · have hi : 0 ≤ i ∧ i < V 0 1 := by omega
    obtain ⟨x1, x2⟩ := hm.px hi.1 hi.2 b1.2
    have bp := bP i hi.1 hi.2
    have e8 := hm.ps hi.1 hi.2
    have e9 := hm.pt hi.1 hi.2
    have e1 := hm.pe hi.1 hi.2
    obtain ⟨y1, y2⟩ := hn.px (s := V 8 i) (by omega) (by omega)
    refine wp_g (by omega) ?_
    refine wp_g x1 ?_
    refine wp_L ?_
    rw [x2, e1]
    refine wp_g (by omega) ?_
    refine wp_i (fun c => ?_) (fun c => ?_)
    · refine wp_g (by omega) ?_
      refine wp_g x1 ?_
      refine wp_L ?_
      refine wp_g (by omega) ?_
      refine wp_g x1 ?_
      refine wp_L ?_
      rw [e8]
      refine wp_g (by omega) ?_
      refine wp_g y1 ?_
      refine wp_L ?_
      rw [y2]
      refine wp_e (qnodeT hN2 hn hVb hm h hi) ?_
      rw [e9, show V 9 i - tvN N n (V 8 i) = dly N V n i from rfl]
      refine wp_L ?_
      refine hg _ _ _ ⟨rfl, by omega, by omega, ?_⟩ (by omega)
      rw [sg_s h0]
      show _ = _ + (if V 11 i = e then _ else _)
      rw [if_pos (by assumption)]
    · refine hg _ _ _ ⟨rfl, by omega, by omega, ?_⟩ (by omega)
      rw [sg_s h0]
      show _ = _ + (if V 11 i = e then _ else _)
      rw [if_neg (by assumption), Int.add_zero]
theorem LK.of {k : Nat} (hk : k = 292 ∨ k = 293 ∨ k = 354 ∨ k = 355) (h : ∀ c, c ≠ k → w c = u c) : LK u w := fun c hc => h c (by omega)
theorem mkOk_of {k : Nat} (hk : 264 ≤ k) (h : ∀ c, c ≠ k → w c = u c) (hm : mkOk u) : mkOk w := by
  unfold mkOk
  rw [h 0 (by omega)]
  exact hm
theorem wnode {e : Int} (hN : NWF N) (hn : LN u N) (hV : WFb N V) (hm : LR N u V) (hk : mkOk u) (h16 : nds N ≤ 16) (he : InR e) (hp1 : 1 ≤ pk V e) :
    wp (f_X10_node e u) (fun q => q.1 = nde N V e ∧ ∀ c, c ≠ 354 → q.2 c = u c) := by
  have hd := nds_b hN
  have pb := pk_b V e hV.2.1.1
  unfold f_X10_node
  refine wp_b (wfitAt hN hn hV hm hk (n := 0) ⟨by decide, by omega⟩ he hp1) (fun r u2 h => ?_)
  obtain ⟨h1, h2, -, h3⟩ := h
  refine wp_g h1 ?_
  refine wp_l (fun l hl => ?_)
  have h3 : u2 354 1 = msf N V 0 e := h3
  rw [h3] at hl
  subst hl
  refine wl4 (fun b l i v => (∀ c, c ≠ 354 → v c = u c) ∧ 1 ≤ i ∧ i ≤ nds N ∧ (0 ≤ b ∧ b < nds N) ∧ l = msf N V b e ∧ nb N V e (nds N - i).toNat i b l = nde N V e) (fun _ _ i _ => (nds N - i).toNat) (fun go b l i v hI hg => ?_) 17 _ _ _ _ ⟨h2, by omega, by omega, by omega, rfl, rfl⟩ (by omega)
  obtain ⟨hf, i1, i2, b0, rfl, hnb⟩ := hI
  have lk : LK u v := LK.of (by decide : (354 : Nat) = 292 ∨ 354 = 293 ∨ 354 = 354 ∨ 354 = 355) hf
  have hnv := hn.k hN lk
  have hmv := hm.k hN hV lk
  have e13 := hnv.1.2.2.2.2.1
  have e14 := hnv.1.2.2.2.2.2.1
  have mb := msf_b hN hV b e hp1 (i := V 0 1) (by omega)
  have mb : 0 ≤ msf N V b e ∧ msf N V b e ≤ 300000000 := mb
  unfold s_X10_node_14
  rw [e13, e14, show N 0 4 * N 0 5 = nds N from rfl]
  refine wp_g (by omega) ?_
  refine wp_i (fun c => ?_) (fun c => ?_)
  · refine wp_s ⟨?_, hf⟩
    rw [show nds N - i = 0 by omega] at hnb
    exact hnb
  · rw [show (nds N - i).toNat = (nds N - (i + 1)).toNat + 1 by omega] at hnb
    have hnb2 : nb N V e (nds N - (i + 1)).toNat (i + 1) (if msf N V i e < msf N V b e then i else b) (if msf N V i e < msf N V b e then msf N V i e else msf N V b e) = nde N V e := hnb
    refine wp_g (by omega) ?_
    refine wp_b (wfitAt hN hnv hV hmv (mkOk_of (by decide) hf hk) (n := i) ⟨by omega, by omega⟩ he hp1) (fun r u3 h => ?_)
    obtain ⟨g1, g2, -, g3⟩ := h
    have mi := msf_b hN hV i e hp1 (i := V 0 1) (by omega)
    have mi : 0 ≤ msf N V i e ∧ msf N V i e ≤ 300000000 := mi
    refine wp_g g1 ?_
    refine wp_l (fun x hx => ?_)
    have g3 : u3 354 1 = msf N V i e := g3
    rw [g3] at hx
    subst hx
    refine wp_g (by omega) ?_
    refine wp_i (fun c => ?_) (fun c => ?_)
    · rw [if_pos (by assumption), if_pos (by assumption)] at hnb2
      exact hg _ _ _ _ ⟨fun c hc => (g2 c hc).trans (hf c hc), by omega, by omega, by omega, rfl, hnb2⟩ (by omega)
    · rw [if_neg (by assumption), if_neg (by assumption)] at hnb2
      exact hg _ _ _ _ ⟨fun c hc => (g2 c hc).trans (hf c hc), by omega, by omega, by omega, rfl, hnb2⟩ (by omega)
theorem med_of {A : Int → Int} {n e k : Int} (hA : Asc A k) (hc : k = pk V e) (h1 : 1 ≤ k) (hS : ∀ f : Int → Int, sg (fun j => f (A j)) k.toNat = sg (fun p => if V 11 p = e then f (mgp N V n p) else 0) (V 0 1).toNat) : isMed N V n e (A ((k - 1).tdiv 2)) := by
  have hq : (k - 1).tdiv 2 = (k - 1) / 2 := Int.tdiv_eq_ediv_of_nonneg (by omega)
  have emc : ∀ x, mc N V n e x = sg (fun j => if A j ≤ x then 1 else 0) k.toNat := by
    intro x
    rw [hS (fun y => if y ≤ x then 1 else 0)]
    refine sg_c (fun p _ _ => ?_)
    show (if V 11 p = e ∧ mgp N V n p ≤ x then (1 : Int) else 0) = if V 11 p = e then (if mgp N V n p ≤ x then 1 else 0) else 0
    split <;> split <;> (try split) <;> omega
  have two : ∀ (f : Int → Int) (a b : Nat), sg f (a + b) = sg f a + sg (fun j => f (j + a)) b := by
    intro f a b
    induction b with
    | zero => show sg f a = sg f a + 0; omega
    | succ b ih =>
      show sg f (a + b) + f ((a + b : Nat) : Int) = sg f a + (sg (fun j => f (j + a)) b + f ((b : Int) + a))
      rw [ih, show ((a + b : Nat) : Int) = (b : Int) + a by omega]; omega
  generalize hmid : (k - 1).tdiv 2 = mid at *
  have hmid2 : (pk V e - 1).tdiv 2 = mid := by rw [← hc]; exact hmid
  unfold isMed
  rw [hmid2]
  refine ⟨?_, ?_⟩
  · show mc N V n e (A mid - 1) ≤ mid
    rw [emc, show k.toNat = mid.toNat + (k.toNat - mid.toNat) by omega, two, sg_z (f := fun j => (fun j => if A j ≤ A mid - 1 then (1 : Int) else 0) (j + (mid.toNat : Int))) (fun j j0 j1 => by
      have := hA mid (j + mid.toNat) (by omega) (by omega) (by omega)
      show (if A (j + (mid.toNat : Int)) ≤ A mid - 1 then (1 : Int) else 0) = 0
      rw [if_neg (by omega)])]
    have := @sg_le (fun j => if A j ≤ A mid - 1 then 1 else 0) 1 mid.toNat (fun i _ _ => by
      show 0 ≤ (if A i ≤ A mid - 1 then (1 : Int) else 0) ∧ (if A i ≤ A mid - 1 then (1 : Int) else 0) ≤ 1
      split <;> omega)
    omega
  · show mid < mc N V n e (A mid)
    rw [emc]
    have e1 : sg (fun j => if A j ≤ A mid then (1 : Int) else 0) (mid.toNat + 1) = (mid.toNat + 1 : Nat) := by
      rw [sg_c (g := fun _ => 1) (fun j j0 j1 => by
        have := hA j mid j0 (by omega) (by omega)
        show (if A j ≤ A mid then (1 : Int) else 0) = 1
        rw [if_pos this])]
      induction mid.toNat + 1 with
      | zero => rfl
      | succ k ih => show sg _ k + 1 = _; rw [ih]; omega
    have e2 := @sg_mono (fun j => if A j ≤ A mid then (1 : Int) else 0) (k.toNat - (mid.toNat + 1)) (mid.toNat + 1) (fun i _ _ => by
      show 0 ≤ (if A i ≤ A mid then (1 : Int) else 0)
      split <;> omega)
    rw [show mid.toNat + 1 + (k.toNat - (mid.toNat + 1)) = k.toNat by omega] at e2
    omega
theorem wmagnitude {n e : Int} (hN : NWF N) (hn : LN u N) (hV : WFb N V) (hm : LR N u V) (hk : mkOk u) (h : 0 ≤ n ∧ n < nds N) (he : InR e) (hp1 : 1 ≤ pk V e) :
    wp (f_X10_magnitude e n u) (fun q => isMed N V n e q.1 ∧ InR q.1 ∧ ∀ c, c ≠ 355 → q.2 c = u c) := by
  have hVb := hV
  have hd := nds_b hN
  have hN2 := hN
  obtain ⟨n0, n1, n2, n3, n4, n5, n6, n7, n8, n9, n10, n11, n12, n13, n14, nS, nR⟩ := hN
  obtain ⟨b0, b1, b2, bS, bI, bP, bE⟩ := hV
  have e11 := hn.1.2.2.1
  have e12 := hn.1.2.2.2.1
  have e13 := hn.1.2.2.2.2.1
  have e15 := hn.1.2.2.2.2.2.2.1
  have pb := pk_b V e b1.1
  unfold f_X10_magnitude
  rw [e11, e12, e13, e15]
  refine wp_g (by omega) ?_
  refine wp_l (fun x hx => ?_)
  have hx : x = ndX N n := hx
  subst hx
  refine wp_g (by omega) ?_
  refine wp_l (fun y hy => ?_)
  have hy : y = ndY N n := hy
  subst hy
  refine wp_g hk ?_
  refine wp_l (fun u7 h7 => ?_)
  refine wp_l (fun j9 h9 => ?_)
  refine wl3 (fun k i v => (∀ c, c ≠ 355 → v c = u c) ∧ 0 ≤ i ∧ i ≤ V 0 1 ∧ (0 ≤ k ∧ k ≤ i) ∧ k = sg (fun p => if V 11 p = e then 1 else 0) i.toNat ∧ Asc (v 355) k ∧ (∀ j, 0 ≤ j → j < k → InR (v 355 j)) ∧ ∀ f : Int → Int, sg (fun j => f (v 355 j)) k.toNat = sg (fun p => if V 11 p = e then f (mgp N V n p) else 0) i.toNat) (fun _ i _ => (V 0 1 - i).toNat) (fun go k i v hI hg => ?_) FU _ _ _ ⟨fun c hc => by rw [h7, upA_c hc], by omega, by omega, by omega, rfl, fun a b a0 ab b9 => by omega, fun j j0 j1 => by omega, fun f => rfl⟩ (FU_l (by omega))
  obtain ⟨hf, i0, i1, kb, hkk, hA, hb, hS⟩ := hI
  have lk : LK u v := LK.of (by decide : (355 : Nat) = 292 ∨ 355 = 293 ∨ 355 = 354 ∨ 355 = 355) hf
  have hnv := hn.k hN2 lk
  have hmv := hm.k hN2 hVb lk
  have en := hmv.n
  unfold s_X10_magnitude_47
  rw [en]
  refine wp_g (by omega) ?_
  refine wp_i (fun c => ?_) (fun c => ?_)
  · have hi : i = V 0 1 := by omega
    subst hi
    have hk2 : k = pk V e := hkk
    have hq : (k - 1).tdiv 2 = (k - 1) / 2 := Int.tdiv_eq_ediv_of_nonneg (by omega)
    rw [h9]
    refine wp_g (by omega) ?_
    refine wp_g (by omega) ?_
    exact wp_s ⟨med_of hA hk2 (by omega) hS, hb _ (by omega) (by omega), hf⟩
  · have hi : 0 ≤ i ∧ i < V 0 1 := by omega
    obtain ⟨x1, x2⟩ := hmv.px hi.1 hi.2 b1.2
    have bp := bP i hi.1 hi.2
    have e8 := hmv.ps hi.1 hi.2
    have e10 := hmv.pp hi.1 hi.2
    have e1 := hmv.pe hi.1 hi.2
    obtain ⟨y1, y2⟩ := hnv.px (s := V 8 i) (by omega) (by omega)
    have ex := (hnv.2.1 (V 8 i) (by omega) (by omega)).2
    have bs := nS (V 8 i) (by omega) (by omega)
    have bx := ndX_b hN2 h.1
    have bY := ndY_b hN2 h.1 h.2
    have e23 := hnv.1.2.2.2.2.2.2.2.2.2.2.2.2.2.2
    have dd := dst_b (ndX N n - N 1 (V 8 i)) (ndY N n - N 2 (V 8 i))
    have pr1 : 0 ≤ N 0 14 * ndD N n (V 8 i) := Int.mul_nonneg n14.1 dd.1
    have pr2 : N 0 14 * ndD N n (V 8 i) ≤ 99 * 8191 := Int.mul_le_mul n14.2 dd.2 dd.1 (by decide)
    have mb := mgp_b hN2 V n i
    refine wp_g (by omega) ?_
    refine wp_g x1 ?_
    refine wp_L ?_
    rw [x2, e1]
    refine wp_g (by omega) ?_
    refine wp_i (fun c => ?_) (fun c => ?_)
    · have hVe : V 11 i = e := by assumption
      refine wp_g (by omega) ?_
      refine wp_g x1 ?_
      refine wp_L ?_
      refine wp_g (by omega) ?_
      refine wp_g x1 ?_
      refine wp_L ?_
      rw [e8]
      refine wp_g (by omega) ?_
      refine wp_g y1 ?_
      refine wp_L ?_
      rw [y2]
      refine wp_e (qfar (by rw [ex.1]; omega) (by rw [ex.2]; omega)) ?_
      rw [ex.1, ex.2, e10, e23, show dst (ndX N n - N 1 (V 8 i)) (ndY N n - N 2 (V 8 i)) = ndD N n (V 8 i) from rfl]
      refine wp_e (qrung hN2 hnv (by omega)) ?_
      rw [show rung N (V 10 i + N 0 14 * ndD N n (V 8 i)) = mgp N V n i from rfl]
      refine wp_l (fun j48 h48 => ?_)
      refine wl2 (fun r x => (∀ c, c ≠ 355 → x c = v c) ∧ 0 ≤ r ∧ r ≤ k ∧ (∀ j, 0 ≤ j → j < r → x 355 j = v 355 j) ∧ (∀ j, r < j → j ≤ k → x 355 j = v 355 (j - 1)) ∧ (r < k → mgp N V n i < v 355 r)) (fun r _ => r.toNat) (fun go2 r x hI hg2 => ?_) FU _ _ ⟨fun _ _ => rfl, by omega, by omega, fun _ _ _ => rfl, fun j j0 j1 => by omega, fun h => by omega⟩ (FU_l (by omega))
      obtain ⟨xf, r0, r1, hl, hh, hxr⟩ := hI
      have fin : (0 < r → v 355 (r - 1) ≤ mgp N V n i) → wp (j48 r x) (fun q => isMed N V n e q.1 ∧ InR q.1 ∧ ∀ c, c ≠ 355 → q.2 c = u c) := fun hle => by
        rw [h48]
        refine wp_g (by omega) ?_
        refine wp_l (fun z hz => ?_)
        have v1 : ∀ j, 0 ≤ j → j < r → z 355 j = v 355 j := fun j j0 j1 => by rw [hz, up_j (by omega)]; exact hl j j0 j1
        have v2 : z 355 r = mgp N V n i := by rw [hz, up_s]
        have v3 : ∀ j, r < j → j ≤ k → z 355 j = v 355 (j - 1) := fun j j0 j1 => by rw [hz, up_j (by omega)]; exact hh j j0 j1
        refine hg _ _ _ ⟨fun c hc => by rw [hz, up_c hc, xf c hc]; exact hf c hc, by omega, by omega, by omega, ?_, fun a b a0 ab bi => ?_, fun j j0 j1 => ?_, fun f => ?_⟩ (by omega)
        · rw [sg_s i0, hkk]
          show _ = _ + (if V 11 i = e then _ else _)
          rw [if_pos hVe]
        · rcases Int.lt_trichotomy a r with ha | ha | ha
          · rw [v1 a a0 ha]
            rcases Int.lt_trichotomy b r with hb | hb | hb
            · rw [v1 b (by omega) hb]; exact hA a b a0 ab (by omega)
            · subst hb; rw [v2]
              have := hA a (b - 1) a0 (by omega) (by omega)
              have := hle (by omega)
              omega
            · rw [v3 b hb (by omega)]; exact hA a (b - 1) a0 (by omega) (by omega)
          · subst ha
            rw [v2]
            by_cases hb : b = a
            · subst hb; rw [v2]; exact Int.le_refl _
            · rw [v3 b (by omega) (by omega)]
              have := hA a (b - 1) a0 (by omega) (by omega)
              have := hxr (by omega)
              omega
          · rw [v3 a ha (by omega), v3 b (by omega) (by omega)]
            exact hA (a - 1) (b - 1) (by omega) (by omega) (by omega)
        · rcases Int.lt_trichotomy j r with hj | hj | hj
          · rw [v1 j j0 hj]; exact hb j j0 (by omega)
          · subst hj; rw [v2]; exact ⟨by omega, by omega⟩
          · rw [v3 j hj (by omega)]; exact hb (j - 1) (by omega) (by omega)
        · rw [show (k + 1).toNat = k.toNat + 1 by omega, sg_ins (A := v 355) (m := mgp N V n i) (r := r) r0 (by omega) v1 v2 (fun j j0 j1 => v3 j j0 (by omega)), hS f, sg_s i0]
          show _ = _ + (if V 11 i = e then _ else _)
          rw [if_pos hVe]
      unfold s_X10_magnitude_123
      refine wp_g (by omega) ?_
      refine wp_i (fun c => ?_) (fun c => ?_)
      · exact fin (fun h => by omega)
      · have eb : x 355 (r - 1) = v 355 (r - 1) := hl (r - 1) (by omega) (by omega)
        have ib := hb (r - 1) (by omega) (by omega)
        refine wp_g (by omega) ?_
        rw [eb]
        refine wp_g (by omega) ?_
        refine wp_i (fun c => ?_) (fun c => ?_)
        · exact fin (fun _ => by assumption)
        · refine wp_g (by omega) ?_
          refine wp_g (by omega) ?_
          refine wp_l (fun z hz => ?_)
          refine hg2 _ _ ⟨fun c hc => by rw [hz, up_c hc]; exact xf c hc, by omega, by omega, fun j j0 j1 => by rw [hz, up_j (by omega)]; exact hl j j0 (by omega), fun j j0 j1 => ?_, fun _ => by rw [show r + -1 = r - 1 by omega]; omega⟩ (by omega)
          by_cases hj : j = r
          · subst hj; rw [hz, up_s]
          · rw [hz, up_j hj]; exact hh j (by omega) j1
    · refine hg _ _ _ ⟨hf, by omega, by omega, by omega, ?_, hA, hb, fun f => ?_⟩ (by omega)
      · rw [sg_s i0, hkk]
        show _ = _ + (if V 11 i = e then _ else _)
        rw [if_neg (by assumption), Int.add_zero]
      · rw [hS f, sg_s i0]
        show _ = _ + (if V 11 i = e then _ else _)
        rw [if_neg (by assumption), Int.add_zero]
end LLo
