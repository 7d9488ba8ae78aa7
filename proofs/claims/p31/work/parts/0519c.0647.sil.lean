/-! pure part, 17: the class's muting; copies of situations -/
section SI
variable {u N V : uS} {n k : Nat}
theorem cwithdraw {e : Int} (hV : WFb N V) (hk : k < NN ∧ sT k = 11) (hm : CV u k V) (he : 0 ≤ e ∧ e < V 0 2) :
    wp (f_X7_withdraw k e u) (fun q => FrK k u q.2 ∧ CV q.2 k (rtr V e) ∧ q.2 (k + 3) = u (k + 3) ∧ q.2 (k + 4) = u (k + 4)) := by
  have hkk := sit_at hk
  obtain ⟨b0, b1, b2, bS, bI, bP, bE⟩ := hV
  unfold f_X7_withdraw
  refine wp_g hk ?_
  repeat (first | (with_reducible refine wp_g ?_ ?_; · omega) | (with_reducible refine wp_f ?_ ?_; · omega) | (with_reducible refine wp_t ?_ ?_; · omega))
  refine wp_l (fun w g => ?_)
  have s1 := VE.stC hm 14 e 1 g rfl
  have f1 : FrK k u w := by rw [g]; exact FrK.rf.st (by omega)
  have c1 : ∀ c, c = k + 3 ∨ c = k + 4 → w c = u c := fun c hc => by rw [g]; exact up_c (by omega)
  refine wl2 (fun i v => FrK k u v ∧ (∀ c, c = k + 3 ∨ c = k + 4 → v c = u c) ∧ VE (V 0 1) (V 0 2) (fun j s => v (k + j) s) (fri (up V 14 e 1) e i) ∧ 0 ≤ i ∧ i ≤ V 0 1) (fun i _ => (V 0 1 - i).toNat) (fun go i v hI hg => ?_) FU _ _ ⟨f1, c1, VE.cg s1 (fun j s hv => fri_0 (fun hj => by subst hj; exact (vd11 hv).1)), by omega, by omega⟩ (FU_l (by omega))
  obtain ⟨hf, hc, hE, h0, h1⟩ := hI
  have e1 : v k 1 = V 0 1 := hE 0 1 (by unfold vd; omega)
  unfold s_X7_withdraw_20
  refine wp_g (by omega) ?_
  refine wp_i (fun c => ?_) (fun c => ?_)
  · refine wp_s ⟨hf, ?_, hc _ (by omega), hc _ (by omega)⟩
    refine VE.cg (a := V 0 1) (b := V 0 2) hE (fun j s hv => fri_fr (fun hj => ?_))
    subst hj
    have := (vd11 hv).2
    omega
  · have p11 : v (k + 11) i = V 11 i := (hE 11 i (by unfold vd; omega)).trans (if_neg (by omega))
    have bp := bP i h0 (by omega)
    repeat (first | (with_reducible refine wp_L ?_) | (with_reducible refine wp_g ?_ ?_; · omega) | (with_reducible refine wp_f ?_ ?_; · omega) | (with_reducible refine wp_t ?_ ?_; · omega))
    refine wp_i (fun c => ?_) (fun c => ?_)
    · repeat (first | (with_reducible refine wp_L ?_) | (with_reducible refine wp_g ?_ ?_; · omega) | (with_reducible refine wp_f ?_ ?_; · omega) | (with_reducible refine wp_t ?_ ?_; · omega))
      refine hg _ _ ⟨hf.st (by omega), fun c h => (up_c (by omega)).trans (hc c h), ?_, by omega, by omega⟩ (by omega)
      refine VE.cg (VE.stC hE 11 i (-1) rfl rfl) (fun j s hv => fri_s (show up V 14 e 1 11 i = e from ?_))
      show V 11 i = e
      omega
    · refine hg _ _ ⟨hf, hc, VE.cg hE (fun j s hv => fri_n (show up V 14 e 1 11 i ≠ e from ?_)), by omega, by omega⟩ (by omega)
      show V 11 i ≠ e
      omega
theorem csilence {s : Int} (hN : NWF N) (hn : CN u n N) (hV : WFc N V) (hm : CS N u k V) (hs : 0 ≤ s ∧ s < N 0 0) :
    wp (f_X7_silence k n s u) (fun q => q.1 = mtn N (mt1 V s) (V 0 2) ∧ FrK k u q.2 ∧ CS N q.2 k (mt N V s)) := by
  have hk := hm.1
  have hL := hm.2.2
  have hM := hm.2.1
  have hkk := sit_at hk
  have hnn := net_at hn.1
  have hVc := hV
  have hN2 := hN
  obtain ⟨n0, n1, n2, n3, n4, n5, n6, n7, n8, n9, n10, n11, n12, n13, n14, nS, nR⟩ := hN
  obtain ⟨hV, -⟩ := hV
  have hVb := hV
  obtain ⟨b0, b1, b2, bS, bI, bP, bE⟩ := hV
  have m01 : mt1 V s 0 1 = V 0 1 := by rw [mt1_r (by decide) (by decide), up_k (by decide), up_k (by decide)]
  have m02 : mt1 V s 0 2 = V 0 2 := by rw [mt1_r (by decide) (by decide), up_k (by decide), up_k (by decide)]
  have w14 : ∀ e, mt1 V s 14 e = V 14 e := fun e => by rw [mt1_r (by decide) (by decide), up_k (by decide), up_k (by decide)]
  unfold f_X7_silence
  refine wp_g ⟨hk, hn.1⟩ ?_
  repeat (first | (with_reducible refine wp_g ?_ ?_; · omega) | (with_reducible refine wp_f ?_ ?_; · omega) | (with_reducible refine wp_t ?_ ?_; · omega))
  refine wp_l (fun w1 g1 => ?_)
  have s1 := VE.stC hM 6 s 1 g1 rfl
  have f1 : FrK k u w1 := by rw [g1]; exact FrK.rf.st (by omega)
  have c1 : ∀ c, c = k + 3 ∨ c = k + 4 → w1 c = u c := fun c hc => by rw [g1]; exact up_c (by omega)
  repeat (first | (with_reducible refine wp_g ?_ ?_; · omega) | (with_reducible refine wp_f ?_ ?_; · omega) | (with_reducible refine wp_t ?_ ?_; · omega))
  refine wp_l (fun w2 g2 => ?_)
  have s2 := VE.stC s1 5 s 0 g2 rfl
  have f2 : FrK k u w2 := by rw [g2]; exact f1.st (by omega)
  have c2 : ∀ c, c = k + 3 ∨ c = k + 4 → w2 c = u c := fun c hc => by rw [g2]; exact (up_c (by omega)).trans (c1 c hc)
  refine wp_L ?_
  refine wl2 (fun i v => FrK k u v ∧ (∀ c, c = k + 3 ∨ c = k + 4 → v c = u c) ∧ VE (V 0 1) (V 0 2) (fun j s => v (k + j) s) (mt1i V s i) ∧ 0 ≤ i ∧ i ≤ V 0 1) (fun i _ => (V 0 1 - i).toNat) (fun go i v hI hg => ?_) FU _ _ ⟨f2, c2, VE.cg s2 (fun j i _ => mt1i_0), by omega, by omega⟩ (FU_l (by omega))
  obtain ⟨hf, hc, hE, h0, h1⟩ := hI
  have e1 : v k 1 = V 0 1 := (hE 0 1 (by unfold vd; omega)).trans (by rw [mt1i_r (by decide) (by decide), up_k (by decide), up_k (by decide)])
  have ends : i = V 0 1 → wp (xl3 (s_X7_silence_77 k n) FU 0 0 v) (fun q => q.1 = mtn N (mt1 V s) (V 0 2) ∧ FrK k u q.2 ∧ CS N q.2 k (mt N V s)) := by
    intro hi
    subst hi
    rw [mt1i_e] at hE
    refine wl3 (fun cc e w => FrK k u w ∧ (∀ c, c = k + 3 ∨ c = k + 4 → w c = u c) ∧ VE (V 0 1) (V 0 2) (fun j s => w (k + j) s) (mt2 N (mt1 V s) e) ∧ (0 ≤ e ∧ e ≤ V 0 2) ∧ cc = mtn N (mt1 V s) e) (fun _ e _ => (V 0 2 - e).toNat) (fun go cc e w hI hg => ?_) FU 0 0 v ⟨hf, hc, by rw [mt2_0]; exact hE, ⟨by omega, by omega⟩, show (0 : Int) = mtn N (mt1 V s) 0 from rfl⟩ (FU_l (by omega))
    obtain ⟨hf, hc, hE2, he, hcc⟩ := hI
    have nw : CN w n N := hn.fr hk hf
    have a12 : w n 7 = N 0 12 := nw.2.1.2.2.2.2.2.2.2.2.2.2.2.2.1
    have w02 : mt2 N (mt1 V s) e 0 2 = V 0 2 := mt2_0i.trans m02
    have w01 : mt2 N (mt1 V s) e 0 1 = V 0 1 := mt2_0i.trans m01
    have mw : CV w k (mt2 N (mt1 V s) e) := by unfold CV; rw [w01, w02]; exact hE2
    have e2 : w k 2 = V 0 2 := mw.e.trans w02
    have wb : WFb N (mt2 N (mt1 V s) e) := wfb_mt2 (by rw [← mt1i_e]; exact wfb_mt1i hVb)
    unfold s_X7_silence_77
    refine wp_g (by omega) ?_
    refine wp_i (fun c => ?_) (fun c => ?_)
    · refine wp_s ⟨?_, hf, hk, ?_, ?_⟩
      · show cc = _
        rw [hcc, show e = V 0 2 by omega]
      · rw [show e = V 0 2 by omega] at mw; exact mw
      · have q0 : mt N V s 0 0 = V 0 0 := mt_q (by decide) (by decide) (by decide) (by decide) (by decide)
        have q2 : mt N V s 2 = V 2 := funext fun i => mt_q (by decide) (by decide) (by decide) (by decide) (by decide)
        exact CL.cg hL (hc _ (by omega)) (hc _ (by omega)) q2 q0
    · have r14 : w (k + 14) e = V 14 e := (mw.re (s := e) (by omega) (by rw [w02]; omega)).trans ((mt2_14 (Int.le_refl _)).trans (w14 e))
      have be := bE e (by omega) (by omega)
      have pke : pk (mt2 N (mt1 V s) e) e = pk (mt1 V s) e := pk_mt2 (Int.le_refl _) (by omega)
      have pb := pk_b (mt1 V s) e (by rw [m01]; omega)
      have no : ¬ (V 14 e = 0 ∧ pk (mt1 V s) e < N 0 12) → wp (go cc (e + 1) w) (fun q => q.1 = mtn N (mt1 V s) (V 0 2) ∧ FrK k u q.2 ∧ CS N q.2 k (mt N V s)) := fun h => by
        refine hg _ _ _ ⟨hf, hc, ?_, by omega, ?_⟩ (by omega)
        · rw [mt2_n (by rw [w14]; exact h)]; exact hE2
        · rw [hcc]
          unfold mtn
          rw [sg_s (by omega), if_neg (by rw [w14]; exact h)]; omega
      repeat (first | (with_reducible refine wp_L ?_) | (with_reducible refine wp_g ?_ ?_; · omega) | (with_reducible refine wp_f ?_ ?_; · omega) | (with_reducible refine wp_t ?_ ?_; · omega))
      refine wp_i (fun c => ?_) (fun c => ?_)
      · refine wp_e (cpicksOf wb hk mw (by omega)) ?_
        rw [pke, a12]
        refine wp_g (by omega) ?_
        refine wp_i (fun c => ?_) (fun c => ?_)
        · exact no (fun h => by omega)
        · have hy : V 14 e = 0 ∧ pk (mt1 V s) e < N 0 12 := ⟨by omega, by omega⟩
          refine wp_b (cwithdraw wb hk mw ⟨by omega, by rw [w02]; omega⟩) (fun r w3 h => ?_)
          obtain ⟨t1, t2, t3, t4⟩ := h
          refine hg _ _ _ ⟨hf.tr t1, fun c h => ?_, ?_, by omega, ?_⟩ (by omega)
          · rcases h with rfl | rfl
            · exact t3.trans (hc _ (by omega))
            · exact t4.trans (hc _ (by omega))
          · have h2 : CV w3 k (rtr (mt2 N (mt1 V s) e) e) := t2
            rw [mt2_s (by omega) (by rw [w14]; exact hy)] at h2
            have x1 : mt2 N (mt1 V s) (e + 1) 0 1 = V 0 1 := mt2_0i.trans m01
            have x2 : mt2 N (mt1 V s) (e + 1) 0 2 = V 0 2 := mt2_0i.trans m02
            unfold CV at h2
            rw [x1, x2] at h2
            exact h2
          · rw [hcc]
            unfold mtn
            rw [sg_s (by omega), if_pos (by rw [w14]; exact hy)]
      · exact no (fun h => by omega)
  unfold s_X7_silence_28
  refine wp_g (by omega) ?_
  refine wp_i (fun c => ?_) (fun c => ?_)
  · exact ends (by omega)
  · have p8 : v (k + 8) i = V 8 i := (hE 8 i (by unfold vd; omega)).trans (by rw [mt1i_r (by decide) (by decide), up_k (by decide), up_k (by decide)])
    have bp := bP i h0 (by omega)
    repeat (first | (with_reducible refine wp_L ?_) | (with_reducible refine wp_g ?_ ?_; · omega) | (with_reducible refine wp_f ?_ ?_; · omega) | (with_reducible refine wp_t ?_ ?_; · omega))
    refine wp_i (fun c => ?_) (fun c => ?_)
    · have h8 : V 8 i = s := by omega
      repeat (first | (with_reducible refine wp_L ?_) | (with_reducible refine wp_g ?_ ?_; · omega) | (with_reducible refine wp_f ?_ ?_; · omega) | (with_reducible refine wp_t ?_ ?_; · omega))
      refine hg _ _ ⟨(hf.st (by omega)).st (by omega), fun c h => (up_c (by omega)).trans ((up_c (by omega)).trans (hc c h)), ?_, by omega, by omega⟩ (by omega)
      have t2 := VE.stC hE 12 i 1 rfl rfl
      have t3 := VE.stC t2 11 i (-1) rfl rfl
      refine VE.cg t3 (fun j q _ => ?_)
      rw [← mt1i_s h0 h8]
      unfold up
      by_cases c1 : j = 11 ∧ q = i
      · rw [if_pos c1, if_neg (by omega), if_pos c1]
      · rw [if_neg c1, if_neg c1]
    · exact hg _ _ ⟨hf, hc, VE.cg hE (fun j q _ => mt1i_o (Or.inr (by omega))), by omega, by omega⟩ (by omega)
end SI
/-! copies -/
theorem cpy_row {a b : Nat} {u : uS} (ha : a < NN ∧ sT a = 100) (hb : b < NN ∧ sT b = 100) (hs : sN a = sN b) : f_X9_copyRow a b u = some (0, upA u b (cpyI (u a) (u b) (sN b : Int))) := by
  have e : minI (sN a : Int) (sN b : Int) = (sN b : Int) := by unfold minI; rw [hs, if_pos (Int.le_refl _)]
  have l1 := sN_lt a
  have l2 := sN_lt b
  refine wp_eq ?_
  unfold f_X9_copyRow
  refine wp_g ⟨ha, hb⟩ ?_
  rw [e]
  refine wp_g ⟨⟨by omega, by omega⟩, ⟨by omega, by omega⟩⟩ ?_
  refine wp_g ⟨⟨by omega, by omega⟩, by omega⟩ ?_
  exact wp_s rfl
/-- how long a row of a situation is -/
def sitN (j : Nat) : Nat := (shSit.getD j (999, 0)).2
theorem sit_n {k : Nat} (h : k < NN ∧ sT k = 11) : ∀ j, j < 15 → sN (k + j) = sitN j := by
  have h2 : ∀ k, k < 264 → sT k = 11 → ∀ j, j < 15 → sN (k + j) = sitN j := by decide +kernel
  exact h2 k h.1 h.2
theorem vd_lim2 {a b : Int} {j : Nat} {s : Int} (h : vd a b j s) (ha : a ≤ 60) (hb : b ≤ 20) : j = 0 ∨ (1 ≤ j ∧ j ≤ 14 ∧ j ≠ 3 ∧ j ≠ 4 ∧ 0 ≤ s ∧ s < (sitN j : Int)) := by
  unfold vd at h
  rcases h with ⟨h0, ⟨rfl, h⟩ | ⟨rfl | rfl | rfl | rfl, h⟩ | ⟨rfl, h⟩ | ⟨⟨h1, h2⟩, h⟩ | ⟨rfl | rfl, h⟩⟩
  · exact Or.inl rfl
  · right; exact ⟨by decide, by decide, by decide, by decide, h0, by show s < 8; omega⟩
  · right; exact ⟨by decide, by decide, by decide, by decide, h0, by show s < 8; omega⟩
  · right; exact ⟨by decide, by decide, by decide, by decide, h0, by show s < 8; omega⟩
  · right; exact ⟨by decide, by decide, by decide, by decide, h0, by show s < 8; omega⟩
  · right; exact ⟨by decide, by decide, by decide, by decide, h0, by show s < 792; omega⟩
  · right
    have h3 : j = 8 ∨ j = 9 ∨ j = 10 ∨ j = 11 ∨ j = 12 := by omega
    have hn : (sitN j : Int) = 60 := by rcases h3 with rfl | rfl | rfl | rfl | rfl <;> rfl
    rw [hn]; omega
  · right; exact ⟨by decide, by decide, by decide, by decide, h0, by show s < 20; omega⟩
  · right; exact ⟨by decide, by decide, by decide, by decide, h0, by show s < 20; omega⟩
/-- rows before i are copied from m to k, nothing else is changed -/
def cpS (u : uS) (k m i : Nat) (v : uS) : Prop := (∀ c, (c < k ∨ k + i ≤ c) → v c = u c) ∧ (∀ s, 0 ≤ s → s < 3 → v k s = u m s) ∧ ∀ j, 1 ≤ j → j < i → ∀ s, 0 ≤ s → s < (sitN j : Int) → v (k + j) s = u (m + j) s
/-- the situation at m is copied to k -/
theorem ccopyFrom {u N V : uS} {k m : Nat} (hV : WFb N V) (hN : NWF N) (hk : k < NN ∧ sT k = 11) (hm : CS N u m V) (hkm : m + 15 ≤ k ∨ k + 15 ≤ m) :
    wp (f_X7_copyFrom k m u) (fun q => (∀ c, (c < k ∨ k + 15 ≤ c) → q.2 c = u c) ∧ CS N q.2 k V) := by
  have hM := hm.1
  have hkk := sit_at hk
  have hmm := sit_at hM
  have n0 := hN.1
  obtain ⟨b0, b1, b2, bS, bI, bP, bE⟩ := hV
  unfold f_X7_copyFrom
  refine wp_g ⟨hk, hM⟩ ?_
  have rowk : ∀ j, 1 ≤ j → j ≤ 14 → k + j < NN ∧ sT (k + j) = 100 := fun j j0 j1 => ⟨by show _ < 264; omega, (sh_sit hk).2 j j0 j1⟩
  have rowm : ∀ j, 1 ≤ j → j ≤ 14 → m + j < NN ∧ sT (m + j) = 100 := fun j j0 j1 => ⟨by show _ < 264; omega, (sh_sit hM).2 j j0 j1⟩
  have hn : ∀ j, j < 15 → sN (m + j) = sN (k + j) := fun j hj => by rw [sit_n hM j hj, sit_n hk j hj]
  have inv : ∀ (v : uS) (i : Nat), 1 ≤ i → i ≤ 14 → cpS u k m i v → ∃ v', f_X9_copyRow (m + i) (k + i) v = some (0, v') ∧ cpS u k m (i + 1) v' := by
    intro v i i0 i1 ⟨h1, h2, h3⟩
    refine ⟨_, cpy_row (rowm i i0 i1) (rowk i i0 i1) (hn i (by omega)), fun c hc => ?_, fun s s0 s1 => ?_, fun j j0 j1 s s0 s1 => ?_⟩
    · rw [upA_c (by omega)]; exact h1 c (by omega)
    · rw [upA_k (by omega)]; exact h2 s s0 s1
    · by_cases hj : j = i
      · subst hj
        rw [upA_s]
        unfold cpyI
        rw [if_pos ⟨s0, by rw [sit_n hk j (by omega)]; exact s1⟩, h1 (m + j) (by omega)]
      · rw [upA_k (by omega)]; exact h3 j j0 (by omega) s s0 s1
  refine wp_l (fun a1 g1 => ?_)
  refine wp_l (fun a2 g2 => ?_)
  refine wp_l (fun a3 g3 => ?_)
  have q1 : ∀ c, c ≠ k → a1 c = u c := fun c hc => by rw [g1]; exact up_c hc
  have q2 : ∀ c, c ≠ k → a2 c = u c := fun c hc => by rw [g2]; exact (up_c hc).trans (q1 c hc)
  have q3 : ∀ c, c ≠ k → a3 c = u c := fun c hc => by rw [g3]; exact (up_c hc).trans (q2 c hc)
  have st0 : cpS u k m 1 a3 := by
    refine ⟨fun c hc => q3 c (by omega), fun s s0 s1 => ?_, fun j j0 j1 => by omega⟩
    have h3 : s = 0 ∨ s = 1 ∨ s = 2 := by omega
    rcases h3 with rfl | rfl | rfl
    · rw [g3, up_j (by decide), g2, up_j (by decide), g1, up_s]
    · rw [g3, up_j (by decide), g2, up_s, q1 m (by omega)]
    · rw [g3, up_s, q2 m (by omega)]
  obtain ⟨v1, r1, st1⟩ := inv _ 1 (by decide) (by decide) st0
  refine wp_e r1 ?_
  obtain ⟨v2, r2, st2⟩ := inv _ 2 (by decide) (by decide) st1
  refine wp_e r2 ?_
  obtain ⟨v3, r3, st3⟩ := inv _ 3 (by decide) (by decide) st2
  refine wp_e r3 ?_
  obtain ⟨v4, r4, st4⟩ := inv _ 4 (by decide) (by decide) st3
  refine wp_e r4 ?_
  obtain ⟨v5, r5, st5⟩ := inv _ 5 (by decide) (by decide) st4
  refine wp_e r5 ?_
  obtain ⟨v6, r6, st6⟩ := inv _ 6 (by decide) (by decide) st5
  refine wp_e r6 ?_
  obtain ⟨v7, r7, st7⟩ := inv _ 7 (by decide) (by decide) st6
  refine wp_e r7 ?_
  obtain ⟨v8, r8, st8⟩ := inv _ 8 (by decide) (by decide) st7
  refine wp_e r8 ?_
  obtain ⟨v9, r9, st9⟩ := inv _ 9 (by decide) (by decide) st8
  refine wp_e r9 ?_
  obtain ⟨v10, r10, st10⟩ := inv _ 10 (by decide) (by decide) st9
  refine wp_e r10 ?_
  obtain ⟨v11, r11, st11⟩ := inv _ 11 (by decide) (by decide) st10
  refine wp_e r11 ?_
  obtain ⟨v12, r12, st12⟩ := inv _ 12 (by decide) (by decide) st11
  refine wp_e r12 ?_
  obtain ⟨v13, r13, st13⟩ := inv _ 13 (by decide) (by decide) st12
  refine wp_e r13 ?_
  obtain ⟨v14, r14, st14⟩ := inv _ 14 (by decide) (by decide) st13
  refine wp_e r14 ?_
  refine wp_s ⟨fun c hc => st14.1 c (by omega), hk, fun j s hv => ?_, fun s s0 s1 => ⟨?_, ?_⟩⟩
  · have hv2 := hm.2.1 j s hv
    rcases vd_lim2 hv b1.2 b2.2 with rfl | ⟨j0, j1, -, -, s0, s1⟩
    · have : 0 ≤ s ∧ s < 3 := by unfold vd at hv; omega
      exact (st14.2.1 s this.1 this.2).trans hv2
    · exact (st14.2.2 j j0 (by omega) s s0 s1).trans hv2
  · exact (st14.2.2 3 (by decide) (by decide) s s0 (by show s < 8; omega)).trans (hm.2.2 s s0 s1).1
  · exact (st14.2.2 4 (by decide) (by decide) s s0 (by show s < 8; omega)).trans (hm.2.2 s s0 s1).2
