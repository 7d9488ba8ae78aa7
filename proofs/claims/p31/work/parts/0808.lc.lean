/-! of the class, where it throws; what the values are like afterwards -/
section LC0
variable {u w N V : uS} {U S : Int → uS} {f : Int → Int} {c L E : Int} {B : Int → Int} {D : List Int}
/-- a present that comes from the one before, which is kept -/
theorem pw_psh {V2 : uS} (hP : PW N V U S f c L E B D) (hV : WFc N V2) (h0 : V2 0 0 ≤ 9999) : PW N V2 (psh U c V) S f (pshc c) L E B D := by
  obtain ⟨a, ⟨b, b2⟩, ⟨d, d2⟩, e⟩ := hP
  refine ⟨a, ⟨hV, h0⟩, ⟨hw_psh d b, fun j j0 j1 => ?_⟩, e⟩
  have hc := d.1
  unfold pshc at j1
  by_cases h1 : c < 10
  · rw [if_pos h1] at j1
    have e : psh U c V j = if j = c then V else U j := if_pos h1
    rw [e]
    by_cases h2 : j = c
    · rw [if_pos h2]; exact b2
    · rw [if_neg h2]; exact d2 j j0 (by omega)
  · rw [if_neg h1] at j1
    have e : psh U c V j = if j = 9 then V else U (j + 1) := if_neg h1
    rw [e]
    by_cases h2 : j = 9
    · rw [if_pos h2]; exact b2
    · rw [if_neg h2]; exact d2 (j + 1) (by omega) (by omega)
theorem cMuteN2 {s : Int} (hC : CI N V U S f c L E B D u) (hP : PW N V U S f c L E B D) (h : 0 ≤ s ∧ s < N 0 0) (h6 : ¬ V 6 s = 0) : f_X9_mute s u = some (3, 0, u) := by
  have n0 := hP.1.1
  have h1 := cneedStation hC hP.1 (x := s) (by omega)
  rw [if_pos h] at h1
  have h2 := cneedMuted hC hP.2.1.1.1 (x := s) (m := 0) (by omega) (by decide)
  rw [if_neg h6] at h2
  refine wp_eq ?_
  unfold f_X9_mute
  exact wp_bt0 h1 (wp_btn h2 (by decide) (wp_s rfl))
theorem cUnmuteN2 {s : Int} (hC : CI N V U S f c L E B D u) (hP : PW N V U S f c L E B D) (h : 0 ≤ s ∧ s < N 0 0) (h6 : ¬ V 6 s = 1) : f_X9_unmute s u = some (3, 0, u) := by
  have n0 := hP.1.1
  have h1 := cneedStation hC hP.1 (x := s) (by omega)
  rw [if_pos h] at h1
  have h2 := cneedMuted hC hP.2.1.1.1 (x := s) (m := 1) (by omega) (by decide)
  rw [if_neg h6] at h2
  refine wp_eq ?_
  unfold f_X9_unmute
  exact wp_bt0 h1 (wp_btn h2 (by decide) (wp_s rfl))
theorem cRetractN2 {e : Int} (hC : CI N V U S f c L E B D u) (hP : PW N V U S f c L E B D) (h : 0 ≤ e ∧ e < V 0 2) (h14 : V 14 e = 1) : f_X9_retract e u = some (3, 0, u) := by
  have b := hP.2.1.1.1.2.2.1
  have h1 := cneedEvent hC hP.2.1.1.1 (x := e) (by omega)
  rw [if_pos h] at h1
  have h2 := cneedStanding hC hP.2.1.1.1 h
  rw [if_pos h14] at h2
  refine wp_eq ?_
  unfold f_X9_retract
  exact wp_bt0 h1 (wp_btn h2 (by decide) (wp_s rfl))
theorem pw_buf {L2 : Int} {B2 : Int → Int} {E2 : Int} (hP : PW N V U S f c L E B D) (hL : 0 ≤ L2 ∧ L2 ≤ 500) (hB : ∀ j, 0 ≤ j → j < L2 → 0 ≤ B2 j ∧ B2 j < 256) (hE : -1 ≤ E2 ∧ E2 ≤ 500) : PW N V U S f c L2 E2 B2 D := by
  obtain ⟨a, b, d, e, -, -, -, g⟩ := hP
  exact ⟨a, b, d, e, hL, hB, hE, g⟩
end LC0
section LC
variable {u w N V V' : uS} {U S : Int → uS} {f : Int → Int} {c L E : Int} {B : Int → Int} {D : List Int}
theorem wdraw {m : Int} (hm : 0 < m ∧ m ≤ 1000000) : wp (f_L_draw m u) (fun q => (0 ≤ q.1 ∧ q.1 < m) ∧ ∀ d, d ≠ 357 → q.2 d = u d) := by
  unfold f_L_draw
  refine wp_l (fun u1 h1 => ?_)
  have hz : 0 ≤ u1 357 0 % 4294967296 / 256 ∧ u1 357 0 % 4294967296 / 256 < 16777216 := by omega
  refine wp_g (by omega) ?_
  rw [tmd hz.1]
  refine wp_s ⟨⟨Int.emod_nonneg _ (by omega), Int.emod_lt_of_pos _ hm.1⟩, fun d hd => ?_⟩
  show u1 d = u d
  rw [h1, up_c hd]
/-- after an act: class and law hold the same situation again -/
def QA (N V : uS) (S : Int → uS) (f : Int → Int) (L E : Int) (B : Int → Int) (D : List Int) (q : Int × uS) : Prop := q.1 = 1 ∧ ∃ V' U' c', AG N V' U' S f c' L E B D q.2 ∧ PW N V' U' S f c' L E B D ∧ V' 0 0 ≤ V 0 0 + 4
theorem AG.of {U' : Int → uS} {c' : Int} (hP : PW N V' U' S f c' L E B D) (h1 : LN u N) (h2 : LR N u V') (hf : FC u w) (hc : CI N V' U' S f c' L E B D w) : AG N V' U' S f c' L E B D w :=
  ⟨hc, h1.k2 hP.1 (fun d d0 d1 => hf d (by omega) (Or.inr (by omega))), h2.k2 hP.1 hP.2.1.1.1 (fun d d0 d1 => hf d (by omega) (Or.inr (by omega)))⟩
theorem QA.of {U' : Int → uS} {c' : Int} (hP : PW N V' U' S f c' L E B D) (h1 : LN u N) (h2 : LR N u V') (hf : FC u w) (hc : CI N V' U' S f c' L E B D w) (ht : V' 0 0 ≤ V 0 0 + 4) : QA N V S f L E B D (1, w) := ⟨rfl, V', U', c', AG.of hP h1 h2 hf hc, hP, ht⟩
theorem QA.same (h : AG N V U S f c L E B D w) (hP : PW N V U S f c L E B D) : QA N V S f L E B D (1, w) := ⟨rfl, V, U, c, h, hP, by omega⟩
theorem wlevel {s : Int} (h : AG N V U S f c L E B D u) (hP : PW N V U S f c L E B D) (hs : 0 ≤ s ∧ s < N 0 0) : wp (xbd (f_L_draw 3 u) fun v31 u32 => xgd (InR v31) <| xlet (fun (s35 : Int) (u36 : uS) => xlet (u36 (pc s) 2) fun x6_37 => xlet (up u36 (pc s) 2 s35) fun u38 => xb0 (f_X9_setLevel s s35 u38) fun v39 u40 => xgd (InR v39 ∧ InR x6_37) <| if v39 = x6_37 then some ((1 : Int), u40) else some ((0 : Int), u40)) fun j34 => if v31 = 0 then xbd (f_L_draw 10 u32) fun v46 u47 => j34 v46 u47 else xbd (f_L_draw 200 u32) fun v44 u45 => j34 v44 u45) (QA N V S f L E B D) := by
  have hN := hP.1
  have hW := hP.2.1
  have n0 := hN.1
  have hVb := hW.1.1
  have hV := hVb
  obtain ⟨b0, b1, b2, bS, bI, bP, bE⟩ := hV
  have bs := bS s hs.1 (by omega)
  have hps := pc_e hs.1
  refine wp_b (wdraw (by decide)) (fun r u2 h2 => ?_)
  obtain ⟨r1, r2⟩ := h2
  have r1 : 0 ≤ r ∧ r < 3 := r1
  have r2 : ∀ d, d ≠ 357 → u2 d = u d := r2
  have A2 := h.l hP (w := u2) (fun d hd => r2 d (by omega))
  refine wp_g (by omega) ?_
  refine wp_l (fun j34 hj => ?_)
  have J : ∀ l z, 0 ≤ l → l < 200 → AG N V U S f c L E B D z → wp (j34 l z) (QA N V S f L E B D) := fun l z l0 l1 Az => by
    rw [hj]
    refine wp_l (fun x hx => ?_)
    have hx : x = V 1 s := hx.trans (Az.2.2.lv hs.1 hs.2)
    subst hx
    refine wp_l (fun z2 hz2 => ?_)
    have m2 : LR N z2 (up V 1 s l) := Az.2.2.st hN ⟨b1.2, b2.2⟩ 1 s l hz2 rfl (by unfold vl; omega) (by decide) rfl rfl (fun q => by omega)
    have c2 : CI N V U S f c L E B D z2 := Az.1.k (fun d hd => by rw [hz2, up_c (by omega)])
    have n2 : LN z2 N := Az.2.1.fr hN (FRn.rf.st hz2 (by unfold prot ncell; omega))
    have hP2 : PW N (up V 1 s l) (psh U c V) S f (pshc c) L E B D := pw_psh hP (wf_lev hW.1 ⟨l0, by omega⟩) (by rw [up_k (by decide)]; exact hW.2)
    refine wp_0 (cSetLevel c2 hP hs ⟨l0, by omega⟩) (fun w f1 c1 => ?_)
    refine wp_g (by omega) ?_
    refine wp_t rfl ?_
    exact wp_s (QA.of hP2 n2 m2 f1 c1 (by rw [up_k (by decide)]; omega))
  refine wp_i (fun cc => ?_) (fun cc => ?_)
  · refine wp_b (wdraw (by decide)) (fun l u3 h3 => ?_)
    have l1 : 0 ≤ l ∧ l < 10 := h3.1
    exact J l u3 l1.1 (by omega) (A2.l hP (fun d hd => h3.2 d (by omega)))
  · refine wp_b (wdraw (by decide)) (fun l u3 h3 => ?_)
    have l1 : 0 ≤ l ∧ l < 200 := h3.1
    exact J l u3 l1.1 (by omega) (A2.l hP (fun d hd => h3.2 d (by omega)))
theorem wmutes {s y : Int} {V1 : uS} (h : wp (f_X9_mute s u) (fun q => (q.1, q.2.1) = ((0 : Nat), y) ∧ FC u q.2.2 ∧ CI N V1 U S f c L E B D q.2.2)) : wp (f_L_mutes s u) (fun q => q.1 = y ∧ FC u q.2 ∧ CI N V1 U S f c L E B D q.2) := by
  obtain ⟨⟨g, r, x⟩, e, h1, h2, h3⟩ := h
  have hg : g = 0 := congrArg Prod.fst h1
  have hr : r = y := congrArg Prod.snd h1
  subst hg hr
  unfold f_L_mutes
  rw [e]
  exact wp_g (Or.inl rfl) (wp_s ⟨rfl, h2, h3⟩)
theorem emutes {s : Int} (h : f_X9_mute s u = some (3, 0, u)) : f_L_mutes s u = some (-3, u) := by
  unfold f_L_mutes
  rw [h]
  exact xgd_t (Or.inr rfl)
theorem wunmutes {s y : Int} {V1 : uS} (h : wp (f_X9_unmute s u) (fun q => (q.1, q.2.1) = ((0 : Nat), y) ∧ FC u q.2.2 ∧ CI N V1 U S f c L E B D q.2.2)) : wp (f_L_unmutes s u) (fun q => q.1 = y ∧ FC u q.2 ∧ CI N V1 U S f c L E B D q.2) := by
  obtain ⟨⟨g, r, x⟩, e, h1, h2, h3⟩ := h
  have hg : g = 0 := congrArg Prod.fst h1
  have hr : r = y := congrArg Prod.snd h1
  subst hg hr
  unfold f_L_unmutes
  rw [e]
  exact wp_g (Or.inl rfl) (wp_s ⟨rfl, h2, h3⟩)
theorem eunmutes {s : Int} (h : f_X9_unmute s u = some (3, 0, u)) : f_L_unmutes s u = some (-3, u) := by
  unfold f_L_unmutes
  rw [h]
  exact xgd_t (Or.inr rfl)
theorem wretracts {s y : Int} {V1 : uS} (h : wp (f_X9_retract s u) (fun q => (q.1, q.2.1) = ((0 : Nat), y) ∧ FC u q.2.2 ∧ CI N V1 U S f c L E B D q.2.2)) : wp (f_L_retracts s u) (fun q => q.1 = y ∧ FC u q.2 ∧ CI N V1 U S f c L E B D q.2) := by
  obtain ⟨⟨g, r, x⟩, e, h1, h2, h3⟩ := h
  have hg : g = 0 := congrArg Prod.fst h1
  have hr : r = y := congrArg Prod.snd h1
  subst hg hr
  unfold f_L_retracts
  rw [e]
  exact wp_g (Or.inl rfl) (wp_s ⟨rfl, h2, h3⟩)
theorem eretracts {s : Int} (h : f_X9_retract s u = some (3, 0, u)) : f_L_retracts s u = some (-3, u) := by
  unfold f_L_retracts
  rw [h]
  exact xgd_t (Or.inr rfl)
theorem wacts (h : AG N V U S f c L E B D u) (hP : PW N V U S f c L E B D) (hn2 : 1 ≤ N 0 0) (ht : V 0 0 ≤ 390) : wp (f_L_acts u) (QA N V S f L E B D) := by
  have hN := hP.1
  have hW := hP.2.1
  have n0 := hN.1
  have n12 := hN.2.2.2.2.2.2.2.2.2.2.2.2.1
  have hVb := hW.1.1
  have hV := hVb
  obtain ⟨b0, b1, b2, bS, bI, bP, bE⟩ := hV
  have e6 := h.2.1.1.1
  unfold f_L_acts
  rw [e6]
  refine wp_b (wdraw (by omega)) (fun s u2 h2 => ?_)
  obtain ⟨hs, k2⟩ := h2
  have hs : 0 ≤ s ∧ s < N 0 0 := hs
  have k2 : ∀ d, d ≠ 357 → u2 d = u d := k2
  have A2 := h.l hP (w := u2) (fun d hd => k2 d (by omega))
  have bs := bS s hs.1 (by omega)
  have hps := pc_e hs.1
  obtain ⟨x1, x2⟩ := A2.2.1.px hs.1 hs.2
  refine wp_g (by omega) ?_
  refine wp_g x1 ?_
  refine wp_L ?_
  rw [x2]
  refine wp_b (wdraw (by decide)) (fun v8 u9 h9 => ?_)
  obtain ⟨hv, k9⟩ := h9
  have hv : 0 ≤ v8 ∧ v8 < 12 := hv
  have k9 : ∀ d, d ≠ 357 → u9 d = u2 d := k9
  have A9 := A2.l hP (w := u9) (fun d hd => k9 d (by omega))
  refine wp_g (by omega) ?_
  refine wp_i (fun cc => ?_) (fun cc => ?_)
  · -- ticks
    refine wp_b (wdraw (by decide)) (fun v12 u13 h13 => ?_)
    obtain ⟨hv12, k13⟩ := h13
    have hv12 : 0 ≤ v12 ∧ v12 < 4 := hv12
    have k13 : ∀ d, d ≠ 357 → u13 d = u9 d := k13
    have A13 := A9.l hP (w := u13) (fun d hd => k13 d (by omega))
    refine wp_l (fun t ht1 => ?_)
    have tb : 1 ≤ t ∧ t ≤ 4 := by omega
    refine wp_l (fun x6 hx6 => ?_)
    have hx6 : x6 = V 0 1 := hx6.trans A13.2.2.n
    refine wp_l (fun j16 h16 => ?_)
    refine wl2 (fun i v => FRn u13 v ∧ 0 ≤ i ∧ i ≤ t ∧ ∃ W, WFc N W ∧ LR N v W ∧ W 0 0 = V 0 0 + i ∧ tks N (t - i).toNat W = tks N t.toNat V) (fun i _ => (t - i).toNat) (fun go i v hI hg => ?_) 5 _ _ ⟨FRn.rf, by omega, by omega, V, hW.1, A13.2.2, by omega, by rw [Int.sub_zero]⟩ (by omega)
    obtain ⟨vf, i0, i1, W, hWw, hM, hT, htk⟩ := hI
    have hnv := A13.2.1.fr hN vf
    have cv : CI N V U S f c L E B D v := A13.1.k (fun d hd => vf.c (Or.inl hd))
    unfold s_L_acts_298
    refine wp_g (by omega) ?_
    refine wp_i (fun cc => ?_) (fun cc => ?_)
    · have hi : i = t := by omega
      subst hi
      rw [show i - i = 0 by omega] at htk
      have htk : W = tks N i.toNat V := htk
      subst htk
      rw [h16]
      have hP2 : PW N (tks N i.toNat V) (psh U c V) S f (pshc c) L E B D := pw_psh hP hWw (by omega)
      refine wp_0 (cPass cv hP (by omega) (by omega)) (fun w f1 c1 => ?_)
      have A1 := AG.of hP2 hnv hM f1 c1
      have wb := hWw.1.2.1
      rw [A1.2.2.n, hx6]
      refine wp_g (by omega) ?_
      refine wp_t rfl ?_
      exact wp_s (QA.of hP2 hnv hM f1 c1 (by omega))
    · rw [show (t - i).toNat = (t - (i + 1)).toNat + 1 by omega] at htk
      have htk : tks N (t - (i + 1)).toNat (tk N W) = tks N t.toNat V := htk
      refine wp_b (wpass hN hnv hWw hM cv.mk (by omega)) (fun r w hw => ?_)
      refine hg _ _ ⟨vf.tr hw.1, by omega, by omega, tk N W, wf_tk hN hWw (by omega), hw.2, by rw [tk_t]; omega, htk⟩ (by omega)
  · refine wp_i (fun cc => ?_) (fun cc => ?_)
    · exact wlevel A9 hP hs
    · refine wp_i (fun cc => ?_) (fun cc => ?_)
      · exact wlevel A9 hP hs
      · refine wp_i (fun cc => ?_) (fun cc => ?_)
        · exact wlevel A9 hP hs
        · refine wp_i (fun cc => ?_) (fun cc => ?_)
          · exact wlevel A9 hP hs
          · refine wp_i (fun cc => ?_) (fun cc => ?_)
            · -- muting
              refine wp_l (fun x5 hx5 => ?_)
              have hx5 : x5 = V 6 s := hx5.trans (A9.2.2.mu hs.1 hs.2)
              subst hx5
              refine wp_g (by omega) ?_
              refine wp_l (fun j105 hj => ?_)
              refine wp_i (fun cc => ?_) (fun cc => ?_)
              · have h6 : V 6 s = 0 := by assumption
                have hP2 : PW N (mt N V s) (psh U c V) S f (pshc c) L E B D := pw_psh hP (wf_mt hN hW.1 ⟨hs.1, by omega⟩) (by rw [mt_q (by decide) (by decide) (by decide) (by decide) (by decide)]; exact hW.2)
                have mb : 0 ≤ mtn N (mt1 V s) (V 0 2) ∧ mtn N (mt1 V s) (V 0 2) ≤ 20 := by
                  have := @sg_le (fun e => if mt1 V s 14 e = 0 ∧ pk (mt1 V s) e < N 0 12 then 1 else 0) 1 (V 0 2).toNat (fun i i0 i1 => by
                    show 0 ≤ (if mt1 V s 14 i = 0 ∧ pk (mt1 V s) i < N 0 12 then (1 : Int) else 0) ∧ (if mt1 V s 14 i = 0 ∧ pk (mt1 V s) i < N 0 12 then (1 : Int) else 0) ≤ 1
                    split <;> omega)
                  unfold mtn
                  omega
                refine wp_b (wmute hN A9.2.1 hW.1 A9.2.2 hs A9.1.mk) (fun r w hw => ?_)
                obtain ⟨q1, q2, q3⟩ := hw
                have q1 : r = mtn N (mt1 V s) (V 0 2) := q1
                subst q1
                have cw : CI N V U S f c L E B D w := A9.1.k (fun d hd => q2.c (Or.inl hd))
                rw [hj]
                refine wp_b (wmutes (cMute cw hP hs h6)) (fun r2 w2 hw2 => ?_)
                obtain ⟨z1, z2, z3⟩ := hw2
                have z1 : r2 = mtn N (mt1 V s) (V 0 2) := z1
                subst z1
                refine wp_g (by omega) ?_
                refine wp_t rfl ?_
                exact wp_s (QA.of hP2 (A9.2.1.fr hN q2) q3 z2 z3 (by rw [mt_q (by decide) (by decide) (by decide) (by decide) (by decide)]; omega))
              · rw [hj]
                refine wp_e (emutes (cMuteN2 A9.1 hP hs (by assumption))) ?_
                refine wp_g (by decide) ?_
                refine wp_t rfl ?_
                exact wp_s (QA.same A9 hP)
            · refine wp_i (fun cc => ?_) (fun cc => ?_)
              · -- unmuting
                have mu := A9.2.2.mu hs.1 hs.2
                rw [mu]
                refine wp_g (by omega) ?_
                refine wp_l (fun j118 hj => ?_)
                refine wp_i (fun cc => ?_) (fun cc => ?_)
                · have h6 : V 6 s = 0 := by assumption
                  rw [hj]
                  refine wp_l (fun u121 h121 => ?_)
                  have m2 : LR N u121 V := (A9.2.2.st hN ⟨b1.2, b2.2⟩ 6 s 0 h121 rfl (by unfold vl; omega) (by decide) rfl rfl (fun q => by omega)).cg rfl rfl rfl (fun _ => rfl) (fun j i hv => by
                    by_cases hq : j = 6 ∧ i = s
                    · obtain ⟨rfl, rfl⟩ := hq
                      rw [up_s]; exact h6.symm
                    · exact up_n (by omega))
                  have A121 : AG N V U S f c L E B D u121 := ⟨A9.1.k (fun d hd => by rw [h121, up_c (by omega)]), A9.2.1.fr hN (FRn.rf.st h121 (by unfold prot ncell; omega)), m2⟩
                  refine wp_e (eunmutes (cUnmuteN2 A121.1 hP hs (by omega))) ?_
                  refine wp_g (by decide) ?_
                  refine wp_t rfl ?_
                  exact wp_s (QA.same A121 hP)
                · have h6 : V 6 s = 1 := by omega
                  have rb := rto_b hN hVb (s := s) (by omega)
                  refine wp_e (qratio hN A9.2.1 hVb A9.2.2 hs (by omega)) ?_
                  rw [hj]
                  refine wp_l (fun u121 h121 => ?_)
                  have m2 : LR N u121 (up V 6 s 0) := A9.2.2.st hN ⟨b1.2, b2.2⟩ 6 s 0 h121 rfl (by unfold vl; omega) (by decide) rfl rfl (fun q => by omega)
                  have c2 : CI N V U S f c L E B D u121 := A9.1.k (fun d hd => by rw [h121, up_c (by omega)])
                  have n2 : LN u121 N := A9.2.1.fr hN (FRn.rf.st h121 (by unfold prot ncell; omega))
                  have hP2 : PW N (up V 6 s 0) (psh U c V) S f (pshc c) L E B D := pw_psh hP (wf_unm hW.1) (by rw [up_k (by decide)]; exact hW.2)
                  refine wp_b (wunmutes (cUnmute c2 hP hs h6)) (fun r2 w2 hw2 => ?_)
                  obtain ⟨z1, z2, z3⟩ := hw2
                  have z1 : r2 = rto N V s := z1
                  subst z1
                  refine wp_g (by omega) ?_
                  refine wp_t rfl ?_
                  exact wp_s (QA.of hP2 n2 m2 z2 z3 (by rw [up_k (by decide)]; omega))
              · refine wp_i (fun cc => ?_) (fun cc => ?_)
                · -- retracting
                  refine wp_b (wdraw (by decide)) (fun e u131 h131 => ?_)
                  obtain ⟨he, k131⟩ := h131
                  have he : 0 ≤ e ∧ e < 20 := he
                  have k131 : ∀ d, d ≠ 357 → u131 d = u9 d := k131
                  have A1 := A9.l hP (w := u131) (fun d hd => k131 d (by omega))
                  rw [A1.2.2.e]
                  refine wp_g (by omega) ?_
                  refine wp_i (fun cc => ?_) (fun cc => ?_)
                  · have he2 : 0 ≤ e ∧ e < V 0 2 := by omega
                    have be := bE e he2.1 he2.2
                    have pb := pk_b V e b1.1
                    have re := A1.2.2.re he2.1 he2.2
                    refine wp_g (by omega) ?_
                    rw [re]
                    refine wp_g (by omega) ?_
                    refine wp_l (fun j136 hj => ?_)
                    refine wp_i (fun cc => ?_) (fun cc => ?_)
                    · have h14 : V 14 e = 0 := by assumption
                      refine wp_e (qsize hVb A1.2.2 (by omega)) ?_
                      rw [hj]
                      refine wp_g (by omega) ?_
                      rw [re]
                      refine wp_g (by omega) ?_
                      refine wp_l (fun j141 hj2 => ?_)
                      refine wp_t h14 ?_
                      have hP2 : PW N (rtr V e) (psh U c V) S f (pshc c) L E B D := pw_psh hP (wf_rtr hW.1 he2) (show V 0 0 ≤ 9999 from hW.2)
                      refine wp_b (wretract hN hVb A1.2.2 he2) (fun r w hw => ?_)
                      have cw : CI N V U S f c L E B D w := A1.1.k (fun d hd => hw.1 d (by omega) (by omega))
                      have nw : LN w N := A1.2.1.fr hN (fun d i hd => congrFun (hw.1 d (fun q => by unfold prot ncell at hd; omega) (fun q => by unfold prot ncell at hd; omega)) i)
                      rw [hj2]
                      refine wp_b (wretracts (cRetract cw hP he2 (by omega))) (fun r2 w2 hw2 => ?_)
                      obtain ⟨z1, z2, z3⟩ := hw2
                      have z1 : r2 = pk V e := z1
                      subst z1
                      refine wp_g (by omega) ?_
                      refine wp_t rfl ?_
                      exact wp_s (QA.of hP2 nw hw.2 z2 z3 (show V 0 0 ≤ V 0 0 + 4 by omega))
                    · have h14 : V 14 e = 1 := by omega
                      rw [hj]
                      refine wp_g (by omega) ?_
                      rw [re]
                      refine wp_g (by omega) ?_
                      refine wp_l (fun j141 hj2 => ?_)
                      refine wp_f (by omega) ?_
                      rw [hj2]
                      refine wp_e (eretracts (cRetractN2 A1.1 hP he2 h14)) ?_
                      refine wp_g (by decide) ?_
                      refine wp_t rfl ?_
                      exact wp_s (QA.same A1 hP)
                  · exact wp_s (QA.same A1 hP)
                · exfalso; omega
end LC
