/-! class and law's network agree: picks, stations, all -/
section LB
variable {u v w N V : uS} {U S : Int → uS} {f : Int → Int} {c L E : Int} {B : Int → Int} {D : List Int}
theorem wag_picks {j : uS → Option (Int × uS)} (h : AG N V U S f c L E B D u) (hP : PW N V U S f c L E B D)
    (hj : ∀ w, AG N V U S f c L E B D w → wp (j w) (fun q => q.1 = 1 ∧ AG N V U S f c L E B D q.2)) : wp (xl2 (s_L_agrees_218 j) 61 0 u) (fun q => q.1 = 1 ∧ AG N V U S f c L E B D q.2) := by
  have hN := hP.1
  have n0 := hN.1
  have hVb := hP.2.1.1.1
  have hV := hVb
  obtain ⟨b0, b1, b2, bS, bI, bP, bE⟩ := hV
  refine wl2 (fun p v => AG N V U S f c L E B D v ∧ 0 ≤ p ∧ p ≤ V 0 1) (fun p _ => (V 0 1 - p).toNat) (fun go p v hI hg => ?_) 61 _ _ ⟨h, by omega, by omega⟩ (by omega)
  obtain ⟨hA, p0, p1⟩ := hI
  have en := hA.2.2.n
  unfold s_L_agrees_218
  rw [en]
  refine wp_g (by omega) ?_
  refine wp_i (fun cc => ?_) (fun cc => ?_)
  · exact hj v hA
  · have hp : 0 ≤ p ∧ p < V 0 1 := by omega
    have bp := bP p hp.1 hp.2
    have ip : InR p := ⟨by omega, by omega⟩
    obtain ⟨x1, x2⟩ := hA.2.2.px hp.1 hp.2 b1.2
    refine wp_g (by omega) ?_
    refine wp_g (by omega) ?_
    refine wp_g x1 ?_
    refine wp_L ?_
    rw [x2]
    refine wp_0 (aPick (y := V 8 p) hA hP ip (by decide) (by unfold rPick; rw [if_pos hp, if_pos rfl])) (fun w1 f1 c1 => ?_)
    have A1 := hA.cl hP f1 c1
    rw [A1.2.2.ps hp.1 hp.2]
    refine wp_g (by omega) ?_
    refine wp_t rfl ?_
    refine wp_0 (aPick (y := V 9 p) A1 hP ip (by decide) (by unfold rPick; rw [if_pos hp, if_neg (by decide), if_pos rfl])) (fun w2 f2 c2 => ?_)
    have A2 := A1.cl hP f2 c2
    rw [A2.2.2.pt hp.1 hp.2]
    refine wp_g (by omega) ?_
    refine wp_t rfl ?_
    refine wp_0 (aPick (y := V 10 p) A2 hP ip (by decide) (by unfold rPick; rw [if_pos hp, if_neg (by decide), if_neg (by decide), if_pos rfl])) (fun w3 f3 c3 => ?_)
    have A3 := A2.cl hP f3 c3
    rw [A3.2.2.pp hp.1 hp.2]
    refine wp_g (by omega) ?_
    refine wp_t rfl ?_
    refine wp_0 (aPick (y := V 11 p) A3 hP ip (by decide) (by unfold rPick; rw [if_pos hp, if_neg (by decide), if_neg (by decide), if_neg (by decide), if_pos rfl])) (fun w4 f4 c4 => ?_)
    have A4 := A3.cl hP f4 c4
    rw [A4.2.2.pe hp.1 hp.2]
    refine wp_g (by omega) ?_
    refine wp_t rfl ?_
    refine wp_0 (aPick (y := V 12 p) A4 hP ip (by decide) (by unfold rPick; rw [if_pos hp, if_neg (by decide), if_neg (by decide), if_neg (by decide), if_neg (by decide), if_pos rfl])) (fun w5 f5 c5 => ?_)
    have A5 := A4.cl hP f5 c5
    rw [A5.2.2.pr hp.1 hp.2]
    refine wp_g (by omega) ?_
    refine wp_l (fun j128 h128 => ?_)
    have J : wp (j128 (V 12 p) w5) (fun q => q.1 = 1 ∧ AG N V U S f c L E B D q.2) := by
      rw [h128]
      refine wp_g (by omega) ?_
      refine wp_t rfl ?_
      refine wp_0 (aFits (y := if fit N V p 0 then 1 else 0) A5 hP ip (by decide) (by unfold rFits; rw [if_pos ⟨hp, by omega⟩])) (fun w6 f6 c6 => ?_)
      have A6 := A5.cl hP f6 c6
      obtain ⟨x3, x4⟩ := A6.2.2.px (p := 0) (by decide) (by omega) b1.2
      refine wp_g x3 ?_
      refine wp_L ?_
      rw [x4]
      refine wp_e (qfit hN A6.2.1 hVb A6.2.2 hp ⟨by decide, by omega⟩) ?_
      have hi : InR (if fit N V p 0 then (1 : Int) else 0) := by split <;> decide
      refine wp_g ⟨hi, hi⟩ ?_
      refine wp_t rfl ?_
      exact hg _ _ ⟨A6, by omega, by omega⟩ (by omega)
    refine wp_i (fun cc => ?_) (fun cc => ?_)
    · rw [show V 12 p = 0 by assumption] at J
      exact J
    · rw [show V 12 p = 1 by omega] at J
      exact J
theorem wag_stations {j : Int → uS → Option (Int × uS)} (h : AG N V U S f c L E B D u) (hP : PW N V U S f c L E B D) (ht : V 0 0 < 400)
    (hj : ∀ w, AG N V U S f c L E B D w → wp (j (rTrig N V) w) (fun q => q.1 = 1 ∧ AG N V U S f c L E B D q.2)) : wp (xl3 (s_L_agrees_41 j) 9 0 0 u) (fun q => q.1 = 1 ∧ AG N V U S f c L E B D q.2) := by
  have hN := hP.1
  have hVb := hP.2.1.1.1
  have hV := hVb
  have n0 := hN.1
  have n8 := hN.2.2.2.2.2.2.2.2.1
  have n9 := hN.2.2.2.2.2.2.2.2.2.1
  obtain ⟨b0, b1, b2, bS, bI, bP, bE⟩ := hV
  refine wl3 (fun k s v => AG N V U S f c L E B D v ∧ 0 ≤ s ∧ s ≤ N 0 0 ∧ k = sg (fun s => V 5 s) s.toNat) (fun _ s _ => (N 0 0 - s).toNat) (fun go k s v hI hg => ?_) 9 _ _ _ ⟨h, by omega, by omega, rfl⟩ (by omega)
  obtain ⟨hA, s0, s1, rfl⟩ := hI
  have e6 := hA.2.1.1.1
  unfold s_L_agrees_41
  rw [e6]
  refine wp_g (by omega) ?_
  refine wp_i (fun cc => ?_) (fun cc => ?_)
  · rw [show s = N 0 0 by omega]
    exact hj v hA
  · have hs : 0 ≤ s ∧ s < N 0 0 := by omega
    have bs := bS s s0 (by omega)
    have is : InR s := ⟨by omega, by omega⟩
    have l8 := lat_b hVb (s := s) (by omega) (m := N 0 8) (by omega)
    have l9 := lat_b hVb (s := s) (by omega) (m := N 0 9) (by omega)
    have rb := rto_b hN hVb (s := s) (by omega)
    have hp := pc_e s0
    have bn := hN.2.2.2.2.2.2.2.2.2.2.2.2.2.2.2.1 s s0 hs.2
    obtain ⟨x1, x2⟩ := hA.2.1.px s0 hs.2
    have on := hA.2.2.on s0 hs.2
    refine wp_g (by omega) ?_
    refine wp_g (by omega) ?_
    refine wp_g x1 ?_
    refine wp_L ?_
    rw [x2, on]
    refine wp_g (by omega) ?_
    refine wp_l (fun j157 h157 => ?_)
    have J : ∀ k2, k2 = sg (fun s => V 5 s) (s + 1).toNat → wp (j157 k2 v) (fun q => q.1 = 1 ∧ AG N V U S f c L E B D q.2) := fun k2 hk2 => by
      rw [h157]
      refine wp_g hA.1.mk ?_
      refine wp_l (fun u162 h162 => ?_)
      have g162 : ∀ d, d ≠ 356 → u162 d = v d := fun d hd => by rw [h162, upA_c hd]
      refine wp_l (fun u164 h164 => ?_)
      have g164 : ∀ d, d ≠ 356 → u164 d = v d := fun d hd => by rw [h164, up_c hd]; exact g162 d hd
      refine wp_l (fun u165 h165 => ?_)
      have g165 : ∀ d, d ≠ 356 → u165 d = v d := fun d hd => by rw [h165, up_c hd]; exact g164 d hd
      refine wp_l (fun u166 h166 => ?_)
      have g166 : ∀ d, d ≠ 356 → u166 d = v d := fun d hd => by rw [h166, up_c hd]; exact g165 d hd
      have A166 : AG N V U S f c L E B D u166 := hA.l hP (fun d hd => g166 d (by omega))
      have e17 := A166.2.1.1.2.2.2.2.2.2.2.2.1
      rw [e17]
      refine wp_e (qsum hN A166.2.1 hVb A166.2.2 hs (by omega) ht) ?_
      refine wp_l (fun u169 h169 => ?_)
      have g169 : ∀ d, d ≠ 356 → u169 d = v d := fun d hd => by rw [h169, up_c hd]; exact g166 d hd
      have A169 : AG N V U S f c L E B D u169 := hA.l hP (fun d hd => g169 d (by omega))
      have e18 := A169.2.1.1.2.2.2.2.2.2.2.2.2.1
      rw [e18]
      refine wp_e (qsum hN A169.2.1 hVb A169.2.2 hs (by omega) ht) ?_
      refine wp_l (fun u172 h172 => ?_)
      have g172 : ∀ d, d ≠ 356 → u172 d = v d := fun d hd => by rw [h172, up_c hd]; exact g169 d hd
      have A172 : AG N V U S f c L E B D u172 := hA.l hP (fun d hd => g172 d (by omega))
      refine wp_e (qratio hN A172.2.1 hVb A172.2.2 hs ht) ?_
      refine wp_l (fun u175 h175 => ?_)
      have g175 : ∀ d, d ≠ 356 → u175 d = v d := fun d hd => by rw [h175, up_c hd]; exact g172 d hd
      have A175 : AG N V U S f c L E B D u175 := hA.l hP (fun d hd => g175 d (by omega))
      rw [A175.2.2.on s0 hs.2]
      refine wp_g (by omega) ?_
      refine wp_l (fun j177 h177 => ?_)
      have J177 : wp (j177 (V 5 s) u175) (fun q => q.1 = 1 ∧ AG N V U S f c L E B D q.2) := by
        rw [h177]
        refine wp_l (fun u181 h181 => ?_)
        have g181 : ∀ d, d ≠ 356 → u181 d = v d := fun d hd => by rw [h181, up_c hd]; exact g175 d hd
        have A181 : AG N V U S f c L E B D u181 := hA.l hP (fun d hd => g181 d (by omega))
        rw [A181.2.2.mu s0 hs.2]
        refine wp_g (by omega) ?_
        refine wp_l (fun j183 h183 => ?_)
        have J183 : wp (j183 (V 6 s) u181) (fun q => q.1 = 1 ∧ AG N V U S f c L E B D q.2) := by
          rw [h183]
          refine wp_l (fun u187 h187 => ?_)
          have g187 : ∀ d, d ≠ 356 → u187 d = v d := fun d hd => by rw [h187, up_c hd]; exact g181 d hd
          have A187 : AG N V U S f c L E B D u187 := hA.l hP (fun d hd => g187 d (by omega))
          have y0 : u162 (pc s) 0 = N 1 s := by rw [g162 _ (by omega)]; exact (hA.2.1.2.1 s s0 hs.2).2.1
          have y1 : u164 (pc s) 1 = N 2 s := by rw [g164 _ (by omega)]; exact (hA.2.1.2.1 s s0 hs.2).2.2
          have y2 : u165 (pc s) 2 = V 1 s := by rw [g165 _ (by omega)]; exact hA.2.2.lv s0 hs.2
          have due : ∀ x, 0 ≤ x → x < 8 → rStation N V s x = (0, u187 356 x) ∧ InR (u187 356 x) := fun x z0 z1 => by
            have hx : x = 0 ∨ x = 1 ∨ x = 2 ∨ x = 3 ∨ x = 4 ∨ x = 5 ∨ x = 6 ∨ x = 7 := by omega
            unfold rStation
            rw [if_pos hs]
            rcases hx with rfl | rfl | rfl | rfl | rfl | rfl | rfl | rfl
            · have e : u187 356 0 = N 1 s := by rw [h187, up_j (by decide), h181, up_j (by decide), h175, up_j (by decide), h172, up_j (by decide), h169, up_j (by decide), h166, up_j (by decide), h165, up_j (by decide), h164, up_s]; exact y0
              rw [e]; exact ⟨rfl, by omega⟩
            · have e : u187 356 1 = N 2 s := by rw [h187, up_j (by decide), h181, up_j (by decide), h175, up_j (by decide), h172, up_j (by decide), h169, up_j (by decide), h166, up_j (by decide), h165, up_s]; exact y1
              rw [e]; exact ⟨rfl, by omega⟩
            · have e : u187 356 2 = V 1 s := by rw [h187, up_j (by decide), h181, up_j (by decide), h175, up_j (by decide), h172, up_j (by decide), h169, up_j (by decide), h166, up_s]; exact y2
              rw [e]; exact ⟨rfl, by omega⟩
            · have e : u187 356 3 = lat V s (N 0 8) := by rw [h187, up_j (by decide), h181, up_j (by decide), h175, up_j (by decide), h172, up_j (by decide), h169, up_s]
              rw [e]; exact ⟨rfl, by omega⟩
            · have e : u187 356 4 = lat V s (N 0 9) := by rw [h187, up_j (by decide), h181, up_j (by decide), h175, up_j (by decide), h172, up_s]
              rw [e]; exact ⟨rfl, by omega⟩
            · have e : u187 356 5 = rto N V s := by rw [h187, up_j (by decide), h181, up_j (by decide), h175, up_s]
              rw [e]; exact ⟨rfl, by omega⟩
            · have e : u187 356 6 = V 5 s := by rw [h187, up_j (by decide), h181, up_s]
              rw [e]; exact ⟨rfl, by omega⟩
            · have e : u187 356 7 = V 6 s := by rw [h187, up_s]
              rw [e]; exact ⟨rfl, by omega⟩
          refine wl2 (fun x z => AG N V U S f c L E B D z ∧ z 356 = u187 356 ∧ 0 ≤ x ∧ x ≤ 8) (fun x _ => (8 - x).toNat) (fun go2 x z hI hg2 => ?_) 9 _ _ ⟨A187, rfl, by omega, by omega⟩ (by omega)
          obtain ⟨Az, z9, x0, x8⟩ := hI
          unfold s_L_agrees_170
          refine wp_g (by omega) ?_
          refine wp_i (fun cc => ?_) (fun cc => ?_)
          · exact hg _ _ _ ⟨Az, by omega, by omega, hk2⟩ (by omega)
          · obtain ⟨d1, d2⟩ := due x x0 (by omega)
            refine wp_g (by omega) ?_
            refine wp_0 (aStation Az hP is ⟨by omega, by omega⟩ d1) (fun w1 f1 c1 => ?_)
            have A1 := Az.cl hP f1 c1
            have k9 : w1 356 = u187 356 := (f1 356 (by decide) (Or.inr (by decide))).trans z9
            rw [k9]
            refine wp_g (by omega) ?_
            refine wp_g ⟨d2, d2⟩ ?_
            refine wp_t rfl ?_
            exact hg2 _ _ ⟨A1, k9, by omega, by omega⟩ (by omega)
        refine wp_i (fun cc => ?_) (fun cc => ?_)
        · rw [show V 6 s = 0 by assumption] at J183
          exact J183
        · rw [show V 6 s = 1 by omega] at J183
          exact J183
      refine wp_i (fun cc => ?_) (fun cc => ?_)
      · rw [show V 5 s = 0 by assumption] at J177
        exact J177
      · rw [show V 5 s = 1 by omega] at J177
        exact J177
    refine wp_i (fun cc => ?_) (fun cc => ?_)
    · refine J _ ?_
      rw [sg_s s0]
      show _ = _ + V 5 s
      omega
    · refine J _ ?_
      rw [sg_s s0]
      show _ = _ + V 5 s
      omega
theorem wagrees (h : AG N V U S f c L E B D u) (hP : PW N V U S f c L E B D) (h16 : nds N ≤ 16) (ht : V 0 0 < 400) : wp (f_L_agrees u) (fun q => q.1 = 1 ∧ AG N V U S f c L E B D q.2) := by
  have hN := hP.1
  have hVb := hP.2.1.1.1
  have hV := hVb
  have n0 := hN.1
  obtain ⟨b0, b1, b2, bS, bI, bP, bE⟩ := hV
  have et : f_X9_tick u = some (V 0 0, u) := by
    have e : u 54 0 = V 0 0 := h.1.2.2.1.2.1.t
    show some (u 54 0, u) = _
    rw [e]
  have tb : 0 ≤ rTrig N V ∧ rTrig N V ≤ 8 := by
    have := @sg_le (fun s => V 5 s) 1 (N 0 0).toNat (fun i i0 i1 => (bS i i0 (by omega)).2.1)
    unfold rTrig
    omega
  have lb : 0 ≤ lv V ∧ lv V ≤ 20 := by
    have := @sg_le (fun e => if V 14 e = 1 then 0 else 1) 1 (V 0 2).toNat (fun i i0 i1 => by
      show 0 ≤ (if V 14 i = 1 then (0 : Int) else 1) ∧ (if V 14 i = 1 then (0 : Int) else 1) ≤ 1
      split <;> omega)
    unfold lv
    omega
  unfold f_L_agrees
  refine wp_e et ?_
  rw [h.2.2.t]
  refine wp_g (by omega) ?_
  refine wp_t rfl ?_
  refine wp_0 (aSize (y := V 0 1) h hP (by decide) rfl) (fun w1 f1 c1 => ?_)
  have A1 := h.cl hP f1 c1
  rw [A1.2.2.n]
  refine wp_g (by omega) ?_
  refine wp_t rfl ?_
  refine wp_0 (aSize (y := V 0 2) A1 hP (by decide) rfl) (fun w2 f2 c2 => ?_)
  have A2 := A1.cl hP f2 c2
  rw [A2.2.2.e]
  refine wp_g (by omega) ?_
  refine wp_t rfl ?_
  refine wp_L ?_
  refine wag_stations A2 hP ht (fun w3 A3 => ?_)
  refine wp_e (cTrig A3.1 hP) ?_
  refine wp_g (by omega) ?_
  refine wp_t rfl ?_
  refine wp_L ?_
  refine wag_picks A3 hP (fun w4 A4 => ?_)
  refine wp_L ?_
  refine wag_events A4 hP h16 (fun w5 A5 => ?_)
  refine wp_0 (aSize (y := lv V) A5 hP (by decide) rfl) (fun w6 f6 c6 => ?_)
  have A6 := A5.cl hP f6 c6
  refine wp_g (by omega) ?_
  refine wp_t rfl ?_
  exact wp_s ⟨rfl, A6⟩
end LB
