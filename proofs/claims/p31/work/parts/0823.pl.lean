/-! a network of the law's is played: the class agrees throughout -/
section PL
variable {u w N V M : uS} {U S : Int → uS} {f : Int → Int} {c L E : Int} {B : Int → Int} {D : List Int}
theorem CI.k38 (h : CI N V U S f c L E B D u) (hw : ∀ d, d < 264 → d ≠ 37 → d ≠ 38 → w d = u d) : CI N V U S f c L E B D w := by
  have c1 : CI N V U S f c L E B D (fun d => if d = 37 ∨ d = 38 then w d else u d) := h.tx (fun d _ a b _ => by
    show (if d = 37 ∨ d = 38 then w d else u d) = u d
    exact if_neg (by omega))
  refine c1.k (fun d hd => ?_)
  show w d = (if d = 37 ∨ d = 38 then w d else u d)
  by_cases h1 : d = 37 ∨ d = 38
  · rw [if_pos h1]
  · rw [if_neg h1]; exact hw d hd (by omega) (by omega)
theorem LN.x (h : LN u N) (hN : NWF N) (hw : ∀ c, 264 ≤ c → c < 287 → w c = u c) : LN w N := by
  obtain ⟨n0, -⟩ := hN
  unfold LN
  rw [hw 264 (by decide) (by decide), hw 265 (by decide) (by decide), hw 269 (by decide) (by decide), hw 270 (by decide) (by decide)]
  refine ⟨h.1, fun s s0 s1 => ?_, h.2.2⟩
  have := pc_e s0
  rw [hw (pc s) (by omega) (by omega)]
  exact h.2.1 s s0 s1
theorem LR.x (h : LR N u V) (hN : NWF N) (hV : WFb N V) (hw : ∀ c, (264 ≤ c ∧ c < 287) ∨ (294 ≤ c ∧ c < 354) → w c = u c) : LR N w V := by
  obtain ⟨n0, -⟩ := hN
  obtain ⟨b0, b1, b2, -⟩ := hV
  obtain ⟨h1, h2, h3, h4⟩ := h
  refine ⟨h1.fr n0.2 b1.2 b2.2 (fun c i hc => by rw [hw c (by unfold lcell at hc; omega)]), fun s t s0 s1 => ?_, fun p => ?_, fun e => ?_⟩
  · have := pc_e s0
    rw [hw (pc s + 1) (by omega)]
    exact h2 s t s0 s1
  · rw [hw 266 (by decide)]; exact h3 p
  · rw [hw 267 (by decide)]; exact h4 e
theorem aLadder {x : Int} (h : AG N V U S f c L E B D u) (hP : PW N V U S f c L E B D) (hx : 0 ≤ x ∧ x ≤ 99999) : wp (f_X9_ladder x u) (fun q => (q.1, q.2.1) = ((0 : Nat), rung N x) ∧ FC u q.2.2 ∧ CI N V U S f c L E B D q.2.2) := by
  have e : rLadder N x = (0, rung N x) := if_pos hx
  rw [← e]; exact cLadder h.1 hP (by omega)
theorem aTravel {m s : Int} (h : AG N V U S f c L E B D u) (hP : PW N V U S f c L E B D) (hm : 0 ≤ m ∧ m < nds N) (hs : 0 ≤ s ∧ s < N 0 0) : wp (f_X9_travel m s u) (fun q => (q.1, q.2.1) = ((0 : Nat), tvN N m s) ∧ FC u q.2.2 ∧ CI N V U S f c L E B D q.2.2) := by
  have nd := nds_b hP.1
  have n0 := hP.1.1
  have e : rTravel N m s = (0, tvN N m s) := if_pos ⟨hm, hs⟩
  rw [← e]; exact cTravel h.1 hP (by omega) (by omega)
theorem aBetween {a b : Int} (h : AG N V U S f c L E B D u) (hP : PW N V U S f c L E B D) (ha : 0 ≤ a ∧ a < N 0 0) (hb : 0 ≤ b ∧ b < N 0 0) : wp (f_X9_between a b u) (fun q => (q.1, q.2.1) = ((0 : Nat), tvS N a b) ∧ FC u q.2.2 ∧ CI N V U S f c L E B D q.2.2) := by
  have n0 := hP.1.1
  have e : rBetween N a b = (0, tvS N a b) := if_pos ⟨ha, hb⟩
  rw [← e]; exact cBetween h.1 hP (by omega) (by omega)
theorem wp_0s {β : Type} {o : Option (Nat × Int × uS)} {k : Int → uS → Option β} {Q : β → Prop} {r : Int} (h : o = some (0, r, w)) (kk : wp (k r w) Q) : wp (xb0 o k) Q := by rw [h]; exact kk
/-- between networks -/
def QP (q : Int × uS) : Prop := q.1 = 1 ∧ ∃ N V U S f c E B D, CI N V U S f c 0 E B D q.2 ∧ PW N V U S f c 0 E B D
/-- behind the forty acts -/
def j_end (u39 : uS) : Option (Int × uS) :=
                xbd (f_L_draw 500 u39) fun v41 u42 =>
                xbd (f_L_draw (u42 264 6) u42) fun v43 u44 =>
                xbd (f_L_draw (u44 264 13 * u44 264 14) u44) fun v45 u46 =>
                xb0 (f_X9_ladder v41 u46) fun v47 u48 =>
                xbd (f_X10_rung v41 u48) fun v49 u50 =>
                xgd (InR v47 ∧ InR v49) <|
                if v47 = v49 then
                  xb0 (f_X9_travel v45 v43 u50) fun v53 u54 =>
                  xgd (InR v45 ∧ InR (u54 264 13) ∧ u54 264 13 ≠ 0) <|
                  xgd (InR v45 ∧ InR (u54 264 13) ∧ u54 264 13 ≠ 0) <|
                  xgd ((0 ≤ v43 ∧ v43 < 8)) <|
                  xgd (0 ≤ u54 265 v43) <|
                  xlet (u54 265 v43).toNat fun n59 =>
                  xbd (f_X10_time (u54 264 11 + ((Int.tmod v45 (u54 264 13)) * u54 264 15)) (u54 264 12 + ((Int.tdiv v45 (u54 264 13)) * u54 264 15)) n59 u54) fun v61 u62 =>
                  xgd (InR v53 ∧ InR v61) <|
                  if v53 = v61 then
                    xb0 (f_X9_between v43 0 u62) fun v65 u66 =>
                    xgd ((0 ≤ v43 ∧ v43 < 8)) <|
                    xgd (0 ≤ u66 265 v43) <|
                    xlet (u66 265 v43).toNat fun n69 =>
                    xgd ((0 ≤ v43 ∧ v43 < 8)) <|
                    xgd (0 ≤ u66 265 v43) <|
                    xlet (u66 265 v43).toNat fun n73 =>
                    xgd (0 ≤ u66 265 0) <|
                    xlet (u66 265 0).toNat fun n76 =>
                    xbd (f_X10_time (u66 n69 0) (u66 n73 1) n76 u66) fun v78 u79 =>
                    xgd (InR v65 ∧ InR v78) <|
                    if v65 = v78 then
                      some (1, u79)
                    else
                      some (0, u79)
                  else
                    some (0, u62)
                else
                  some (0, u50)
theorem wend (A : AG N V U S f c 0 E B D u) (P : PW N V U S f c 0 E B D) (h2 : 1 ≤ N 0 0) : wp (j_end u) QP := by
  have hN := P.1
  have n0 := hN.1
  have n4 := hN.2.2.2.2.1
  have nd := nds_b hN
  unfold j_end
  refine wp_b (wdraw (by decide)) (fun a z1 h1 => ?_)
  obtain ⟨ha, k1⟩ := h1
  have ha : 0 ≤ a ∧ a < 500 := ha
  have k1 : ∀ d, d ≠ 357 → z1 d = u d := k1
  have A1 := A.l P (w := z1) (fun d hd => k1 d (by omega))
  rw [A1.2.1.1.1]
  refine wp_b (wdraw (by omega)) (fun s z2 h2 => ?_)
  obtain ⟨hs, k2⟩ := h2
  have hs : 0 ≤ s ∧ s < N 0 0 := hs
  have k2 : ∀ d, d ≠ 357 → z2 d = z1 d := k2
  have A2 := A1.l P (w := z2) (fun d hd => k2 d (by omega))
  rw [A2.2.1.1.2.2.2.2.1, A2.2.1.1.2.2.2.2.2.1, show N 0 4 * N 0 5 = nds N from rfl]
  refine wp_b (wdraw (by omega)) (fun m z3 h3 => ?_)
  obtain ⟨hm, k3⟩ := h3
  have hm : 0 ≤ m ∧ m < nds N := hm
  have k3 : ∀ d, d ≠ 357 → z3 d = z2 d := k3
  have A3 := A2.l P (w := z3) (fun d hd => k3 d (by omega))
  refine wp_0 (aLadder A3 P (by omega)) (fun z4 f4 c4 => ?_)
  have A4 := A3.cl P f4 c4
  refine wp_e (qrung hN A4.2.1 (by omega)) ?_
  have rb := rung_b hN a
  refine wp_g (by omega) ?_
  refine wp_t rfl ?_
  refine wp_0 (aTravel A4 P hm hs) (fun z5 f5 c5 => ?_)
  have A5 := A4.cl P f5 c5
  rw [A5.2.1.1.2.2.2.2.1]
  refine wp_g (by omega) ?_
  refine wp_g (by omega) ?_
  refine wp_g (by omega) ?_
  obtain ⟨p1, p2⟩ := A5.2.1.px hs.1 hs.2
  refine wp_g p1 ?_
  refine wp_L ?_
  rw [p2, A5.2.1.1.2.2.1, A5.2.1.1.2.2.2.1, A5.2.1.1.2.2.2.2.2.2.1]
  have xb := ndX_b hN hm.1
  have yb := ndY_b hN hm.1 hm.2
  have eT : f_X10_time (ndX N m) (ndY N m) (pc s) z5 = some (tvN N m s, z5) := qtime hN A5.2.1 hs (by omega) (by omega)
  have tb := tvN_b hN m s
  refine wp_e eT ?_
  refine wp_g (by omega) ?_
  refine wp_t rfl ?_
  refine wp_0 (aBetween A5 P hs ⟨by decide, by omega⟩) (fun z6 f6 c6 => ?_)
  have A6 := A5.cl P f6 c6
  obtain ⟨p3, p4⟩ := A6.2.1.px hs.1 hs.2
  obtain ⟨p5, p6⟩ := A6.2.1.px (s := 0) (by decide) (by omega)
  refine wp_g (by omega) ?_
  refine wp_g p3 ?_
  refine wp_L ?_
  refine wp_g (by omega) ?_
  refine wp_g p3 ?_
  refine wp_L ?_
  refine wp_g p5 ?_
  refine wp_L ?_
  rw [p4, p6]
  have sb := tvS_b hN s 0
  refine wp_e (qbetween hN A6.2.1 hs ⟨by decide, by omega⟩) ?_
  refine wp_g (by omega) ?_
  refine wp_t rfl ?_
  exact wp_s ⟨rfl, N, V, U, S, f, c, E, B, D, A6.1, P⟩
theorem wplays (hC : CI N V U S f c 0 E B D u) (hP : PW N V U S f c 0 E B D) : wp (f_L_plays u) QP := by
  unfold f_L_plays
  refine wp_g hC.mk ?_
  refine wp_l (fun u2 h2 => ?_)
  have t2 : TXl u2 [] := by rw [h2]; exact TXl.new hC.mk
  have o2 : ∀ d, d ≠ 37 → d ≠ 38 → d ≠ 1000 → u2 d = u d := fun d a b c => by rw [h2]; exact sbU_o ⟨a, b, c⟩
  have mk2 : mkOk u2 := by
    unfold mkOk
    rw [o2 0 (by decide) (by decide) (by decide)]
    exact hC.mk
  refine wp_b (wnet mk2 t2) (fun r w1 hw => ?_)
  obtain ⟨r1, f1, lw, ln, lr, tx⟩ := hw
  have r1 : r = 264 := r1
  have f1 : ∀ c, c < 264 → c ≠ 37 → c ≠ 38 → w1 c = u2 c := f1
  have lw : LW (netOf w1) := lw
  have ln : LN w1 (netOf w1) := ln
  have lr : LR (netOf w1) w1 zV := lr
  have tx : TXl w1 (ftx (netOf w1)) := tx
  generalize netOf w1 = N1 at *
  refine wp_g r1 ?_
  obtain ⟨len, ad⟩ := lw.len
  have mk3 : mkOk w1 := by
    unfold mkOk
    rw [f1 0 (by decide) (by decide) (by decide)]
    exact mk2
  refine wp_e (etoString tx mk3) ?_
  have t9 : TXt (tsU w1) (ftx N1) := TXt.of tx
  have o9 : ∀ d, d ≠ 1000 → d ≠ 289 → d ≠ 290 → tsU w1 d = w1 d := fun d a b c => tsU_o ⟨a, b, c⟩
  have c9 : CI N V U S f c 0 E B D (tsU w1) := hC.k38 (fun d d0 d1 d2 => by rw [o9 d (by omega) (by omega) (by omega), f1 d d0 d1 d2, o2 d d1 d2 (by omega)])
  refine wp_b (wfeeds c9 t9 ad (by omega)) (fun r w2 hw2 => ?_)
  obtain ⟨r2, f2, L2, B2, c2, ⟨l1, l2⟩, hB⟩ := hw2
  have r2 : r = 1 := r2
  subst r2
  have f2 : ∀ d, d ≠ 0 → d ≠ 1 → d ≠ 291 → w2 d = tsU w1 d := f2
  have c2 : CI N V U S f c L2 E B2 D w2 := c2
  refine wp_g (by decide) ?_
  refine wp_f (by decide) ?_
  have el : f_J4_length_8abf5 w2 = some (((ftx N1).length : Int), w2) := by
    show some (w2 37 3, w2) = _
    rw [f2 37 (by decide) (by decide) (by decide), o9 37 (by decide) (by decide) (by decide), tx.2.1]
  refine wp_e el ?_
  have hch := chT_b ad
  have hP2 : PW N V U S f c L2 E B2 D := by
    obtain ⟨a, b, d, e, -, -, g1, g2⟩ := hP
    refine ⟨a, b, d, e, by omega, fun j j0 j1 => ?_, g1, g2⟩
    rw [hB j j0 j1]
    have := hch j
    omega
  have gD := hP.2.2.2.2.2.2.2
  obtain ⟨⟨g, r3, w3⟩, e3, g0, f3, -, K, ks, ss, ls, vs, ⟨rk, hT, hk⟩, e1, -, hz⟩ := cparse c2 hP2 (x := ((ftx N1).length : Int)) ⟨by omega, l1⟩
  have g0 : g = 0 := g0
  subst g0
  have fc3 : FC w2 w3 := f3
  have hAT : AT B2 0 (ftx N1) := fun i hi => by
    rw [Int.zero_add, hB i (by omega) (by omega)]
    unfold chT
    rw [if_pos ⟨by omega, by omega⟩, show ((i : Nat) : Int).toNat = i by omega]
  obtain ⟨M, hM, na⟩ := read_ftx lw hAT hT hk rfl
  have e1 : r3 = (mR B2 K ks ss ls vs).1 := e1
  have hz : r3 = 0 → NWF (mR B2 K ks ss ls vs).2.2 ∧ CI (mR B2 K ks ss ls vs).2.2 zV U S (fun _ => 0) 0 0 (-1) B2 D w3 := hz
  rw [hM] at e1 hz
  have e1 : r3 = 0 := e1
  obtain ⟨nM, cM⟩ := hz e1
  have nM : NWF M := nM
  have cM : CI M zV U S (fun _ => 0) 0 0 (-1) B2 D w3 := cM
  subst e1
  refine wp_0s e3 ?_
  have hw3 : ∀ d, (264 ≤ d ∧ d < 287) ∨ (294 ≤ d ∧ d < 354) → w3 d = w1 d := fun d hd => by rw [fc3 d (by omega) (by omega), f2 d (by omega) (by omega) (by omega), o9 d (by omega) (by omega) (by omega)]
  have ln3 : LN w3 M := (ln.na na).x nM (fun d d0 d1 => hw3 d (Or.inl ⟨d0, d1⟩))
  have lr3 : LR M w3 zV := (lr.na na).x nM (zV_w (N := M)).1 hw3
  have A3 : AG M zV U S (fun _ => 0) 0 0 (-1) B2 D w3 := ⟨cM, ln3, lr3⟩
  have P3 : PW M zV U S (fun _ => 0) 0 0 (-1) B2 D := ⟨nM, ⟨zV_w, show (0 : Int) ≤ 9999 by decide⟩, ⟨⟨⟨by decide, by decide⟩, fun j j0 j1 => by omega⟩, fun j j0 j1 => by omega⟩, ⟨fun s _ _ => ⟨Or.inl rfl, fun h => absurd (show (0 : Int) = 1 from h) (by decide)⟩, fun s _ _ h => absurd (show (0 : Int) = 1 from h) (by decide)⟩, ⟨by decide, by decide⟩, fun j j0 j1 => by omega, ⟨by decide, by decide⟩, gD⟩
  have n0 := nM.1
  have n1 := nM.2.1
  have nd := nds_b nM
  have m2 : 2 ≤ M 0 0 := by rw [na.1 0 (by decide) (by decide)]; exact lw.1.1
  have h16 : nds M ≤ 16 := by rw [nds_na na]; exact lw.n16
  refine wp_g (by decide) ?_
  refine wp_t rfl ?_
  refine wp_0 (aSize (y := M 0 0) A3 P3 (by decide) rfl) (fun w4 f4 c4 => ?_)
  have A4 := A3.cl P3 f4 c4
  rw [A4.2.1.1.1]
  refine wp_g (by omega) ?_
  refine wp_t rfl ?_
  refine wp_0 (aSize (y := nds M) A4 P3 (by decide) rfl) (fun w5 f5 c5 => ?_)
  have A5 := A4.cl P3 f5 c5
  rw [A5.2.1.1.2.2.2.2.1, A5.2.1.1.2.2.2.2.2.1, show M 0 4 * M 0 5 = nds M from rfl]
  refine wp_g (by omega) ?_
  refine wp_t rfl ?_
  refine wp_0 (aSize (y := M 0 1) A5 P3 (by decide) rfl) (fun w6 f6 c6 => ?_)
  have A6 := A5.cl P3 f6 c6
  rw [A6.2.1.1.2.1]
  refine wp_g (by omega) ?_
  refine wp_t rfl ?_
  refine wp_l (fun j38 hj => ?_)
  have hj : j38 = j_end := hj
  refine wl2 (fun k v => (0 ≤ k ∧ k ≤ 40) ∧ ∃ V' U' c', AG M V' U' S (fun _ => 0) c' 0 (-1) B2 D v ∧ PW M V' U' S (fun _ => 0) c' 0 (-1) B2 D ∧ V' 0 0 ≤ 4 * k) (fun k _ => (40 - k).toNat) (fun go k v hI hg => ?_) 41 _ _ ⟨by decide, zV, U, 0, A6, P3, show (0 : Int) ≤ 4 * 0 by decide⟩ (by decide)
  obtain ⟨hk, V', U', c', A, P, ht⟩ := hI
  unfold s_L_plays_82
  refine wp_g (by omega) ?_
  refine wp_i (fun cc => ?_) (fun cc => ?_)
  · rw [hj]
    exact wend A P (by omega)
  · refine wp_g (by omega) ?_
    refine wp_b (wacts A P (by omega) (by omega)) (fun r w hw => ?_)
    obtain ⟨r1, V2, U2, c2', A2, P2, t2'⟩ := hw
    have r1 : r = 1 := r1
    subst r1
    refine wp_g (by decide) ?_
    refine wp_f (by decide) ?_
    refine wp_b (wagrees A2 P2 h16 (by omega)) (fun r w' hw => ?_)
    obtain ⟨r1, A3'⟩ := hw
    have r1 : r = 1 := r1
    subst r1
    refine wp_g (by decide) ?_
    refine wp_f (by decide) ?_
    exact hg _ _ ⟨by omega, V2, U2, c2', A3', P2, by omega⟩ (by omega)
end PL
