/-! the law's network is drawn: all of it -/
/-- the network that the law's cells hold -/
def netOf (w : uS) : uS := fun j i => if j = 0 then (if i = 0 then w 264 6 else if i = 1 then w 264 10 else w 264 (i + 9)) else if j = 1 then w (pc i) 0 else if j = 2 then w (pc i) 1 else if j = 3 then w 269 i else w 270 i
/-- its text -/
def ftx (N : uS) : List Int := rgA (stA (N 1) (N 2) (N 0 0).toNat ++ grT (N 0 2) (N 0 3) (N 0 4) (N 0 5) (N 0 6) (N 0 7) (N 0 8) (N 0 9) (N 0 10) (N 0 11) (N 0 12) (N 0 13) (N 0 14)) (N 3) (N 4) (N 0 1).toNat
/-- bounds of what is drawn -/
def LW (N : uS) : Prop := (2 ≤ N 0 0 ∧ N 0 0 ≤ 8) ∧ (0 ≤ N 0 1 ∧ N 0 1 ≤ 4) ∧ GB (N 0 2) (N 0 3) (N 0 4) (N 0 5) (N 0 6) (N 0 7) (N 0 8) (N 0 9) (N 0 10) (N 0 11) (N 0 12) (N 0 13) (N 0 14)
  ∧ (∀ s, 0 ≤ s → s < N 0 0 → (0 ≤ N 1 s ∧ N 1 s < 200) ∧ (0 ≤ N 2 s ∧ N 2 s < 200))
  ∧ (∀ i, 0 ≤ i → i < N 0 1 → (0 ≤ N 3 i ∧ N 3 i ≤ 60 * i + 59) ∧ (0 ≤ N 4 i ∧ N 4 i ≤ 19 * i + 19) ∧ (1 ≤ i → N 3 (i - 1) + 1 ≤ N 3 i ∧ N 4 (i - 1) ≤ N 4 i))
theorem LW.nwf {N : uS} (h : LW N) : NWF N := by
  obtain ⟨h0, h1, ⟨g2, g3, g4, g5, g6, g7, g8, g9, g10, g11, g12, g13, g14⟩, hS, hR⟩ := h
  refine ⟨by omega, by omega, by omega, by omega, by omega, by omega, by omega, by omega, by omega, by omega, by omega, by omega, by omega, by omega, by omega, fun s s0 s1 => ?_, fun r r0 r1 => ?_⟩
  · have := hS s s0 s1; omega
  · have := hR r r0 r1; omega
theorem LW.n16 {N : uS} (h : LW N) : nds N ≤ 16 := by
  obtain ⟨-, -, ⟨-, -, g4, g5, -⟩, -⟩ := h
  have := Int.mul_le_mul (a := N 0 4) (b := N 0 5) (c := 4) (d := 4) g4.2 g5.2 (by omega) (by decide)
  exact this
theorem LW.len {N : uS} (h : LW N) : (ftx N).length ≤ 257 ∧ AD (ftx N) := by
  obtain ⟨h0, h1, hg, hS, hR⟩ := h
  obtain ⟨a1, a2⟩ := grT_l hg
  have b1 := stA_l (X := N 1) (Y := N 2) (n := (N 0 0).toNat) (fun i hi => by have := hS i (by omega) (by omega); omega)
  have b2 := stA_b (X := N 1) (Y := N 2) (n := (N 0 0).toNat) (fun i hi => by have := hS i (by omega) (by omega); exact this)
  have c1 := len_app (Nat.le_trans b1 (show 16 * (N 0 0).toNat ≤ 128 by omega)) a1
  have d1 := rgA_l (A := N 3) (M := N 4) (n := (N 0 1).toNat) c1 (fun i hi => by have := hR i (by omega) (by omega); omega)
  refine ⟨Nat.le_trans d1 (by omega), rgA_b (b2.app a2) (fun i hi => ?_)⟩
  have := hR i (by omega) (by omega)
  omega
section NW
variable {u v w : uS}
theorem wnet (hk : mkOk u) (ht : TXl u []) : wp (f_L_net u) (fun q => q.1 = 264 ∧ (∀ c, c < 264 → c ≠ 37 → c ≠ 38 → q.2 c = u c) ∧ LW (netOf q.2) ∧ LN q.2 (netOf q.2) ∧ LR (netOf q.2) q.2 zV ∧ TXl q.2 (ftx (netOf q.2))) := by
  unfold f_L_net
  refine wp_g hk ?_
  refine wp_l (fun u3 h3 => ?_)
  refine wp_b (wdraw (by decide)) (fun x u6 hx => ?_)
  obtain ⟨hx, k6⟩ := hx
  have hx : 0 ≤ x ∧ x < 7 := hx
  have k6 : ∀ d, d ≠ 357 → u6 d = u3 d := k6
  refine wp_l (fun u7 h7 => ?_)
  refine wp_l (fun j8 h8 => ?_)
  have z7 : ∀ c, c ≠ 264 → c ≠ 357 → u7 c = ntU u c := fun c c0 c1 => by rw [h7, up_c c0, k6 c c1, h3]
  have z7o : ∀ c, ¬ (264 ≤ c ∧ c < 271) → c ≠ 357 → u7 c = u c := fun c c0 c1 => by
    rw [z7 c (by omega) c1]
    funext i
    exact ntU_o c0
  have i0 : I1 u (2 + x) 0 u7 := by
    refine ⟨by omega, fun c c0 _ _ => z7o c (by omega) (by omega), ?_, fun q q0 q1 => ?_, fun p p0 p1 => ?_, fun e => ?_, fun q q0 q1 => by omega, ?_⟩
    · rw [h7, up_row, k6 264 (by decide), h3]
      rfl
    · rw [z7 265 (by decide) (by decide), if_neg (by omega)]; rfl
    · rw [z7 266 (by decide) (by decide)]; rfl
    · rw [z7 267 (by decide) (by decide)]; rfl
    · exact ht.fr (z7o 37 (by decide) (by decide)) (z7o 38 (by decide) (by decide)) (by rw [z7o 1000 (by decide) (by decide)]) (z7o 0 (by decide) (by decide))
  refine wstations hk (by omega) i0 (fun w hw => ?_)
  obtain ⟨-, wf, w264, w265, w266, w267, wL, wT⟩ := hw
  rw [h8]
  refine wdraws (v0 := w) (F := fun b => if b = 6 then 2 + x else 0) ⟨w264, fun _ _ _ => rfl⟩ (fun gx gy co ro st te sh lo tn tf vo sl de z gb hz => ?_)
  have zf : ∀ c, c < 264 → c ≠ 37 → c ≠ 38 → z c = u c := fun c c0 c1 c2 => (hz.2 c (by omega) (by omega)).trans (wf c c0 c1 c2)
  have zk : mkOk z := by
    unfold mkOk
    rw [zf 0 (by decide) (by decide) (by decide)]
    exact hk
  have zT : TXl z (stA (fun q => w (pc q) 0) (fun q => w (pc q) 1) (2 + x).toNat) := wT.fr (hz.2 37 (by decide) (by decide)) (hz.2 38 (by decide) (by decide)) (by rw [hz.2 1000 (by decide) (by decide)]) (hz.2 0 (by decide) (by decide))
  have hstl := stA_l (X := fun q => w (pc q) 0) (Y := fun q => w (pc q) 1) (n := (2 + x).toNat) (fun i hi => ⟨(wL i (by omega) (by omega)).1.2, (wL i (by omega) (by omega)).2.1.2⟩)
  refine wp_g zk ?_
  refine wp_l (fun y0 hy0 => ?_)
  obtain ⟨tp, ts⟩ := zT.push
  rw [← hy0] at tp ts
  have y264 : y0 264 = z 264 := by rw [hy0]; exact sbU2_o (by decide)
  have yo : ∀ c, c ≠ 37 → c ≠ 38 → c ≠ 287 → c ≠ 288 → c ≠ 1000 → y0 c = z c := fun c c0 c1 c2 c3 c4 => by rw [hy0]; exact sbU2_o ⟨c0, c1, c2, c3, c4⟩
  refine wgrid gb tp (by rw [y264, hz.1]; rfl) (by rw [y264, hz.1]; rfl) (by rw [y264, hz.1]; rfl) (by rw [y264, hz.1]; rfl) (by rw [y264, hz.1]; rfl) (by rw [y264, hz.1]; rfl) (by rw [y264, hz.1]; rfl) (by rw [y264, hz.1]; rfl) (by rw [y264, hz.1]; rfl) (by rw [y264, hz.1]; rfl) (by rw [y264, hz.1]; rfl) (by rw [y264, hz.1]; rfl) (by rw [y264, hz.1]; rfl) (fun y1 f1 t1 => ?_)
  have ts1 := ts.fr f1
  have o1 : ∀ c, c ≠ 37 → c ≠ 38 → c ≠ 287 → c ≠ 288 → c ≠ 1000 → y1 c = z c := fun c c0 c1 c2 c3 c4 => (f1.1 c c0 c1 c4).trans (yo c c0 c1 c2 c3 c4)
  have mk1 : mkOk y1 := by
    unfold mkOk
    rw [o1 0 (by decide) (by decide) (by decide) (by decide) (by decide)]
    exact zk
  refine wp_e (etoString t1 mk1) ?_
  have mk2 : mkOk (tsU y1) := by
    unfold mkOk
    rw [tsU_o (c := 0) (by decide)]
    exact mk1
  refine wp_g mk2 ?_
  refine wp_l (fun y2 hy2 => ?_)
  have t2 : TXl y2 (stA (fun q => w (pc q) 0) (fun q => w (pc q) 1) (2 + x).toNat) := by rw [hy2]; exact TXl.pop ts1.ts mk2
  have tt2 : TXt y2 (grT gx gy co ro st te sh lo tn tf vo sl de) := by rw [hy2]; exact (TXt.of t1).pop
  have o2 : ∀ c, c ≠ 37 → c ≠ 38 → c ≠ 287 → c ≠ 288 → c ≠ 289 → c ≠ 290 → c ≠ 1000 → y2 c = z c := fun c c0 c1 c2 c3 c4 c5 c6 => by
    rw [hy2, sbU3_o ⟨c0, c1, c6⟩, tsU_o ⟨c6, c4, c5⟩]
    exact o1 c c0 c1 c2 c3 c6
  obtain ⟨gl, ga⟩ := grT_l gb
  have hl2 : (stA (fun q => w (pc q) 0) (fun q => w (pc q) 1) (2 + x).toNat ++ grT gx gy co ro st te sh lo tn tf vo sl de).length ≤ 128 + 81 := len_app (Nat.le_trans hstl (by omega)) gl
  refine wp_b (lappendD t2 tt2 ga (by rw [← List.length_append]; omega)) (fun r y3 h3' => ?_)
  obtain ⟨r3, f3, t3⟩ := h3'
  refine wp_g r3 ?_
  have f3 : FrC y2 y3 := f3
  have t3 : TXl y3 (stA (fun q => w (pc q) 0) (fun q => w (pc q) 1) (2 + x).toNat ++ grT gx gy co ro st te sh lo tn tf vo sl de) := t3
  refine wp_b (wdraw (by decide)) (fun k y4 hk4 => ?_)
  obtain ⟨hk4, k4⟩ := hk4
  have hk4 : 0 ≤ k ∧ k < 5 := hk4
  have k4 : ∀ d, d ≠ 357 → y4 d = y3 d := k4
  refine wp_l (fun y5 h5 => ?_)
  have o5 : ∀ c, c ≠ 264 → c ≠ 357 → c ≠ 37 → c ≠ 38 → c ≠ 1000 → y5 c = y2 c := fun c c0 c1 c2 c3 c4 => by rw [h5, up_c c0, k4 c c1]; exact f3.1 c c2 c3 c4
  have y5r : y5 264 = fun b => if b = 10 then k else z 264 b := by
    rw [h5, up_row, k4 264 (by decide), f3.1 264 (by decide) (by decide) (by decide), o2 264 (by decide) (by decide) (by decide) (by decide) (by decide) (by decide) (by decide)]
  have t5 : TXl y5 (stA (fun q => w (pc q) 0) (fun q => w (pc q) 1) (2 + x).toNat ++ grT gx gy co ro st te sh lo tn tf vo sl de) := t3.fr (by rw [h5, up_c (by decide), k4 37 (by decide)]) (by rw [h5, up_c (by decide), k4 38 (by decide)]) (by rw [h5, up_c (by decide), k4 1000 (by decide)]) (by rw [h5, up_c (by decide), k4 0 (by decide)])
  refine wp_w (wrungs (k := k) (by omega) (by rw [y5r]; rfl) hl2 t5) (fun q hq => ?_)
  obtain ⟨q1, qf, qB, qT⟩ := hq
  generalize hy6 : q.2 = y6 at *
  have r264 : y6 264 = fun b => if b = 10 then k else z 264 b := by rw [qf 264 (by decide) (by decide) (by decide) (by decide) (by decide) (by decide)]; exact y5r
  have e6 : netOf y6 0 0 = 2 + x := by show y6 264 6 = _; rw [r264, hz.1]; rfl
  have e10 : netOf y6 0 1 = k := by show y6 264 10 = _; rw [r264]; rfl
  have e11 : netOf y6 0 2 = gx := by show y6 264 11 = _; rw [r264, hz.1]; rfl
  have e12 : netOf y6 0 3 = gy := by show y6 264 12 = _; rw [r264, hz.1]; rfl
  have e13 : netOf y6 0 4 = co := by show y6 264 13 = _; rw [r264, hz.1]; rfl
  have e14 : netOf y6 0 5 = ro := by show y6 264 14 = _; rw [r264, hz.1]; rfl
  have e15 : netOf y6 0 6 = st := by show y6 264 15 = _; rw [r264, hz.1]; rfl
  have e16 : netOf y6 0 7 = te := by show y6 264 16 = _; rw [r264, hz.1]; rfl
  have e17 : netOf y6 0 8 = sh := by show y6 264 17 = _; rw [r264, hz.1]; rfl
  have e18 : netOf y6 0 9 = lo := by show y6 264 18 = _; rw [r264, hz.1]; rfl
  have e19 : netOf y6 0 10 = tn := by show y6 264 19 = _; rw [r264, hz.1]; rfl
  have e20 : netOf y6 0 11 = tf := by show y6 264 20 = _; rw [r264, hz.1]; rfl
  have e21 : netOf y6 0 12 = vo := by show y6 264 21 = _; rw [r264, hz.1]; rfl
  have e22 : netOf y6 0 13 = sl := by show y6 264 22 = _; rw [r264, hz.1]; rfl
  have e23 : netOf y6 0 14 = de := by show y6 264 23 = _; rw [r264, hz.1]; rfl
  have s7 : y6 264 7 = 0 := by rw [r264, hz.1]; rfl
  have s8 : y6 264 8 = 0 := by rw [r264, hz.1]; rfl
  have s9 : y6 264 9 = 0 := by rw [r264, hz.1]; rfl
  have of : ∀ c, c ≠ 264 → c ≠ 269 → c ≠ 270 → c ≠ 357 → c ≠ 37 → c ≠ 38 → c ≠ 1000 → c ≠ 287 → c ≠ 288 → c ≠ 289 → c ≠ 290 → y6 c = w c := fun c c0 c1 c2 c3 c4 c5 c6 c7 c8 c9 c10 => by
    rw [qf c c1 c2 c3 c4 c5 c6, o5 c c0 c3 c4 c5 c6, o2 c c4 c5 c7 c8 c9 c10 c6]
    exact hz.2 c c0 c3
  have hpc : ∀ s, 0 ≤ s → s < 2 + x → y6 (pc s) = w (pc s) := fun s s0 s1 => by
    have := pc_e s0
    exact of _ (by omega) (by omega) (by omega) (by omega) (by omega) (by omega) (by omega) (by omega) (by omega) (by omega) (by omega)
  have hLW : LW (netOf y6) := by
    refine ⟨by rw [e6]; omega, by rw [e10]; omega, by rw [e11, e12, e13, e14, e15, e16, e17, e18, e19, e20, e21, e22, e23]; exact gb, fun s s0 s1 => ?_, fun i i0 i1 => ?_⟩
    · rw [e6] at s1
      show (0 ≤ y6 (pc s) 0 ∧ y6 (pc s) 0 < 200) ∧ (0 ≤ y6 (pc s) 1 ∧ y6 (pc s) 1 < 200)
      rw [hpc s s0 s1]
      exact ⟨(wL s s0 s1).1, (wL s s0 s1).2.1⟩
    · rw [e10] at i1
      exact qB i i0 i1
  refine ⟨q1, fun c c0 c1 c2 => ?_, hLW, ⟨⟨rfl, rfl, rfl, rfl, rfl, rfl, rfl, rfl, rfl, rfl, rfl, rfl, rfl, rfl, rfl⟩, fun s s0 s1 => ⟨?_, rfl, rfl⟩, fun r r0 r1 => ⟨rfl, rfl⟩⟩, ⟨?_, fun s t s0 s1 t0 t1 t2 => ?_, fun p p0 p1 => ?_, fun e i0 i1 => ?_⟩, ?_⟩
  · rw [of c (by omega) (by omega) (by omega) (by omega) c1 c2 (by omega) (by omega) (by omega) (by omega) (by omega)]
    exact wf c c0 c1 c2
  · rw [e6] at s1
    rw [of 265 (by decide) (by decide) (by decide) (by decide) (by decide) (by decide) (by decide) (by decide) (by decide) (by decide) (by decide), w265 s s0 (by omega), if_pos s1]
  · intro j s hv h7
    have hv : vl (netOf y6 0 0) 0 0 j s := hv
    have b := hv
    rw [e6] at b
    unfold vl at b
    show _ = (0 : Int)
    have hj : j = 0 ∨ j = 1 ∨ j = 5 ∨ j = 6 ∨ j = 7 := by omega
    rcases hj with rfl | rfl | rfl | rfl | rfl
    · have hs : s = 0 ∨ s = 1 ∨ s = 2 := by omega
      rcases hs with rfl | rfl | rfl
      · exact s9
      · exact s7
      · exact s8
    · show y6 (pc s) 2 = 0
      rw [hpc s b.1 (by omega)]; exact (wL s b.1 (by omega)).2.2.1
    · show y6 (pc s) 4 = 0
      rw [hpc s b.1 (by omega)]; exact (wL s b.1 (by omega)).2.2.2.1
    · show y6 (pc s) 5 = 0
      rw [hpc s b.1 (by omega)]; exact (wL s b.1 (by omega)).2.2.2.2
    · have h7 : (0 : Int) = 1 := h7 rfl
      omega
  · have t2 : t ≤ 0 := t2
    omega
  · rw [of 266 (by decide) (by decide) (by decide) (by decide) (by decide) (by decide) (by decide) (by decide) (by decide) (by decide) (by decide), w266 p p0 p1, if_neg (show ¬ p < zV 0 1 from fun q => by have q : p < 0 := q; omega)]
  · rw [of 267 (by decide) (by decide) (by decide) (by decide) (by decide) (by decide) (by decide) (by decide) (by decide) (by decide) (by decide)]
    exact w267 e
  · unfold ftx
    rw [e6, e10, e11, e12, e13, e14, e15, e16, e17, e18, e19, e20, e21, e22, e23]
    have ec : stA (netOf y6 1) (netOf y6 2) (2 + x).toNat = stA (fun q => w (pc q) 0) (fun q => w (pc q) 1) (2 + x).toNat := stA_c (fun i hi => by
      show y6 (pc i) 0 = w (pc i) 0 ∧ y6 (pc i) 1 = w (pc i) 1
      rw [hpc i (by omega) (by omega)]; exact ⟨rfl, rfl⟩)
    rw [ec]
    exact qT
end NW
