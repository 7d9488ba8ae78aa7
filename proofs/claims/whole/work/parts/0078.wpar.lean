/-! pure part, 48: the reference's parse, whole -/
section WP3
variable {u N V : uS} {U S : Int → uS} {f : Int → Int} {c L E : Int} {B : Int → Int} {D : List Int} {x K : Int} {ks ss ls vs : Int → Int}
theorem mpos_lt (hT : TD B x K ks ss ls vs) : ∀ (d : Nat) (j : Int), 0 ≤ j → j + d + 1 ≤ K → mpos x K ss j < mpos x K ss (j + d + 1) := by
  intro d
  induction d with
  | zero => intro j h1 h2; have := (td_n hT (j := j) ⟨h1, by omega⟩).1; rw [show j + ((0 : Nat) : Int) + 1 = j + 1 by omega]; exact this
  | succ d ih =>
    intro j h1 h2
    have a := ih j h1 (by omega)
    have b := (td_n hT (j := j + d + 1) ⟨by omega, by omega⟩).1
    rw [show j + ((d + 1 : Nat) : Int) + 1 = j + d + 1 + 1 by omega]
    omega
theorem wparseN (hM : MI N V U S f c L E B D u) (hP : PW N V U S f c L E B D) (hi : InR x) (hx : ¬ (0 ≤ x ∧ x ≤ L)) : f_X10_parse x u = some (0, up (up u 40 0 0) 40 0 1) := by
  obtain ⟨-, -, -, -, hL, -⟩ := hP
  have e8 : u 40 8 = L := hM.2.2.2.2.1.1
  refine wp_eq ?_
  unfold f_X10_parse
  refine wp_l (fun u1 g1 => ?_)
  have z8 : u1 40 8 = L := by rw [g1, up_j (by decide)]; exact e8
  have z0 : u1 40 0 = 0 := by rw [g1, up_s]
  rw [z8]
  refine wp_e (ewithin _ hi (by decide) (by omega)) ?_
  rw [if_neg hx]
  refine wp_g (by decide) ?_
  refine wp_l (fun j5 e5 => ?_)
  refine wp_t rfl ?_
  rw [e5]
  refine wp_e (ethrowsIf0 _ (by decide) z0 (by decide)) ?_
  refine wp_g (by decide) ?_
  refine wp_f (by decide) ?_
  rw [g1]
  exact wp_s rfl
/-- the flag of the loop, and what holds with it -/
def PI (B : Int → Int) (x K : Int) (ks ss ls vs : Int → Int) (R : Int × Int × uS) (z : uS) (b : Int) (v : uS) : Prop := FrP z v ∧ ((b = 1 ∧ ∃ j ic it ct M, RS0 B x K ks ss ls vs v j ct ∧ DRb v M ∧ DRn v (M 0) ∧ Gd (-1) ic it ct M ∧ R = mr ks vs (srj B ks ss ls) K j (-1) ic it ct M) ∨ (b = 0 ∧ ER x K ss R 0 v))
theorem wloop {z : uS} {R : Int × Int × uS} {j22 : Int → uS → Option (Int × uS)} {Q : Int × uS → Prop} (hn : 0 ≤ x ∧ x ≤ 500) (hBb : ∀ q, 0 ≤ q → q < x → 0 ≤ B q ∧ B q < 256) (hT : TD B x K ks ss ls vs)
    (h1 : ∀ v M, FrP z v → DRb v M → DRn v (M 0) → NWF M → v 40 15 = -1 → R.1 = 0 → R.2.2 = M → wp (j22 1 v) Q) (h0 : ∀ v, FrP z v → ER x K ss R 0 v → wp (j22 0 v) Q) {b : Int} {v : uS} (hI : PI B x K ks ss ls vs R z b v) : wp (xl2 (s_X10_parse_72 j22) FU b v) Q := by
  refine wl2 (fun b v => PI B x K ks ss ls vs R z b v) (fun b v => if b = 0 then 0 else (x - v 40 10).toNat + 1) (fun go b v hI hg => ?_) FU _ _ hI ?_
  · obtain ⟨hf, hI⟩ := hI
    unfold s_X10_parse_72
    rcases hI with ⟨hb, j, ic, it, ct, M, hS, hDb, hDn, hG, hR⟩ | ⟨hb, hE⟩
    · have hb' : b = 1 := hb
      subst hb'
      have hk := hS.1.knd
      have hj := hS.1.2.2.1
      have hpos := hS.1.pos
      refine wp_g (by decide) ?_
      refine wp_f (by decide) ?_
      rw [hk]
      by_cases hjK : j < K
      · obtain ⟨t1, t2, t3⟩ := td_f hT ⟨hj.1, hjK⟩
        rw [if_pos hjK]
        refine wp_g (by omega) ?_
        refine wp_f (by omega) ?_
        refine wp_b (wstatement hn hBb hT hS hDb hDn hjK hG hR) (fun r y hy => ?_)
        obtain ⟨fy, hy⟩ := hy
        rcases hy with ⟨hr, j', w, ic', it', ct', M', hlt, hSE⟩ | hE
        · have hr' : r = 1 := hr
          subst hr'
          refine wp_g (by decide) ?_
          refine wp_l (fun j41 e41 => ?_)
          refine wp_l (fun j44 e44 => ?_)
          refine wp_f (by decide) ?_
          refine wp_b (wcloses hn hBb hT hSE) (fun r2 y2 hy2 => ?_)
          obtain ⟨fy2, hy2⟩ := hy2
          rcases hy2 with ⟨hr2, hj'K, hS2, hDb2, hDn2, hG2, hR2⟩ | hE
          · have hr2' : r2 = 1 := hr2
            subst hr2'
            refine wp_g (by decide) ?_
            refine wp_f (by decide) ?_
            rw [e41]
            have p2 : y2 40 10 = mpos x K ss (j' + 1) := hS2.1.pos
            have hlt2 := mpos_lt hT (j' - j).toNat j hj.1 (by omega)
            rw [show j + (((j' - j).toNat : Nat) : Int) + 1 = j' + 1 by omega] at hlt2
            have hle := (td_n hT (j := j') ⟨by omega, hj'K⟩).2.2
            refine hg 1 y2 ⟨(hf.tr fy).tr fy2, Or.inl ⟨rfl, j' + 1, ic', it', ct', fin M' w it', hS2, hDb2, hDn2, hG2, hR2⟩⟩ ?_
            show (if (1 : Int) = 0 then 0 else (x - y2 40 10).toNat + 1) < if (1 : Int) = 0 then 0 else (x - v 40 10).toNat + 1
            rw [if_neg (by decide), if_neg (by decide), p2, hpos]
            omega
          · have hr2' : r2 = 0 := hE.1
            subst hr2'
            refine wp_g (by decide) ?_
            refine wp_t rfl ?_
            rw [e44]
            show wp (j41 0 y2) Q
            rw [e41]
            refine hg 0 y2 ⟨(hf.tr fy).tr fy2, Or.inr ⟨rfl, hE⟩⟩ ?_
            show (if (0 : Int) = 0 then 0 else (x - y2 40 10).toNat + 1) < if (1 : Int) = 0 then 0 else (x - v 40 10).toNat + 1
            rw [if_pos rfl, if_neg (by decide)]
            omega
        · have hr' : r = 0 := hE.1
          subst hr'
          refine wp_g (by decide) ?_
          refine wp_l (fun j41 e41 => ?_)
          refine wp_l (fun j44 e44 => ?_)
          refine wp_t rfl ?_
          rw [e44]
          show wp (j41 0 y) Q
          rw [e41]
          refine hg 0 y ⟨hf.tr fy, Or.inr ⟨rfl, hE⟩⟩ ?_
          show (if (0 : Int) = 0 then 0 else (x - y 40 10).toNat + 1) < if (1 : Int) = 0 then 0 else (x - v 40 10).toNat + 1
          rw [if_pos rfl, if_neg (by decide)]
          omega
      · rw [if_neg hjK]
        refine wp_g (by decide) ?_
        refine wp_t rfl ?_
        have ej : j = K := by omega
        rw [mr_e ej, if_pos rfl] at hR
        exact h1 v M hf hDb hDn hG.1 hS.2.2.1 (by rw [hR]) (by rw [hR])
    · have hb' : b = 0 := hb
      subst hb'
      refine wp_g (by decide) ?_
      refine wp_t rfl ?_
      exact h0 v hf hE
  · show (if b = 0 then 0 else (x - v 40 10).toNat + 1) < FU
    obtain ⟨-, hI⟩ := hI
    rcases hI with ⟨hb, j, ic, it, ct, M, hS, -⟩ | ⟨hb, -⟩
    · have hpos := hS.1.pos
      have hj := hS.1.2.2.1
      have : 0 ≤ mpos x K ss j := by
        unfold mpos
        by_cases h : j < K
        · rw [if_pos h]; exact (td_f hT ⟨hj.1, h⟩).1.1
        · rw [if_neg h]; exact hn.1
      rw [if_neg (by omega), hpos]
      exact FU_l (by omega)
    · rw [if_pos hb]; exact FU_l (by decide)
theorem wparse (hM : MI N V U S f c L E B D u) (hP : PW N V U S f c L E B D) (hx : 0 ≤ x ∧ x ≤ L) (hT : TD B x K ks ss ls vs) :
    wp (f_X10_parse x u) (fun q => q.2 40 0 = 0 ∧ FM u q.2 ∧ q.1 = (mR B K ks ss ls vs).1 ∧ ((mR B K ks ss ls vs).1 ≠ 0 → MI N V U S f c 0 (mpos x K ss (mR B K ks ss ls vs).2.1) B D q.2) ∧ ((mR B K ks ss ls vs).1 = 0 → MI (mR B K ks ss ls vs).2.2 zV U S (fun _ => 0) 0 0 (-1) B D q.2)) := by
  obtain ⟨hN, -, -, -, hL, hBb, -⟩ := hP
  obtain ⟨m1, m2, m3, m4, ⟨m5, m5'⟩, m6, m7⟩ := hM
  have hn : 0 ≤ x ∧ x ≤ 500 := by omega
  have hBb2 : ∀ q, 0 ≤ q → q < x → 0 ≤ B q ∧ B q < 256 := fun q q0 q1 => hBb q q0 (by omega)
  have hR : mR B K ks ss ls vs = mr ks vs (srj B ks ss ls) K 0 (-1) 0 (fun _ => 0) (fun _ => 0) dN := rfl
  generalize mR B K ks ss ls vs = R at *
  unfold f_X10_parse
  refine wp_l (fun u1 g1 => ?_)
  have z8 : u1 40 8 = L := by rw [g1, up_j (by decide)]; exact m5
  have z0 : u1 40 0 = 0 := by rw [g1, up_s]
  rw [z8]
  refine wp_e (ewithin _ (by omega) (by decide) (by omega)) ?_
  rw [if_pos hx]
  refine wp_g (by decide) ?_
  refine wp_l (fun j5 e5 => ?_)
  refine wp_f (by decide) ?_
  rw [e5]
  refine wp_e (ethrowsIf0 _ (by decide) z0 (by decide)) ?_
  refine wp_g (by decide) ?_
  refine wp_t rfl ?_
  refine wp_l (fun w1 k1 => ?_)
  refine wp_l (fun w2 k2 => ?_)
  refine wp_l (fun w3 k3 => ?_)
  refine wp_l (fun w4 k4 => ?_)
  refine wp_l (fun w5 k5 => ?_)
  refine wp_l (fun w k6 => ?_)
  have wc : ∀ d, d ≠ 40 → w d = u d := fun d hd => by rw [k6, up_c hd, k5, up_c hd, k4, up_c hd, k3, up_c hd, k2, up_c hd, k1, up_c hd, g1, up_c hd]
  have wj : ∀ j, j = 20 ∨ j = 22 → w 40 j = u 40 j := fun j hj => by rw [k6, up_j (by omega), k5, up_j (by omega), k4, up_j (by omega), k3, up_j (by omega), k2, up_j (by omega), k1, up_j (by omega), g1, up_j (by omega)]
  have w0 : w 40 0 = 0 := by rw [k6, up_j (by decide), k5, up_j (by decide), k4, up_j (by decide), k3, up_j (by decide), k2, up_j (by decide), k1, up_j (by decide)]; exact z0
  have w9 : w 40 9 = x := by rw [k6, up_j (by decide), k5, up_j (by decide), k4, up_j (by decide), k3, up_j (by decide), k2, up_j (by decide), k1, up_s]
  have w8 : w 40 8 = 0 := by rw [k6, up_j (by decide), k5, up_j (by decide), k4, up_j (by decide), k3, up_j (by decide), k2, up_s]
  have w11 : w 40 11 = 0 := by rw [k6, up_j (by decide), k5, up_j (by decide), k4, up_j (by decide), k3, up_s]
  have w14 : w 40 14 = 0 := by rw [k6, up_j (by decide), k5, up_j (by decide), k4, up_s]
  have w15 : w 40 15 = -1 := by rw [k6, up_j (by decide), k5, up_s]
  have w17 : w 40 17 = 0 := by rw [k6, up_s]
  refine wp_b wclearDraft (fun r y hy => ?_)
  obtain ⟨fy0, yc0, yD0⟩ := hy
  have fy : FrP w y := fy0
  have yc : ∀ d, d ≠ 42 → y d = w d := yc0
  have yD : DRn y (dN 0) := yD0
  have yB : ∀ q, 0 ≤ q → q < x → (-128 ≤ y 47 q ∧ y 47 q < 128) ∧ y 47 q % 256 = B q := fun q q0 q1 => by rw [yc 47 (by decide), wc 47 (by decide)]; exact m6 q q0 (by omega)
  have hK0 : 0 ≤ K := by
    obtain ⟨rk, hP, -⟩ := hT
    exact hP.1.1
  refine wp_b (wadvance hn hBb2 hT (j := 0) (by rw [yc 40 (by decide)]; exact w9) yB ⟨Int.le_refl 0, hK0⟩ (by rw [yc 40 (by decide), w11]; rfl)) (fun r z hz => ?_)
  obtain ⟨fz0, mz0⟩ := hz
  have fz : FrA y z := fz0
  have mz : MT B x K ks ss ls vs z 0 := mz0
  have z40 : ∀ j, j ≠ 10 → j ≠ 11 → j ≠ 12 → j ≠ 13 → z 40 j = w 40 j := fun j a b c d => by rw [fz.2 j a b c d, yc 40 (by decide)]
  have hS : RS0 B x K ks ss ls vs z 0 (fun _ => 0) := by
    refine ⟨mz, by rw [z40 14 (by decide) (by decide) (by decide) (by decide)]; exact w14, by rw [z40 15 (by decide) (by decide) (by decide) (by decide)]; exact w15, ?_⟩
    unfold BT
    rw [z40 17 (by decide) (by decide) (by decide) (by decide), w17]
    refine ⟨by decide, fun b b0 b1 => ?_⟩
    show shrI 0 b % 2 = 0
    unfold shrI
    rw [Int.zero_ediv]; rfl
  have hz : PI B x K ks ss ls vs R z 1 z := ⟨FrP.rf, Or.inl ⟨rfl, 0, 0, fun _ => 0, fun _ => 0, dN, hS, ⟨fun s s0 s1 => by have e : dN 0 0 = 0 := rfl; omega, fun s s0 s1 => by have e : dN 0 1 = 0 := rfl; omega⟩, yD.rw (fz.1 42 (by decide)), gd_0, hR⟩⟩
  refine wp_l (fun j22 e22 => ?_)
  have fr : ∀ v, FrP z v → FrP w v := fun v hv => (fy.tr fz.p).tr hv
  refine wloop hn hBb2 hT (fun v M hv hDb hDn hW h15 hR0 hRM => ?_) (fun v hv hE => ?_) hz
  · have hv := fr v hv
    rw [e22]
    show wp (xgd (InR 1) <| if (1 : Int) = 0 then some (v 40 14, v) else xbd (f_X10_liftsAll v) fun _ u28 => xbd (f_X10_begins u28) fun _ u30 => some (0, u30)) _
    refine wp_g (by decide) ?_
    refine wp_f (by decide) ?_
    refine wp_b (wliftsAll hDb hDn hW) (fun r a ha => ?_)
    obtain ⟨fa0, na0⟩ := ha
    have fa : ∀ d, (d < 42 ∨ 46 < d) → a d = v d := fa0
    have na : MN a M := na0
    refine wp_b wbegins (fun r b hb => ?_)
    obtain ⟨b10, b20, b30, ⟨b40, b50⟩, b60⟩ := hb
    have b1 : ∀ d, d ≠ 40 → d ≠ 41 → d ≠ 53 → b d = a d := b10
    have b2 : ∀ j, j ≠ 22 → b 40 j = a 40 j := b20
    have b6 : ∀ j, 0 ≤ j → j < 1167 → b 41 j = 0 := b60
    refine wp_s ⟨?_, fun d hd => ?_, hR0.symm, fun h => absurd hR0 h, fun _ => ?_⟩
    · show b 40 0 = 0
      rw [b2 0 (by decide), fa 40 (by decide), hv.2.1 0 (by decide)]; exact w0
    · show b d = u d
      rw [b1 d (by omega) (by omega) (by omega), fa d (by omega), hv.1 d (by omega) (by omega)]; exact wc d (by omega)
    · rw [hRM]
      refine ⟨na.row (fun d d0 d1 => b1 d (by omega) (by omega) (by omega)), fun j s hvd => ?_, ⟨b30, fun j j0 j1 => by omega⟩, fun s s0 s1 => ⟨?_, fun h => ?_⟩, ⟨?_, ?_⟩, fun j j0 j1 => by omega, m7.row ?_ ?_⟩
      · have l := ix_lim (vd_lim hvd (show zV 0 1 ≤ 60 by decide) (show zV 0 2 ≤ 20 by decide))
        exact b6 _ l.1 l.2
      · show b 53 s = 0
        have hs : s = 0 ∨ s = 1 := by omega
        rcases hs with rfl | rfl
        · exact b40
        · exact b50
      · have h : (0 : Int) = 1 := h
        omega
      · show b 40 8 = 0
        rw [b2 8 (by decide), fa 40 (by decide), hv.2.1 8 (by decide)]; exact w8
      · show b 40 15 = -1
        rw [b2 15 (by decide), fa 40 (by decide)]; exact h15
      · show b 40 20 = u 40 20
        rw [b2 20 (by decide), fa 40 (by decide), hv.2.1 20 (by decide)]; exact wj 20 (by decide)
      · show b 49 = u 49
        rw [b1 49 (by decide) (by decide) (by decide), fa 49 (by decide), hv.1 49 (by decide) (by decide)]; exact wc 49 (by decide)
  · have hv := fr v hv
    obtain ⟨-, hE1, hE2, hE3, hE4⟩ := hE
    rw [e22]
    show wp (xgd (InR 0) <| if (0 : Int) = 0 then some (v 40 14, v) else xbd (f_X10_liftsAll v) fun _ u28 => xbd (f_X10_begins u28) fun _ u30 => some (0, u30)) _
    refine wp_g (by decide) ?_
    refine wp_t rfl ?_
    have n0 := hN.1
    have n1 := hN.2.1
    have vo : ∀ d, d ≠ 40 → (d < 42 ∨ 46 < d) → v d = u d := fun d a b => (hv.1 d a b).trans (wc d a)
    refine wp_s ⟨?_, fun d hd => vo d (by omega) (by omega), hE3, fun _ => ⟨⟨fun i i0 i1 => ?_, fun s s0 s1 => ?_, fun r r0 r1 => ?_⟩, ?_, ?_, ?_, ⟨?_, hE4⟩, fun j j0 j1 => by omega, ?_⟩, fun h => absurd h hE1⟩
    · show v 40 0 = 0
      rw [hv.2.1 0 (by decide)]; exact w0
    · show v 42 i = N 0 i
      rw [hv.2.2.1 i i1, wc 42 (by decide)]; exact m1.1 i i0 i1
    · show v 43 s = N 1 s ∧ v 44 s = N 2 s
      rw [hv.2.2.2 43 (by decide) (by decide) s (by omega), hv.2.2.2 44 (by decide) (by decide) s (by omega), wc 43 (by decide), wc 44 (by decide)]; exact m1.2.1 s s0 s1
    · show v 45 r = N 3 r ∧ v 46 r = N 4 r
      rw [hv.2.2.2 45 (by decide) (by decide) r (by omega), hv.2.2.2 46 (by decide) (by decide) r (by omega), wc 45 (by decide), wc 46 (by decide)]; exact m1.2.2 r r0 r1
    · exact m2.row (vo 41 (by decide) (by decide))
    · exact m3.row (by show v 40 22 = u 40 22; rw [hv.2.1 22 (by decide)]; exact wj 22 (by decide)) (vo 51 (by decide) (by decide))
    · exact m4.row (vo 53 (by decide) (by decide)) (vo 52 (by decide) (by decide))
    · show v 40 8 = 0
      rw [hv.2.1 8 (by decide)]; exact w8
    · exact m7.row (by show v 40 20 = u 40 20; rw [hv.2.1 20 (by decide)]; exact wj 20 (by decide)) (vo 49 (by decide) (by decide))
end WP3
