/-! pure part, 43: the reference's statements, piece by piece -/
/-- the word of a bit -/
def wb (b : Int) : Int := if b = 6 then 8 else b + 1
def BT (u : uS) (ct : Int → Int) : Prop := (0 ≤ u 40 17 ∧ u 40 17 < 128) ∧ ∀ b, 0 ≤ b → b < 7 → shrI (u 40 17) b % 2 = ct (wb b)
def DRb (u M : uS) : Prop := (∀ s, 0 ≤ s → s < M 0 0 → u 43 (8 + s) = M 1 s ∧ u 44 (8 + s) = M 2 s) ∧ ∀ r, 0 ≤ r → r < M 0 1 → u 45 (8 + r) = M 3 r ∧ u 46 (8 + r) = M 4 r
def DRn (u : uS) (g : Int → Int) : Prop := ∀ q, 0 ≤ q → q < 15 → u 42 (15 + q) = g q
def dn (w ic : Int) (it : Int → Int) (M : uS) (q : Int) : Int := if db w ≤ q ∧ q < db w + ic then it (q - db w) else M 0 q
/-- the reference between two tokens -/
def RS0 (B : Int → Int) (n K : Int) (ks ss ls vs : Int → Int) (u : uS) (j : Int) (ct : Int → Int) : Prop := MT B n K ks ss ls vs u j ∧ u 40 14 = 0 ∧ u 40 15 = -1 ∧ BT u ct
theorem DRb.rw {u w M : uS} (h : DRb u M) (e : ∀ c, 43 ≤ c → c ≤ 46 → w c = u c) : DRb w M := by
  unfold DRb
  rw [e 43 (by decide) (by decide), e 44 (by decide) (by decide), e 45 (by decide) (by decide), e 46 (by decide) (by decide)]
  exact h
theorem DRn.rw {u w : uS} {g : Int → Int} (h : DRn u g) (e : w 42 = u 42) : DRn w g := by
  unfold DRn
  rw [e]; exact h
section WS
variable {u : uS} {B : Int → Int} {n K : Int} {ks ss ls vs : Int → Int} {R : Int × Int × uS} {j w ic : Int} {it ct : Int → Int} {M : uS}
theorem RS0.st {v : uS} (h : RS0 B n K ks ss ls vs u j ct) (h47 : v 47 = u 47) (h40 : ∀ i, (9 ≤ i ∧ i ≤ 15) ∨ i = 17 → v 40 i = u 40 i) : RS0 B n K ks ss ls vs v j ct := by
  obtain ⟨a, b, c, d⟩ := h
  refine ⟨a.row h47 (fun i i0 i1 => h40 i (by omega)), by rw [h40 14 (by decide)]; exact b, by rw [h40 15 (by decide)]; exact c, ?_⟩
  unfold BT
  rw [h40 17 (by decide)]; exact d
theorem wonce {b : Int} (hn : 0 ≤ n ∧ n ≤ 500) (hBb : ∀ q, 0 ≤ q → q < n → 0 ≤ B q ∧ B q < 256) (hT : TD B n K ks ss ls vs) (hb : 0 ≤ b ∧ b < 7) (hw : w = wb b) (hS : RS0 B n K ks ss ls vs u j ct) (hj : j < K) (hsr : srj B ks ss ls j = w) (hG : Gd (-1) ic it ct M) (hR : R = mr ks vs (srj B ks ss ls) K j (-1) ic it ct M) :
    wp (f_X10_once b u) (fun q => FrP u q.2 ∧ ((q.1 = 1 ∧ (∀ c, c ≠ 40 → q.2 c = u c) ∧ RS0 B n K ks ss ls vs q.2 (j + 1) (ctu ct w) ∧ Gd w 0 it (ctu ct w) M ∧ R = mr ks vs (srj B ks ss ls) K (j + 1) w 0 it (ctu ct w) M) ∨ ER n K ss R q.1 q.2)) := by
  obtain ⟨hM, h14, h15, ⟨hb1, hb2⟩⟩ := hS
  have e17 := hb2 b hb.1 hb.2
  rw [← hw] at e17
  have wr : 0 ≤ w ∧ w < 9 := by rw [hw]; unfold wb; split <;> omega
  have em : MST w = 1 := by
    have hc : b = 0 ∨ b = 1 ∨ b = 2 ∨ b = 3 ∨ b = 4 ∨ b = 5 ∨ b = 6 := by omega
    rcases hc with rfl | rfl | rfl | rfl | rfl | rfl | rfl <;> (rw [hw]; rfl)
  have cb := hG.2.2.2.2.2 w wr.1 wr.2
  rw [mr_s hj, if_pos rfl, hsr, if_neg (by omega), em] at hR
  unfold f_X10_once
  refine wp_g (by omega) ?_
  rw [e17]
  refine wp_g (by omega) ?_
  refine wp_l (fun j3 e3 => ?_)
  refine wp_i (fun cc => ?_) (fun cc => ?_)
  · have c0 : ct w = 0 := by assumption
    rw [if_pos (by omega)] at hR
    rw [e3]
    show wp (xbd (f_X10_starts 2 1 u) fun v6 u7 => xgd (InR v6) <| if v6 = 0 then some ((0 : Int), u7) else xgd (0 ≤ b ∧ b < 32) <| xlet (up u7 40 17 (orI (u7 40 17) (shlI 1 b))) fun u11 => some (1, u11)) _
    have hst : wp (f_X10_starts 2 1 u) (fun q => q.1 = 1 ∧ FrA u q.2 ∧ MT B n K ks ss ls vs q.2 (j + 1)) := by
      unfold f_X10_starts
      refine wp_g (by decide) ?_
      refine wp_f (by decide) ?_
      exact wp_b (wnext hn hBb hT hM hj) (fun r x hx => wp_s ⟨rfl, hx.1, hx.2⟩)
    refine wp_b hst (fun r x hx => ?_)
    obtain ⟨hr0, fx0, mx0⟩ := hx
    have hr : r = 1 := hr0
    subst hr
    have fx : FrA u x := fx0
    have mx : MT B n K ks ss ls vs x (j + 1) := mx0
    refine wp_g (by decide) ?_
    refine wp_f (by decide) ?_
    refine wp_g (by omega) ?_
    have x17 : x 40 17 = u 40 17 := fx.2 17 (by decide) (by decide) (by decide) (by decide)
    have p7 : (2 : Int) ^ (7 : Int).toNat = 128 := by decide
    have ob := or_bit (L := u 40 17) (x := b) (n := 7) (by decide) (by rw [p7]; exact hb1) hb
    rw [p7] at ob
    rw [x17]
    refine wp_l (fun y gy => ?_)
    have my : MT B n K ks ss ls vs y (j + 1) := mx.row (by rw [gy, up_c (by decide)]) (fun i i0 i1 => by rw [gy, up_j (by omega)])
    refine wp_s ⟨?_, Or.inl ⟨rfl, fun c hc => ?_, ⟨my, ?_, ?_, ?_, fun e e0 e1 => ?_⟩, gd_begin hG wr (by omega), hR⟩⟩
    · show FrP u y
      rw [gy]; exact fx.p.tr (FrP.s40 (by decide))
    · show y c = u c
      rw [gy, up_c hc]; exact fx.1 c hc
    · show y 40 14 = 0
      rw [gy, up_j (by decide), fx.2 14 (by decide) (by decide) (by decide) (by decide)]; exact h14
    · show y 40 15 = -1
      rw [gy, up_j (by decide), fx.2 15 (by decide) (by decide) (by decide) (by decide)]; exact h15
    · show 0 ≤ y 40 17 ∧ y 40 17 < 128
      rw [gy, up_s]; exact ob.1
    · show shrI (y 40 17) e % 2 = ctu ct w (wb e)
      rw [gy, up_s, ob.2 e e0]
      unfold ctu
      by_cases he : e = b
      · rw [if_pos he, if_pos (by rw [he, hw]), he, ← hw, c0]; rfl
      · rw [if_neg he, if_neg (by rw [hw]; unfold wb; split <;> split <;> omega)]; exact hb2 e e0 e1
  · have c0 : ¬ ct w = 0 := by assumption
    rw [if_neg (by omega), if_pos rfl] at hR
    rw [e3]
    show wp (xbd (f_X10_starts 2 0 u) fun v6 u7 => xgd (InR v6) <| if v6 = 0 then some ((0 : Int), u7) else xgd (0 ≤ b ∧ b < 32) <| xlet (up u7 40 17 (orI (u7 40 17) (shlI 1 b))) fun u11 => some (1, u11)) _
    have hst : wp (f_X10_starts 2 0 u) (fun q => FrP u q.2 ∧ ER n K ss R q.1 q.2) := by
      unfold f_X10_starts
      refine wp_g (by decide) ?_
      refine wp_t rfl ?_
      exact ebit (P := fun r w => FrP u w ∧ ER n K ss R r w) (wfails hM h14 (by decide) hR) (fun r w h => Or.inl h.2.1) (fun r w h => h)
    refine wp_b hst (fun r x hx => ?_)
    obtain ⟨fx0, hx0⟩ := hx
    have hr : r = 0 := hx0.1
    subst hr
    have fx : FrP u x := fx0
    have hx : ER n K ss R 0 x := hx0
    refine wp_g (by decide) ?_
    refine wp_t rfl ?_
    exact wp_s ⟨fx, Or.inr hx⟩
/-- one item -/
theorem witem {a b : Int} (hn : 0 ≤ n ∧ n ≤ 500) (hBb : ∀ q, 0 ≤ q → q < n → 0 ≤ B q ∧ B q < 256) (hT : TD B n K ks ss ls vs) (hS : RS0 B n K ks ss ls vs u j ct) (hG : Gd w ic it ct M) (hw : 0 ≤ w) (hi1 : ic < ITM w) (ha : a = lo M w ic it) (hb : b = hi w ic it) (hR : R = mr ks vs (srj B ks ss ls) K j w ic it ct M) :
    wp (f_X10_takes a b u) (fun q => FrP u q.2 ∧ ((q.1 = 1 ∧ (∀ c, c ≠ 40 → q.2 c = u c) ∧ RS0 B n K ks ss ls vs q.2 (j + 1) ct ∧ q.2 40 16 = vs j ∧ (0 ≤ vs j ∧ vs j ≤ 9999) ∧ Gd w (ic + 1) (itu it ic (vs j)) ct M ∧ R = mr ks vs (srj B ks ss ls) K (j + 1) w (ic + 1) (itu it ic (vs j)) ct M) ∨ ER n K ss R q.1 q.2)) := by
  obtain ⟨hM, h14, h15, hbt⟩ := hS
  have lb := lohi_b hG hw hi1
  have hj := hM.2.2.1
  have ws : ¬ w = -1 := by omega
  refine wp_2 (wtakes (R := R) (X := a ≤ vs j ∧ vs j ≤ b) (M := M) hn hBb hT hM h14 (by omega) (by omega) (fun h => ?_) (fun h h2 => ?_) (fun h h2 h3 => ?_) (fun _ _ h => h)) (fun r x hx => ?_)
  · rw [hR, mr_e h, if_neg ws]
  · rw [hR, mr_s h, if_neg ws, if_neg (by omega), if_neg h2]
  · rw [hR, mr_s h, if_neg ws, if_neg (by omega), if_pos h2, if_neg (by rw [ha, hb] at h3; exact h3)]
  · obtain ⟨fx, hx⟩ := hx
    refine ⟨fx, ?_⟩
    rcases hx with ⟨h1, hjK, k2, hv, hf, x14, x15, x17, x16, mx⟩ | h
    · rw [ha, hb] at hv
      refine Or.inl ⟨h1, hf, ⟨mx, x14, x15.trans h15, ?_⟩, x16, (td_f hT ⟨hj.1, hjK⟩).2.2 k2, gd_item hG hw hi1 hv, ?_⟩
      · unfold BT
        rw [x17]; exact hbt
      · rw [hR, mr_s hjK, if_neg ws, if_neg (by omega), if_pos k2, if_pos hv]
    · exact Or.inr h
/-- inside a statement of a sort that has its own places -/
def RSs (B : Int → Int) (n K : Int) (ks ss ls vs : Int → Int) (R : Int × Int × uS) (u : uS) (j w ic : Int) (it ct : Int → Int) (M : uS) : Prop := RS0 B n K ks ss ls vs u j ct ∧ DRb u M ∧ DRn u (dn w ic it M) ∧ Gd w ic it ct M ∧ R = mr ks vs (srj B ks ss ls) K j w ic it ct M
theorem wsets {a b x : Int} (hn : 0 ≤ n ∧ n ≤ 500) (hBb : ∀ q, 0 ≤ q → q < n → 0 ≤ B q ∧ B q < 256) (hT : TD B n K ks ss ls vs) (hS : RSs B n K ks ss ls vs R u j w ic it ct M) (hw : 0 ≤ w ∧ w ≠ 0 ∧ w ≠ 7) (hi1 : ic < ITM w) (ha : a = lo M w ic it) (hb : b = hi w ic it) (hx : x = db w + ic) :
    wp (f_X10_sets x a b u) (fun q => FrP u q.2 ∧ ((q.1 = 1 ∧ RSs B n K ks ss ls vs R q.2 (j + 1) w (ic + 1) (itu it ic (vs j)) ct M ∧ q.2 40 16 = vs j) ∨ ER n K ss R q.1 q.2)) := by
  obtain ⟨hS, hDb, hDn, hG, hR⟩ := hS
  have icb := (hG.2.2.1 hw.1).1
  have w8 := hG.2.1
  have dbb : 2 ≤ db w ∧ db w + ITM w ≤ 15 := by
    have hc : w = 1 ∨ w = 2 ∨ w = 3 ∨ w = 4 ∨ w = 5 ∨ w = 6 ∨ w = 8 := by omega
    rcases hc with rfl | rfl | rfl | rfl | rfl | rfl | rfl <;> decide
  unfold f_X10_sets
  refine wp_b (witem hn hBb hT hS hG hw.1 hi1 ha hb hR) (fun r y hy => ?_)
  obtain ⟨fy0, hy⟩ := hy
  rcases hy with ⟨h1, hf0, hS20, y160, vb, hG2, hR2⟩ | h0
  · have h1' : r = 1 := h1
    subst h1'
    have fy : FrP u y := fy0
    have hf : ∀ c, c ≠ 40 → y c = u c := hf0
    have hS2 : RS0 B n K ks ss ls vs y (j + 1) ct := hS20
    have y16 : y 40 16 = vs j := y160
    refine wp_g (by decide) ?_
    refine wp_f (by decide) ?_
    have ed : f_X10_draft x (y 40 16) y = some (0, up y 42 (15 + x) (y 40 16)) := by
      refine wp_eq ?_
      unfold f_X10_draft
      repeat (first | (with_reducible refine wp_L ?_) | (with_reducible refine wp_g ?_ ?_; · omega) | (with_reducible refine wp_f ?_ ?_; · omega) | (with_reducible refine wp_t ?_ ?_; · omega))
      exact wp_s rfl
    obtain ⟨z, hz⟩ : ∃ z, z = up y 42 (15 + x) (y 40 16) := ⟨_, rfl⟩
    rw [← hz] at ed
    have z1 : RS0 B n K ks ss ls vs z (j + 1) ct := hS2.st (by rw [hz, up_c (by decide)]) (fun i _ => by rw [hz, up_c (by decide)])
    have z2 : DRb z M := hDb.rw (fun c c0 c1 => by rw [hz, up_c (by omega), hf c (by omega)])
    have z3 : FrP u z := by rw [hz]; exact fy.tr (FrP.s42 (by omega))
    refine wp_e ed ?_
    refine wp_s ⟨z3, Or.inl ⟨rfl, ⟨z1, z2, fun q q0 q1 => ?_, hG2, hR2⟩, ?_⟩⟩
    · show z 42 (15 + q) = dn w (ic + 1) (itu it ic (vs j)) M q
      have hq := hDn q q0 q1
      rw [hz]
      unfold dn itu at *
      by_cases he : q = x
      · rw [he, up_s, y16, if_pos (by omega), if_pos (by omega)]
      · rw [up_j (by omega), hf 42 (by decide), hq]
        by_cases h2 : db w ≤ q ∧ q < db w + ic
        · rw [if_pos h2, if_pos (by omega), if_neg (by omega)]
        · rw [if_neg h2, if_neg (by omega)]
    · show z 40 16 = vs j
      rw [hz, up_k (by decide)]; exact y16
  · have h1 : r = 0 := h0.1
    subst h1
    have fy : FrP u y := fy0
    have h : ER n K ss R 0 y := h0
    refine wp_g (by decide) ?_
    refine wp_t rfl ?_
    exact wp_s ⟨fy, Or.inr h⟩
/-- at the end of a statement, before its semicolon -/
def SE (B : Int → Int) (n K : Int) (ks ss ls vs : Int → Int) (R : Int × Int × uS) (u : uS) (j w ic : Int) (it ct : Int → Int) (M : uS) : Prop := RS0 B n K ks ss ls vs u j ct ∧ DRb u (fin M w it) ∧ DRn u (fun q => fin M w it 0 q) ∧ Gd w ic it ct M ∧ 0 ≤ w ∧ ITM w ≤ ic ∧ R = mr ks vs (srj B ks ss ls) K j w ic it ct M
theorem RSs.se (hS : RSs B n K ks ss ls vs R u j w ic it ct M) (hw : 0 ≤ w ∧ w ≠ 0 ∧ w ≠ 7) (hi1 : ITM w = ic) : SE B n K ks ss ls vs R u j w ic it ct M := by
  obtain ⟨hS, hDb, hDn, hG, hR⟩ := hS
  have w8 := hG.2.1
  have dbb : 2 ≤ db w ∧ db w + ITM w ≤ 15 := by
    have hc : w = 1 ∨ w = 2 ∨ w = 3 ∨ w = 4 ∨ w = 5 ∨ w = 6 ∨ w = 8 := by omega
    rcases hc with rfl | rfl | rfl | rfl | rfl | rfl | rfl <;> decide
  refine ⟨hS, ?_, fun q q0 q1 => ?_, hG, hw.1, by omega, hR⟩
  · unfold DRb
    rw [fin_n hw.2.1 hw.2.2 (j := 0) (q := 0) (Or.inr (by omega)), fin_n hw.2.1 hw.2.2 (j := 0) (q := 1) (Or.inr (by omega))]
    refine ⟨fun s s0 s1 => ?_, fun r r0 r1 => ?_⟩
    · rw [fin_n hw.2.1 hw.2.2 (Or.inl (by decide)), fin_n hw.2.1 hw.2.2 (Or.inl (by decide))]; exact hDb.1 s s0 s1
    · rw [fin_n hw.2.1 hw.2.2 (Or.inl (by decide)), fin_n hw.2.1 hw.2.2 (Or.inl (by decide))]; exact hDb.2 r r0 r1
  · show u 42 (15 + q) = fin M w it 0 q
    rw [hDn q q0 q1, fin_x hw.2.1 hw.2.2]
    unfold dn
    rw [← hi1]
    by_cases h : db w ≤ q ∧ q < db w + ITM w
    · rw [if_pos h]; exact (if_pos ⟨rfl, h⟩).symm
    · rw [if_neg h]; exact (if_neg (fun hh => h hh.2)).symm
theorem wcloses (hn : 0 ≤ n ∧ n ≤ 500) (hBb : ∀ q, 0 ≤ q → q < n → 0 ≤ B q ∧ B q < 256) (hT : TD B n K ks ss ls vs) (hS : SE B n K ks ss ls vs R u j w ic it ct M) :
    wp (f_X10_closes u) (fun q => FrP u q.2 ∧ ((q.1 = 1 ∧ j < K ∧ RS0 B n K ks ss ls vs q.2 (j + 1) ct ∧ DRb q.2 (fin M w it) ∧ DRn q.2 (fun q => fin M w it 0 q) ∧ Gd (-1) ic it ct (fin M w it) ∧ R = mr ks vs (srj B ks ss ls) K (j + 1) (-1) ic it ct (fin M w it)) ∨ ER n K ss R q.1 q.2)) := by
  obtain ⟨⟨hM, h14, h15, hbt⟩, hDb, hDn, hG, hw, hi1, hR⟩ := hS
  have hk := hM.knd
  have hj := hM.2.2.1
  have ws : ¬ w = -1 := by omega
  have bad : R = (1, j, M) → wp (xbd (f_X10_fails 1 u) fun v w => xgd (v = 0 ∨ v = 1) <| some (v, w)) (fun q => FrP u q.2 ∧ ((q.1 = 1 ∧ j < K ∧ RS0 B n K ks ss ls vs q.2 (j + 1) ct ∧ DRb q.2 (fin M w it) ∧ DRn q.2 (fun q => fin M w it 0 q) ∧ Gd (-1) ic it ct (fin M w it) ∧ R = mr ks vs (srj B ks ss ls) K (j + 1) (-1) ic it ct (fin M w it)) ∨ ER n K ss R q.1 q.2)) := fun hR1 =>
    ebit (P := fun r w => FrP u w ∧ ER n K ss R r w) (wfails hM h14 (by decide) hR1) (fun r w h => Or.inl h.2.1) (fun r w h => ⟨h.1, Or.inr h.2⟩)
  unfold f_X10_closes
  by_cases hjK : j < K
  · obtain ⟨t1, t2, t3⟩ := td_f hT ⟨hj.1, hjK⟩
    rw [if_pos hjK] at hk
    rw [hk]
    rw [mr_s hjK, if_neg ws, if_pos hi1] at hR
    refine wp_g (by omega) ?_
    refine wp_i (fun cc => ?_) (fun cc => ?_)
    · have k3 : ks j = 3 := by assumption
      rw [if_pos k3] at hR
      refine wp_b (wnext hn hBb hT hM hjK) (fun r x hx => ?_)
      obtain ⟨fx, mx⟩ := hx
      have fx : FrA u x := fx
      refine wp_s ⟨fx.p, Or.inl ⟨rfl, hjK, ⟨mx, ?_, ?_, ?_⟩, hDb.rw (fun c c0 c1 => fx.1 c (by omega)), hDn.rw (fx.1 42 (by decide)), gd_fin hG hw hi1, hR⟩⟩
      · exact (fx.2 14 (by decide) (by decide) (by decide) (by decide)).trans h14
      · exact (fx.2 15 (by decide) (by decide) (by decide) (by decide)).trans h15
      · show BT x ct
        unfold BT
        rw [fx.2 17 (by decide) (by decide) (by decide) (by decide)]; exact hbt
    · rw [if_neg (by assumption)] at hR
      exact bad hR
  · rw [if_neg hjK] at hk
    rw [hk]
    rw [mr_e (by omega), if_neg ws] at hR
    refine wp_g (by decide) ?_
    refine wp_f (by decide) ?_
    exact bad hR
end WS
