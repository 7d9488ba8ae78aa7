/-! pure part, 44: the reference's lines of stations and rungs -/
section WL
variable {u : uS} {B : Int → Int} {n K : Int} {ks ss ls vs : Int → Int} {R : Int × Int × uS} {j w ic : Int} {it ct : Int → Int} {M : uS}
theorem wstarts {x : Int} (hn : 0 ≤ n ∧ n ≤ 500) (hBb : ∀ q, 0 ≤ q → q < n → 0 ≤ B q ∧ B q < 256) (hT : TD B n K ks ss ls vs) (hw : w = 0 ∨ w = 7) (hS : RS0 B n K ks ss ls vs u j ct) (hj : j < K) (hsr : srj B ks ss ls j = w) (hG : Gd (-1) ic it ct M) (hR : R = mr ks vs (srj B ks ss ls) K j (-1) ic it ct M) (hx : x = if 8 ≤ ct w then 0 else 1) :
    wp (f_X10_starts 4 x u) (fun q => FrP u q.2 ∧ ((q.1 = 1 ∧ ct w < 8 ∧ (∀ c, c ≠ 40 → q.2 c = u c) ∧ RS0 B n K ks ss ls vs q.2 (j + 1) (ctu ct w) ∧ Gd w 0 it (ctu ct w) M ∧ R = mr ks vs (srj B ks ss ls) K (j + 1) w 0 it (ctu ct w) M) ∨ ER n K ss R q.1 q.2)) := by
  obtain ⟨hM, h14, h15, ⟨hb1, hb2⟩⟩ := hS
  have em : MST w = 8 := by rcases hw with rfl | rfl <;> rfl
  rw [mr_s hj, if_pos rfl, hsr, if_neg (by omega), em] at hR
  unfold f_X10_starts
  by_cases hc : 8 ≤ ct w
  · rw [if_pos hc] at hx
    rw [if_neg (by omega), if_neg (by decide)] at hR
    rw [hx]
    refine wp_g (by decide) ?_
    refine wp_t rfl ?_
    exact ebit (P := fun r w => FrP u w ∧ ER n K ss R r w) (wfails hM h14 (by decide) hR) (fun r w h => Or.inl h.2.1) (fun r w h => ⟨h.1, Or.inr h.2⟩)
  · rw [if_neg hc] at hx
    rw [if_pos (by omega)] at hR
    rw [hx]
    refine wp_g (by decide) ?_
    refine wp_f (by decide) ?_
    refine wp_b (wnext hn hBb hT hM hj) (fun r x hx => ?_)
    obtain ⟨fx0, mx⟩ := hx
    have fx : FrA u x := fx0
    refine wp_s ⟨fx.p, Or.inl ⟨rfl, by omega, fx.1, ⟨mx, ?_, ?_, ?_⟩, gd_begin hG (by omega) (by omega), hR⟩⟩
    · exact (fx.2 14 (by decide) (by decide) (by decide) (by decide)).trans h14
    · exact (fx.2 15 (by decide) (by decide) (by decide) (by decide)).trans h15
    · show BT x (ctu ct w)
      unfold BT
      rw [fx.2 17 (by decide) (by decide) (by decide) (by decide)]
      refine ⟨hb1, fun b b0 b1 => ?_⟩
      unfold ctu
      rw [if_neg (by unfold wb; split <;> omega)]; exact hb2 b b0 b1
theorem wputs {a b i : Int} {c : Nat} (hn : 0 ≤ n ∧ n ≤ 500) (hBb : ∀ q, 0 ≤ q → q < n → 0 ≤ B q ∧ B q < 256) (hT : TD B n K ks ss ls vs) (hc : 43 ≤ c ∧ c ≤ 46) (hii : 0 ≤ i ∧ i < 8) (hS : RS0 B n K ks ss ls vs u j ct) (hG : Gd w ic it ct M) (hw : 0 ≤ w) (hi1 : ic < ITM w) (ha : a = lo M w ic it) (hb : b = hi w ic it) (hR : R = mr ks vs (srj B ks ss ls) K j w ic it ct M) :
    wp (f_X10_puts c i a b u) (fun q => FrP u q.2 ∧ ((q.1 = 1 ∧ (∀ d, d ≠ 40 → d ≠ c → q.2 d = u d) ∧ (∀ k, k ≠ 8 + i → q.2 c k = u c k) ∧ q.2 c (8 + i) = vs j ∧ (0 ≤ vs j ∧ vs j ≤ 9999) ∧ RS0 B n K ks ss ls vs q.2 (j + 1) ct ∧ Gd w (ic + 1) (itu it ic (vs j)) ct M ∧ R = mr ks vs (srj B ks ss ls) K (j + 1) w (ic + 1) (itu it ic (vs j)) ct M) ∨ ER n K ss R q.1 q.2)) := by
  have rc : (c < NN ∧ sT c = 100) ∧ sN c = 16 := by
    have h : ∀ d, d < 47 → 43 ≤ d → (d < NN ∧ sT d = 100) ∧ sN d = 16 := by decide +kernel
    exact h c (by omega) hc.1
  have e8 : Int.tdiv ((16 : Nat) : Int) 2 = 8 := by decide
  unfold f_X10_puts
  refine wp_g rc.1 ?_
  rw [rc.2, e8]
  refine wp_b (witem hn hBb hT hS hG hw hi1 ha hb hR) (fun r y hy => ?_)
  obtain ⟨fy0, hy⟩ := hy
  rcases hy with ⟨h1, hf0, hS20, y160, vb, hG2, hR2⟩ | h0
  · have h1' : r = 1 := h1
    subst h1'
    have fy : FrP u y := fy0
    have hf : ∀ c, c ≠ 40 → y c = u c := hf0
    have hS2 : RS0 B n K ks ss ls vs y (j + 1) ct := hS20
    have y16 : y 40 16 = vs j := y160
    refine wp_g (by decide) ?_
    refine wp_f (by decide) ?_
    repeat (first | (with_reducible refine wp_L ?_) | (with_reducible refine wp_g ?_ ?_; · omega) | (with_reducible refine wp_f ?_ ?_; · omega) | (with_reducible refine wp_t ?_ ?_; · omega))
    obtain ⟨z, hz⟩ : ∃ z, z = up y c (8 + i) (y 40 16) := ⟨_, rfl⟩
    have z1 : RS0 B n K ks ss ls vs z (j + 1) ct := hS2.st (by rw [hz, up_c (by omega)]) (fun i _ => by rw [hz, up_c (by omega)])
    have z3 : FrP u z := by rw [hz]; exact fy.tr (FrP.s43 hc (by omega))
    rw [← hz]
    refine wp_s ⟨z3, Or.inl ⟨rfl, fun d d0 d1 => ?_, fun k hk => ?_, ?_, vb, z1, hG2, hR2⟩⟩
    · show z d = u d
      rw [hz, up_c d1]; exact hf d d0
    · show z c k = u c k
      rw [hz, up_j hk, hf c (by omega)]
    · show z c (8 + i) = vs j
      rw [hz, up_s]; exact y16
  · have h1 : r = 0 := h0.1
    subst h1
    have fy : FrP u y := fy0
    have h : ER n K ss R 0 y := h0
    refine wp_g (by decide) ?_
    refine wp_t rfl ?_
    exact wp_s ⟨fy, Or.inr h⟩
/-- what a statement brings about -/
def ST (B : Int → Int) (n K : Int) (ks ss ls vs : Int → Int) (R : Int × Int × uS) (u : uS) (j : Int) (q : Int × uS) : Prop := FrP u q.2 ∧ ((q.1 = 1 ∧ ∃ j' w ic it ct M, j < j' ∧ SE B n K ks ss ls vs R q.2 j' w ic it ct M) ∨ ER n K ss R q.1 q.2)
theorem ST.no {r : Int} {x : uS} (f : FrP u x) (h : ER n K ss R r x) : ST B n K ks ss ls vs R u j (r, x) := ⟨f, Or.inr h⟩
theorem wstation (hn : 0 ≤ n ∧ n ≤ 500) (hBb : ∀ q, 0 ≤ q → q < n → 0 ≤ B q ∧ B q < 256) (hT : TD B n K ks ss ls vs) (hS : RS0 B n K ks ss ls vs u j ct) (hDb : DRb u M) (hDn : DRn u (M 0)) (hj : j < K) (hsr : srj B ks ss ls j = 0) (hG : Gd (-1) ic it ct M) (hR : R = mr ks vs (srj B ks ss ls) K j (-1) ic it ct M) :
    wp (f_X10_stationLine u) (fun q => ST B n K ks ss ls vs R u j q) := by
  have e0 : u 42 15 = M 0 0 := hDn 0 (by decide) (by decide)
  have c0 : ct 0 = M 0 0 := by have := hG.2.2.2.1; rw [if_neg (by decide)] at this; omega
  have n0 := hG.1.1
  unfold f_X10_stationLine
  refine wp_l (fun m hm => ?_)
  rw [e0] at hm
  refine wp_g (by omega) ?_
  refine wp_l (fun j3 e3 => ?_)
  have rest : wp (j3 (if 8 ≤ ct 0 then 0 else 1) u) (fun q => ST B n K ks ss ls vs R u j q) := by
    rw [e3]
    refine wp_b (wstarts hn hBb hT (Or.inl rfl) hS hj hsr hG hR rfl) (fun r x hx => ?_)
    obtain ⟨fx, hx⟩ := hx
    rcases hx with ⟨h1, hlt, hf, hS1, hG1, hR1⟩ | h0
    · have h1' : r = 1 := h1
      subst h1'
      refine wp_g (by decide) ?_
      refine wp_f (by decide) ?_
      refine wp_b (wputs hn hBb hT (c := 43) (by decide) (i := m) (by omega) hS1 hG1 (by decide) (by decide) rfl rfl hR1) (fun r x1 hx => ?_)
      obtain ⟨fx1, hx⟩ := hx
      rcases hx with ⟨h2, p1, p2, p3, pv, hS2, hG2, hR2⟩ | h0
      · have h2' : r = 1 := h2
        subst h2'
        refine wp_g (by decide) ?_
        refine wp_f (by decide) ?_
        refine wp_b (wputs hn hBb hT (c := 44) (by decide) (i := m) (by omega) hS2 hG2 (by decide) (by decide) rfl rfl hR2) (fun r x2 hx => ?_)
        obtain ⟨fx2, hx⟩ := hx
        rcases hx with ⟨h3, r1, r2, r3, rv, hS3, hG3, hR3⟩ | h0
        · have h3' : r = 1 := h3
          subst h3'
          refine wp_g (by decide) ?_
          refine wp_f (by decide) ?_
          have hf : ∀ c, c ≠ 40 → x c = u c := hf
          have p1 : ∀ d, d ≠ 40 → d ≠ 43 → x1 d = x d := p1
          have p2 : ∀ k, k ≠ 8 + m → x1 43 k = x 43 k := p2
          have p3 : x1 43 (8 + m) = vs (j + 1) := p3
          have r1 : ∀ d, d ≠ 40 → d ≠ 44 → x2 d = x1 d := r1
          have r2 : ∀ k, k ≠ 8 + m → x2 44 k = x1 44 k := r2
          have r3 : x2 44 (8 + m) = vs (j + 1 + 1) := r3
          have f2 : FrP u x2 := FrP.tr (FrP.tr fx fx1) fx2
          have hS3 : RS0 B n K ks ss ls vs x2 (j + 1 + 1 + 1) (ctu ct 0) := hS3
          have ed : f_X10_draft 0 (m + 1) x2 = some (0, up x2 42 (15 + 0) (m + 1)) := by
            refine wp_eq ?_
            unfold f_X10_draft
            repeat (first | (with_reducible refine wp_L ?_) | (with_reducible refine wp_g ?_ ?_; · omega) | (with_reducible refine wp_f ?_ ?_; · omega) | (with_reducible refine wp_t ?_ ?_; · omega))
            exact wp_s rfl
          obtain ⟨z, hz⟩ : ∃ z, z = up x2 42 (15 + 0) (m + 1) := ⟨_, rfl⟩
          rw [← hz] at ed
          have z1 : RS0 B n K ks ss ls vs z (j + 1 + 1 + 1) (ctu ct 0) := hS3.st (by rw [hz, up_c (by decide)]) (fun i _ => by rw [hz, up_c (by decide)])
          have z3 : FrP u z := by rw [hz]; exact f2.tr (FrP.s42 (by decide))
          have i0 : itu (itu it 0 (vs (j + 1))) (0 + 1) (vs (j + 1 + 1)) 0 = vs (j + 1) := rfl
          have i1 : itu (itu it 0 (vs (j + 1))) (0 + 1) (vs (j + 1 + 1)) 1 = vs (j + 1 + 1) := rfl
          refine wp_e ed (wp_s ⟨z3, Or.inl ⟨rfl, j + 1 + 1 + 1, 0, 0 + 1 + 1, _, ctu ct 0, M, by omega, z1, ?_, fun q q0 q1 => ?_, hG3, by decide, by decide, hR3⟩⟩)
          · rw [fin_0, i0, i1]
            refine ⟨fun s s0 s1 => ?_, fun r r0 r1' => ?_⟩
            · rw [up_s] at s1
              show z 43 (8 + s) = _ ∧ z 44 (8 + s) = _
              rw [hz, up_k (k := 42) (i := 43) (by decide), up_k (k := 42) (i := 44) (by decide), r1 43 (by decide) (by decide), up_k (k := 0) (i := 1) (by decide), up_k (k := 0) (i := 2) (by decide), up_k (k := 2) (i := 1) (by decide)]
              by_cases hs : s = M 0 0
              · rw [hs, up_s, up_s, ← hm, p3, r3]; exact ⟨rfl, rfl⟩
              · rw [up_j hs, up_j hs, up_k (k := 1) (i := 2) (by decide), p2 _ (by omega), r2 _ (by omega), p1 44 (by decide) (by decide), hf 43 (by decide), hf 44 (by decide)]
                exact hDb.1 s s0 (by omega)
            · have r1' : r < M 0 1 := r1'
              show z 45 (8 + r) = M 3 r ∧ z 46 (8 + r) = M 4 r
              rw [hz, up_k (k := 42) (i := 45) (by decide), up_k (k := 42) (i := 46) (by decide), r1 45 (by decide) (by decide), r1 46 (by decide) (by decide), p1 45 (by decide) (by decide), p1 46 (by decide) (by decide), hf 45 (by decide), hf 46 (by decide)]
              exact hDb.2 r r0 r1'
          · show z 42 (15 + q) = fin M 0 _ 0 q
            rw [fin_0]
            by_cases hq : q = 0
            · rw [hq, hz, up_s, up_s, hm]
            · rw [hz, up_j (by omega), r1 42 (by decide) (by decide), p1 42 (by decide) (by decide), hf 42 (by decide), up_j (u := up (up M 1 (M 0 0) _) 2 (M 0 0) _) hq, up_k (k := 2) (i := 0) (by decide), up_k (k := 1) (i := 0) (by decide)]
              exact hDn q q0 q1
        · have h3' : r = 0 := h0.1
          subst h3'
          refine wp_g (by decide) ?_
          refine wp_t rfl ?_
          exact wp_s (ST.no (FrP.tr (FrP.tr fx fx1) fx2) h0)
      · have h2' : r = 0 := h0.1
        subst h2'
        refine wp_g (by decide) ?_
        refine wp_t rfl ?_
        exact wp_s (ST.no (FrP.tr fx fx1) h0)
    · have h1' : r = 0 := h0.1
      subst h1'
      refine wp_g (by decide) ?_
      refine wp_t rfl ?_
      exact wp_s (ST.no fx h0)
  refine wp_i (fun cc => ?_) (fun cc => ?_)
  · rw [if_pos (by omega)] at rest; exact rest
  · rw [if_neg (by omega)] at rest; exact rest
end WL
