/-! pure part, 45: the reference's rungs -/
section WR
variable {u : uS} {B : Int → Int} {n K : Int} {ks ss ls vs : Int → Int} {R : Int × Int × uS} {j w ic : Int} {it ct : Int → Int} {M : uS}
theorem wrung (hn : 0 ≤ n ∧ n ≤ 500) (hBb : ∀ q, 0 ≤ q → q < n → 0 ≤ B q ∧ B q < 256) (hT : TD B n K ks ss ls vs) (hS : RS0 B n K ks ss ls vs u j ct) (hDb : DRb u M) (hDn : DRn u (M 0)) (hj : j < K) (hsr : srj B ks ss ls j = 7) (hG : Gd (-1) ic it ct M) (hR : R = mr ks vs (srj B ks ss ls) K j (-1) ic it ct M) :
    wp (f_X10_rungLine u) (fun q => ST B n K ks ss ls vs R u j q) := by
  have e0 : u 42 16 = M 0 1 := hDn 1 (by decide) (by decide)
  have c0 : ct 7 = M 0 1 := by have := hG.2.2.2.2.1; rw [if_neg (by decide)] at this; omega
  have n0 := hG.1.2.1
  have nR := hG.1.2.2.2.2.2.2.2.2.2.2.2.2.2.2.2.2
  unfold f_X10_rungLine
  refine wp_l (fun m hm => ?_)
  rw [e0] at hm
  refine wp_g (by omega) ?_
  refine wp_l (fun j3 e3 => ?_)
  have rest : wp (j3 (if 8 ≤ ct 7 then 0 else 1) u) (fun q => ST B n K ks ss ls vs R u j q) := by
    rw [e3]
    refine wp_b (wstarts hn hBb hT (Or.inr rfl) hS hj hsr hG hR rfl) (fun r x hx => ?_)
    obtain ⟨fx, hx⟩ := hx
    rcases hx with ⟨h1, hlt, hf, hS1, hG1, hR1⟩ | h0
    · have h1' : r = 1 := h1
      subst h1'
      refine wp_g (by decide) ?_
      refine wp_f (by decide) ?_
      have hf : ∀ c, c ≠ 40 → x c = u c := hf
      have hS1 : RS0 B n K ks ss ls vs x (j + 1) (ctu ct 7) := hS1
      refine wp_g (by omega) ?_
      refine wp_l (fun j11 e11 => ?_)
      have rest2 : wp (j11 (lo M 7 0 it) x) (fun q => ST B n K ks ss ls vs R u j q) := by
        rw [e11]
        refine wp_b (wputs hn hBb hT (c := 45) (by decide) (i := m) (by omega) hS1 hG1 (by decide) (by decide) rfl rfl hR1) (fun r x1 hx => ?_)
        obtain ⟨fx1, hx⟩ := hx
        rcases hx with ⟨h2, p1, p2, p3, pv, hS2, hG2, hR2⟩ | h0
        · have h2' : r = 1 := h2
          subst h2'
          refine wp_g (by decide) ?_
          refine wp_f (by decide) ?_
          have p1 : ∀ d, d ≠ 40 → d ≠ 45 → x1 d = x d := p1
          have p2 : ∀ k, k ≠ 8 + m → x1 45 k = x 45 k := p2
          have p3 : x1 45 (8 + m) = vs (j + 1) := p3
          have hS2 : RS0 B n K ks ss ls vs x1 (j + 1 + 1) (ctu ct 7) := hS2
          refine wp_g (by omega) ?_
          refine wp_l (fun j19 e19 => ?_)
          have rest3 : wp (j19 (lo M 7 (0 + 1) (itu it 0 (vs (j + 1)))) x1) (fun q => ST B n K ks ss ls vs R u j q) := by
            rw [e19]
            refine wp_b (wputs hn hBb hT (c := 46) (by decide) (i := m) (by omega) hS2 hG2 (by decide) (by decide) rfl rfl hR2) (fun r x2 hx => ?_)
            obtain ⟨fx2, hx⟩ := hx
            rcases hx with ⟨h3, r1, r2, r3, rv, hS3, hG3, hR3⟩ | h0
            · have h3' : r = 1 := h3
              subst h3'
              refine wp_g (by decide) ?_
              refine wp_f (by decide) ?_
              have r1 : ∀ d, d ≠ 40 → d ≠ 46 → x2 d = x1 d := r1
              have r2 : ∀ k, k ≠ 8 + m → x2 46 k = x1 46 k := r2
              have r3 : x2 46 (8 + m) = vs (j + 1 + 1) := r3
              have f2 : FrP u x2 := FrP.tr (FrP.tr fx fx1) fx2
              have hS3 : RS0 B n K ks ss ls vs x2 (j + 1 + 1 + 1) (ctu ct 7) := hS3
              have ed : f_X10_draft 1 (m + 1) x2 = some (0, up x2 42 (15 + 1) (m + 1)) := by
                refine wp_eq ?_
                unfold f_X10_draft
                repeat (first | (with_reducible refine wp_L ?_) | (with_reducible refine wp_g ?_ ?_; · omega) | (with_reducible refine wp_f ?_ ?_; · omega) | (with_reducible refine wp_t ?_ ?_; · omega))
                exact wp_s rfl
              obtain ⟨z, hz⟩ : ∃ z, z = up x2 42 (15 + 1) (m + 1) := ⟨_, rfl⟩
              rw [← hz] at ed
              have z1 : RS0 B n K ks ss ls vs z (j + 1 + 1 + 1) (ctu ct 7) := hS3.st (by rw [hz, up_c (by decide)]) (fun i _ => by rw [hz, up_c (by decide)])
              have z3 : FrP u z := by rw [hz]; exact f2.tr (FrP.s42 (by decide))
              have i0 : itu (itu it 0 (vs (j + 1))) (0 + 1) (vs (j + 1 + 1)) 0 = vs (j + 1) := rfl
              have i1 : itu (itu it 0 (vs (j + 1))) (0 + 1) (vs (j + 1 + 1)) 1 = vs (j + 1 + 1) := rfl
              refine wp_e ed (wp_s ⟨z3, Or.inl ⟨rfl, j + 1 + 1 + 1, 7, 0 + 1 + 1, _, ctu ct 7, M, by omega, z1, ?_, fun q q0 q1 => ?_, hG3, by decide, by decide, hR3⟩⟩)
              · rw [fin_7, i0, i1]
                refine ⟨fun s s0 s1 => ?_, fun r r0 r1' => ?_⟩
                · have s1 : s < M 0 0 := s1
                  show z 43 (8 + s) = M 1 s ∧ z 44 (8 + s) = M 2 s
                  rw [hz, up_k (k := 42) (i := 43) (by decide), up_k (k := 42) (i := 44) (by decide), r1 43 (by decide) (by decide), r1 44 (by decide) (by decide), p1 43 (by decide) (by decide), p1 44 (by decide) (by decide), hf 43 (by decide), hf 44 (by decide)]
                  exact hDb.1 s s0 s1
                · rw [up_s] at r1'
                  show z 45 (8 + r) = _ ∧ z 46 (8 + r) = _
                  rw [hz, up_k (k := 42) (i := 45) (by decide), up_k (k := 42) (i := 46) (by decide), r1 45 (by decide) (by decide), up_k (k := 0) (i := 3) (by decide), up_k (k := 0) (i := 4) (by decide), up_k (k := 4) (i := 3) (by decide)]
                  by_cases hs : r = M 0 1
                  · rw [hs, up_s, up_s, ← hm, p3, r3]; exact ⟨rfl, rfl⟩
                  · rw [up_j hs, up_j hs, up_k (k := 3) (i := 4) (by decide), p2 _ (by omega), r2 _ (by omega), p1 46 (by decide) (by decide), hf 45 (by decide), hf 46 (by decide)]
                    exact hDb.2 r r0 (by omega)
              · show z 42 (15 + q) = fin M 7 _ 0 q
                rw [fin_7]
                by_cases hq : q = 1
                · rw [hq, hz, up_s, up_s, hm]
                · rw [hz, up_j (by omega), r1 42 (by decide) (by decide), p1 42 (by decide) (by decide), hf 42 (by decide), up_j (u := up (up M 3 (M 0 1) _) 4 (M 0 1) _) hq, up_k (k := 4) (i := 0) (by decide), up_k (k := 3) (i := 0) (by decide)]
                  exact hDn q q0 q1
            · have h3' : r = 0 := h0.1
              subst h3'
              refine wp_g (by decide) ?_
              refine wp_t rfl ?_
              exact wp_s (ST.no (FrP.tr (FrP.tr fx fx1) fx2) h0)
          by_cases z : m = 0
          · refine wp_t (by omega) ?_
            have e : lo M 7 (0 + 1) (itu it 0 (vs (j + 1))) = 0 := by
              show (if M 0 1 = 0 then (0 : Int) else M 4 (M 0 1 - 1)) = 0
              exact if_pos (by omega)
            rw [e] at rest3; exact rest3
          · refine wp_f (by omega) ?_
            refine wp_g (by omega) ?_
            have e : lo M 7 (0 + 1) (itu it 0 (vs (j + 1))) = x1 46 (8 + m - 1) := by
              show (if M 0 1 = 0 then (0 : Int) else M 4 (M 0 1 - 1)) = _
              rw [if_neg (by omega), p1 46 (by decide) (by decide), hf 46 (by decide), show 8 + m - 1 = 8 + (M 0 1 - 1) by omega, (hDb.2 (M 0 1 - 1) (by omega) (by omega)).2]
            rw [e] at rest3; exact rest3
        · have h2' : r = 0 := h0.1
          subst h2'
          refine wp_g (by decide) ?_
          refine wp_t rfl ?_
          exact wp_s (ST.no (FrP.tr fx fx1) h0)
      by_cases z : m = 0
      · refine wp_t (by omega) ?_
        have e : lo M 7 0 it = 0 := by
          show (if M 0 1 = 0 then (0 : Int) else M 3 (M 0 1 - 1) + 1) = 0
          exact if_pos (by omega)
        rw [e] at rest2; exact rest2
      · refine wp_f (by omega) ?_
        refine wp_g (by omega) ?_
        have e : lo M 7 0 it = x 45 (8 + m - 1) + 1 := by
          show (if M 0 1 = 0 then (0 : Int) else M 3 (M 0 1 - 1) + 1) = _
          rw [if_neg (by omega), hf 45 (by decide), show 8 + m - 1 = 8 + (M 0 1 - 1) by omega, (hDb.2 (M 0 1 - 1) (by omega) (by omega)).1]
        rw [e] at rest2; exact rest2
    · have h1' : r = 0 := h0.1
      subst h1'
      refine wp_g (by decide) ?_
      refine wp_t rfl ?_
      exact wp_s (ST.no fx h0)
  refine wp_i (fun cc => ?_) (fun cc => ?_)
  · rw [if_pos (by omega)] at rest; exact rest
  · rw [if_neg (by omega)] at rest; exact rest
end WR
