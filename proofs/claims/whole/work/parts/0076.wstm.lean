/-! pure part, 46: the reference's statement -/
section WQ
variable {u : uS} {B : Int → Int} {n K : Int} {ks ss ls vs : Int → Int} {R : Int × Int × uS} {j w ic : Int} {it ct : Int → Int} {M : uS} {k : uS → Option (Int × uS)} {Q : Int × uS → Prop}
theorem wset_k {a b x : Int} (hn : 0 ≤ n ∧ n ≤ 500) (hBb : ∀ q, 0 ≤ q → q < n → 0 ≤ B q ∧ B q < 256) (hT : TD B n K ks ss ls vs) (hS : RSs B n K ks ss ls vs R u j w ic it ct M) (hw : 0 ≤ w ∧ w ≠ 0 ∧ w ≠ 7) (hi1 : ic < ITM w) (ha : a = lo M w ic it) (hb : b = hi w ic it) (hx : x = db w + ic)
    (hno : ∀ y, FrP u y → ER n K ss R 0 y → Q (0, y)) (hk : ∀ y, FrP u y → RSs B n K ks ss ls vs R y (j + 1) w (ic + 1) (itu it ic (vs j)) ct M → y 40 16 = vs j → wp (k y) Q) :
    wp (xbd (f_X10_sets x a b u) fun v u' => xgd (InR v) <| if v = 0 then some ((0 : Int), u') else k u') Q := by
  refine wp_b (wsets hn hBb hT hS hw hi1 ha hb hx) (fun r y hy => ?_)
  obtain ⟨fy, hy⟩ := hy
  rcases hy with ⟨h1, h2, h3⟩ | h
  · have h1' : r = 1 := h1
    subst h1'
    refine wp_g (by decide) ?_
    refine wp_f (by decide) ?_
    exact hk y fy h2 h3
  · have h1' : r = 0 := h.1
    subst h1'
    refine wp_g (by decide) ?_
    refine wp_t rfl ?_
    exact wp_s (hno y fy h)
theorem wonce_k {b : Int} (hn : 0 ≤ n ∧ n ≤ 500) (hBb : ∀ q, 0 ≤ q → q < n → 0 ≤ B q ∧ B q < 256) (hT : TD B n K ks ss ls vs) (hb : 0 ≤ b ∧ b < 7) (hw : w = wb b) (hS : RS0 B n K ks ss ls vs u j ct) (hDb : DRb u M) (hDn : DRn u (M 0)) (hj : j < K) (hsr : srj B ks ss ls j = w) (hG : Gd (-1) ic it ct M) (hR : R = mr ks vs (srj B ks ss ls) K j (-1) ic it ct M)
    (hno : ∀ y, FrP u y → ER n K ss R 0 y → Q (0, y)) (hk : ∀ y, FrP u y → RSs B n K ks ss ls vs R y (j + 1) w 0 it (ctu ct w) M → wp (k y) Q) :
    wp (xbd (f_X10_once b u) fun v u' => xgd (InR v) <| if v = 0 then some ((0 : Int), u') else k u') Q := by
  refine wp_b (wonce hn hBb hT hb hw hS hj hsr hG hR) (fun r y hy => ?_)
  obtain ⟨fy, hy⟩ := hy
  rcases hy with ⟨h1, h2, h3, h4, h5⟩ | h
  · have h1' : r = 1 := h1
    subst h1'
    refine wp_g (by decide) ?_
    refine wp_f (by decide) ?_
    have h2 : ∀ c, c ≠ 40 → y c = u c := h2
    refine hk y fy ⟨h3, hDb.rw (fun c c0 c1 => h2 c (by omega)), ?_, h4, h5⟩
    have e : dn w 0 it M = M 0 := by
      funext q
      unfold dn
      exact if_neg (by omega)
    rw [e]
    exact hDn.rw (h2 42 (by decide))
  · have h1' : r = 0 := h.1
    subst h1'
    refine wp_g (by decide) ?_
    refine wp_t rfl ?_
    exact wp_s (hno y fy h)
theorem wstatement (hn : 0 ≤ n ∧ n ≤ 500) (hBb : ∀ q, 0 ≤ q → q < n → 0 ≤ B q ∧ B q < 256) (hT : TD B n K ks ss ls vs) (hS : RS0 B n K ks ss ls vs u j ct) (hDb : DRb u M) (hDn : DRn u (M 0)) (hj : j < K) (hG : Gd (-1) ic it ct M) (hR : R = mr ks vs (srj B ks ss ls) K j (-1) ic it ct M) :
    wp (f_X10_statement u) (fun q => ST B n K ks ss ls vs R u j q) := by
  have hW : ∀ (k : Nat) (w : Int), (0 ≤ w ∧ w < 9) → (k : Int) = 2000 + w → f_X10_isWord k u = some (if srj B ks ss ls j = w then 1 else 0, u) := fun k w hw hk => wisWord hT hn hS.1 hj hw hk
  have hcs := @srt_c B (ks j) (ss j) (ls j)
  have hcc : srj B ks ss ls j = -1 ∨ srj B ks ss ls j = 0 ∨ srj B ks ss ls j = 7 ∨ srj B ks ss ls j = 1 ∨ srj B ks ss ls j = 2 ∨ srj B ks ss ls j = 3 ∨ srj B ks ss ls j = 4 ∨ srj B ks ss ls j = 5 ∨ srj B ks ss ls j = 6 ∨ srj B ks ss ls j = 8 := by
    have e : srt B (ks j) (ss j) (ls j) = srj B ks ss ls j := rfl
    rw [e] at hcs
    rcases hcs with ⟨h, -⟩ | ⟨-, h, -⟩ <;> omega
  have hno : ∀ x, FrP u x → ∀ y, FrP x y → ER n K ss R 0 y → ST B n K ks ss ls vs R u j (0, y) := fun x fx y fy h => ST.no (fx.tr fy) h
  unfold f_X10_statement
  rcases hcc with hc | hc | hc | hc | hc | hc | hc | hc | hc | hc
  · refine wp_e (hW 2000 0 (by decide) (by decide)) ?_
    rw [if_neg (by omega)]
    refine wp_g (by decide) ?_
    refine wp_t rfl ?_
    refine wp_e (hW 2007 7 (by decide) (by decide)) ?_
    rw [if_neg (by omega)]
    refine wp_g (by decide) ?_
    refine wp_t rfl ?_
    refine wp_e (hW 2001 1 (by decide) (by decide)) ?_
    rw [if_neg (by omega)]
    refine wp_g (by decide) ?_
    refine wp_t rfl ?_
    refine wp_e (hW 2002 2 (by decide) (by decide)) ?_
    rw [if_neg (by omega)]
    refine wp_g (by decide) ?_
    refine wp_t rfl ?_
    refine wp_e (hW 2003 3 (by decide) (by decide)) ?_
    rw [if_neg (by omega)]
    refine wp_g (by decide) ?_
    refine wp_t rfl ?_
    refine wp_e (hW 2004 4 (by decide) (by decide)) ?_
    rw [if_neg (by omega)]
    refine wp_g (by decide) ?_
    refine wp_t rfl ?_
    refine wp_e (hW 2005 5 (by decide) (by decide)) ?_
    rw [if_neg (by omega)]
    refine wp_g (by decide) ?_
    refine wp_t rfl ?_
    refine wp_e (hW 2006 6 (by decide) (by decide)) ?_
    rw [if_neg (by omega)]
    refine wp_g (by decide) ?_
    refine wp_t rfl ?_
    refine wp_e (hW 2008 8 (by decide) (by decide)) ?_
    rw [if_neg (by omega)]
    refine wp_g (by decide) ?_
    refine wp_t rfl ?_
    rw [mr_s hj, if_pos rfl, if_pos hc] at hR
    exact ebit (P := fun r w => FrP u w ∧ ER n K ss R r w) (wfails hS.1 hS.2.1 (by decide) hR) (fun r w h => Or.inl h.2.1) (fun r w h => ⟨h.1, Or.inr h.2⟩)
  · refine wp_e (hW 2000 0 (by decide) (by decide)) ?_
    rw [if_pos hc]
    refine wp_g (by decide) ?_
    refine wp_f (by decide) ?_
    refine wp_b (wstation hn hBb hT hS hDb hDn hj hc hG hR) (fun r x hx => ?_)
    have hx : ST B n K ks ss ls vs R u j (r, x) := hx
    have hr : r = 0 ∨ r = 1 := by
      rcases hx.2 with ⟨h, -⟩ | h
      · exact Or.inr h
      · exact Or.inl h.1
    exact wp_g hr (wp_s hx)
  · refine wp_e (hW 2000 0 (by decide) (by decide)) ?_
    rw [if_neg (by omega)]
    refine wp_g (by decide) ?_
    refine wp_t rfl ?_
    refine wp_e (hW 2007 7 (by decide) (by decide)) ?_
    rw [if_pos hc]
    refine wp_g (by decide) ?_
    refine wp_f (by decide) ?_
    refine wp_b (wrung hn hBb hT hS hDb hDn hj hc hG hR) (fun r x hx => ?_)
    have hx : ST B n K ks ss ls vs R u j (r, x) := hx
    have hr : r = 0 ∨ r = 1 := by
      rcases hx.2 with ⟨h, -⟩ | h
      · exact Or.inr h
      · exact Or.inl h.1
    exact wp_g hr (wp_s hx)
  · refine wp_e (hW 2000 0 (by decide) (by decide)) ?_
    rw [if_neg (by omega)]
    refine wp_g (by decide) ?_
    refine wp_t rfl ?_
    refine wp_e (hW 2007 7 (by decide) (by decide)) ?_
    rw [if_neg (by omega)]
    refine wp_g (by decide) ?_
    refine wp_t rfl ?_
    refine wp_e (hW 2001 1 (by decide) (by decide)) ?_
    rw [if_pos hc]
    refine wp_g (by decide) ?_
    refine wp_f (by decide) ?_
    refine wonce_k hn hBb hT (w := 1) (by decide) rfl hS hDb hDn hj hc hG hR (hno u FrP.rf) (fun x0 f0 s0 => ?_)
    refine wset_k hn hBb hT s0 (by decide) (by decide) rfl rfl rfl (hno x0 f0) (fun x1 g1 s1 e16 => ?_)
    have f1 := f0.tr g1
    refine wset_k hn hBb hT s1 (by decide) (by decide) rfl rfl rfl (hno x1 f1) (fun x2 g2 s2 e16 => ?_)
    have f2 := f1.tr g2
    refine wset_k hn hBb hT s2 (by decide) (by decide) rfl rfl rfl (hno x2 f2) (fun x3 g3 s3 e16 => ?_)
    have f3 := f2.tr g3
    refine wset_k hn hBb hT s3 (by decide) (by decide) rfl rfl rfl (hno x3 f3) (fun x4 g4 s4 e16 => ?_)
    have f4 := f3.tr g4
    refine wset_k hn hBb hT s4 (by decide) (by decide) rfl rfl rfl (hno x4 f4) (fun x5 g5 s5 e16 => ?_)
    have f5 := f4.tr g5
    exact wp_s ⟨f5, Or.inl ⟨rfl, _, 1, _, _, _, M, by omega, s5.se (by decide) rfl⟩⟩
  · refine wp_e (hW 2000 0 (by decide) (by decide)) ?_
    rw [if_neg (by omega)]
    refine wp_g (by decide) ?_
    refine wp_t rfl ?_
    refine wp_e (hW 2007 7 (by decide) (by decide)) ?_
    rw [if_neg (by omega)]
    refine wp_g (by decide) ?_
    refine wp_t rfl ?_
    refine wp_e (hW 2001 1 (by decide) (by decide)) ?_
    rw [if_neg (by omega)]
    refine wp_g (by decide) ?_
    refine wp_t rfl ?_
    refine wp_e (hW 2002 2 (by decide) (by decide)) ?_
    rw [if_pos hc]
    refine wp_g (by decide) ?_
    refine wp_f (by decide) ?_
    refine wonce_k hn hBb hT (w := 2) (by decide) rfl hS hDb hDn hj hc hG hR (hno u FrP.rf) (fun x0 f0 s0 => ?_)
    refine wset_k hn hBb hT s0 (by decide) (by decide) rfl rfl rfl (hno x0 f0) (fun x1 g1 s1 e16 => ?_)
    have f1 := f0.tr g1
    exact wp_s ⟨f1, Or.inl ⟨rfl, _, 2, _, _, _, M, by omega, s1.se (by decide) rfl⟩⟩
  · refine wp_e (hW 2000 0 (by decide) (by decide)) ?_
    rw [if_neg (by omega)]
    refine wp_g (by decide) ?_
    refine wp_t rfl ?_
    refine wp_e (hW 2007 7 (by decide) (by decide)) ?_
    rw [if_neg (by omega)]
    refine wp_g (by decide) ?_
    refine wp_t rfl ?_
    refine wp_e (hW 2001 1 (by decide) (by decide)) ?_
    rw [if_neg (by omega)]
    refine wp_g (by decide) ?_
    refine wp_t rfl ?_
    refine wp_e (hW 2002 2 (by decide) (by decide)) ?_
    rw [if_neg (by omega)]
    refine wp_g (by decide) ?_
    refine wp_t rfl ?_
    refine wp_e (hW 2003 3 (by decide) (by decide)) ?_
    rw [if_pos hc]
    refine wp_g (by decide) ?_
    refine wp_f (by decide) ?_
    refine wonce_k hn hBb hT (w := 3) (by decide) rfl hS hDb hDn hj hc hG hR (hno u FrP.rf) (fun x0 f0 s0 => ?_)
    refine wset_k hn hBb hT s0 (by decide) (by decide) rfl rfl rfl (hno x0 f0) (fun x1 g1 s1 e16 => ?_)
    have f1 := f0.tr g1
    refine wset_k hn hBb hT s1 (by decide) (by decide) e16 rfl rfl (hno x1 f1) (fun x2 g2 s2 e16 => ?_)
    have f2 := f1.tr g2
    exact wp_s ⟨f2, Or.inl ⟨rfl, _, 3, _, _, _, M, by omega, s2.se (by decide) rfl⟩⟩
  · refine wp_e (hW 2000 0 (by decide) (by decide)) ?_
    rw [if_neg (by omega)]
    refine wp_g (by decide) ?_
    refine wp_t rfl ?_
    refine wp_e (hW 2007 7 (by decide) (by decide)) ?_
    rw [if_neg (by omega)]
    refine wp_g (by decide) ?_
    refine wp_t rfl ?_
    refine wp_e (hW 2001 1 (by decide) (by decide)) ?_
    rw [if_neg (by omega)]
    refine wp_g (by decide) ?_
    refine wp_t rfl ?_
    refine wp_e (hW 2002 2 (by decide) (by decide)) ?_
    rw [if_neg (by omega)]
    refine wp_g (by decide) ?_
    refine wp_t rfl ?_
    refine wp_e (hW 2003 3 (by decide) (by decide)) ?_
    rw [if_neg (by omega)]
    refine wp_g (by decide) ?_
    refine wp_t rfl ?_
    refine wp_e (hW 2004 4 (by decide) (by decide)) ?_
    rw [if_pos hc]
    refine wp_g (by decide) ?_
    refine wp_f (by decide) ?_
    refine wonce_k hn hBb hT (w := 4) (by decide) rfl hS hDb hDn hj hc hG hR (hno u FrP.rf) (fun x0 f0 s0 => ?_)
    refine wset_k hn hBb hT s0 (by decide) (by decide) rfl rfl rfl (hno x0 f0) (fun x1 g1 s1 e16 => ?_)
    have f1 := f0.tr g1
    refine wset_k hn hBb hT s1 (by decide) (by decide) rfl e16 rfl (hno x1 f1) (fun x2 g2 s2 e16 => ?_)
    have f2 := f1.tr g2
    exact wp_s ⟨f2, Or.inl ⟨rfl, _, 4, _, _, _, M, by omega, s2.se (by decide) rfl⟩⟩
  · refine wp_e (hW 2000 0 (by decide) (by decide)) ?_
    rw [if_neg (by omega)]
    refine wp_g (by decide) ?_
    refine wp_t rfl ?_
    refine wp_e (hW 2007 7 (by decide) (by decide)) ?_
    rw [if_neg (by omega)]
    refine wp_g (by decide) ?_
    refine wp_t rfl ?_
    refine wp_e (hW 2001 1 (by decide) (by decide)) ?_
    rw [if_neg (by omega)]
    refine wp_g (by decide) ?_
    refine wp_t rfl ?_
    refine wp_e (hW 2002 2 (by decide) (by decide)) ?_
    rw [if_neg (by omega)]
    refine wp_g (by decide) ?_
    refine wp_t rfl ?_
    refine wp_e (hW 2003 3 (by decide) (by decide)) ?_
    rw [if_neg (by omega)]
    refine wp_g (by decide) ?_
    refine wp_t rfl ?_
    refine wp_e (hW 2004 4 (by decide) (by decide)) ?_
    rw [if_neg (by omega)]
    refine wp_g (by decide) ?_
    refine wp_t rfl ?_
    refine wp_e (hW 2005 5 (by decide) (by decide)) ?_
    rw [if_pos hc]
    refine wp_g (by decide) ?_
    refine wp_f (by decide) ?_
    refine wonce_k hn hBb hT (w := 5) (by decide) rfl hS hDb hDn hj hc hG hR (hno u FrP.rf) (fun x0 f0 s0 => ?_)
    refine wset_k hn hBb hT s0 (by decide) (by decide) rfl rfl rfl (hno x0 f0) (fun x1 g1 s1 e16 => ?_)
    have f1 := f0.tr g1
    exact wp_s ⟨f1, Or.inl ⟨rfl, _, 5, _, _, _, M, by omega, s1.se (by decide) rfl⟩⟩
  · refine wp_e (hW 2000 0 (by decide) (by decide)) ?_
    rw [if_neg (by omega)]
    refine wp_g (by decide) ?_
    refine wp_t rfl ?_
    refine wp_e (hW 2007 7 (by decide) (by decide)) ?_
    rw [if_neg (by omega)]
    refine wp_g (by decide) ?_
    refine wp_t rfl ?_
    refine wp_e (hW 2001 1 (by decide) (by decide)) ?_
    rw [if_neg (by omega)]
    refine wp_g (by decide) ?_
    refine wp_t rfl ?_
    refine wp_e (hW 2002 2 (by decide) (by decide)) ?_
    rw [if_neg (by omega)]
    refine wp_g (by decide) ?_
    refine wp_t rfl ?_
    refine wp_e (hW 2003 3 (by decide) (by decide)) ?_
    rw [if_neg (by omega)]
    refine wp_g (by decide) ?_
    refine wp_t rfl ?_
    refine wp_e (hW 2004 4 (by decide) (by decide)) ?_
    rw [if_neg (by omega)]
    refine wp_g (by decide) ?_
    refine wp_t rfl ?_
    refine wp_e (hW 2005 5 (by decide) (by decide)) ?_
    rw [if_neg (by omega)]
    refine wp_g (by decide) ?_
    refine wp_t rfl ?_
    refine wp_e (hW 2006 6 (by decide) (by decide)) ?_
    rw [if_pos hc]
    refine wp_g (by decide) ?_
    refine wp_f (by decide) ?_
    refine wonce_k hn hBb hT (w := 6) (by decide) rfl hS hDb hDn hj hc hG hR (hno u FrP.rf) (fun x0 f0 s0 => ?_)
    refine wset_k hn hBb hT s0 (by decide) (by decide) rfl rfl rfl (hno x0 f0) (fun x1 g1 s1 e16 => ?_)
    have f1 := f0.tr g1
    exact wp_s ⟨f1, Or.inl ⟨rfl, _, 6, _, _, _, M, by omega, s1.se (by decide) rfl⟩⟩
  · refine wp_e (hW 2000 0 (by decide) (by decide)) ?_
    rw [if_neg (by omega)]
    refine wp_g (by decide) ?_
    refine wp_t rfl ?_
    refine wp_e (hW 2007 7 (by decide) (by decide)) ?_
    rw [if_neg (by omega)]
    refine wp_g (by decide) ?_
    refine wp_t rfl ?_
    refine wp_e (hW 2001 1 (by decide) (by decide)) ?_
    rw [if_neg (by omega)]
    refine wp_g (by decide) ?_
    refine wp_t rfl ?_
    refine wp_e (hW 2002 2 (by decide) (by decide)) ?_
    rw [if_neg (by omega)]
    refine wp_g (by decide) ?_
    refine wp_t rfl ?_
    refine wp_e (hW 2003 3 (by decide) (by decide)) ?_
    rw [if_neg (by omega)]
    refine wp_g (by decide) ?_
    refine wp_t rfl ?_
    refine wp_e (hW 2004 4 (by decide) (by decide)) ?_
    rw [if_neg (by omega)]
    refine wp_g (by decide) ?_
    refine wp_t rfl ?_
    refine wp_e (hW 2005 5 (by decide) (by decide)) ?_
    rw [if_neg (by omega)]
    refine wp_g (by decide) ?_
    refine wp_t rfl ?_
    refine wp_e (hW 2006 6 (by decide) (by decide)) ?_
    rw [if_neg (by omega)]
    refine wp_g (by decide) ?_
    refine wp_t rfl ?_
    refine wp_e (hW 2008 8 (by decide) (by decide)) ?_
    rw [if_pos hc]
    refine wp_g (by decide) ?_
    refine wp_f (by decide) ?_
    refine wonce_k hn hBb hT (w := 8) (by decide) rfl hS hDb hDn hj hc hG hR (hno u FrP.rf) (fun x0 f0 s0 => ?_)
    refine wset_k hn hBb hT s0 (by decide) (by decide) rfl rfl rfl (hno x0 f0) (fun x1 g1 s1 e16 => ?_)
    have f1 := f0.tr g1
    exact wp_s ⟨f1, Or.inl ⟨rfl, _, 8, _, _, _, M, by omega, s1.se (by decide) rfl⟩⟩
end WQ
