/-! pure part, the law's own network: where its values lie, and its questions -/
def pc (s : Int) : Nat := (271 + 2 * s).toNat
def kc (p : Int) : Nat := (294 + p).toNat
theorem pc_e {s : Int} (h : 0 ≤ s) : ((pc s : Nat) : Int) = 271 + 2 * s := by unfold pc; omega
theorem kc_e {p : Int} (h : 0 ≤ p) : ((kc p : Nat) : Int) = 294 + p := by unfold kc; omega
/-- the network -/
def LN (u N : uS) : Prop := (u 264 6 = N 0 0 ∧ u 264 10 = N 0 1 ∧ u 264 11 = N 0 2 ∧ u 264 12 = N 0 3 ∧ u 264 13 = N 0 4 ∧ u 264 14 = N 0 5 ∧ u 264 15 = N 0 6 ∧ u 264 16 = N 0 7 ∧ u 264 17 = N 0 8 ∧ u 264 18 = N 0 9 ∧ u 264 19 = N 0 10 ∧ u 264 20 = N 0 11 ∧ u 264 21 = N 0 12 ∧ u 264 22 = N 0 13 ∧ u 264 23 = N 0 14)
  ∧ (∀ s, 0 ≤ s → s < N 0 0 → u 265 s = 271 + 2 * s ∧ u (pc s) 0 = N 1 s ∧ u (pc s) 1 = N 2 s) ∧ (∀ r, 0 ≤ r → r < N 0 1 → u 269 r = N 3 r ∧ u 270 r = N 4 r)
/-- what a situation shows of itself in the law's cells: m stations, a picks, b events -/
def vl (m a b : Int) (j : Nat) (s : Int) : Prop := 0 ≤ s ∧ ((j = 0 ∧ s < 3) ∨ ((j = 1 ∨ j = 5 ∨ j = 6 ∨ j = 7) ∧ s < m) ∨ ((8 ≤ j ∧ j ≤ 12) ∧ s < a) ∨ ((j = 13 ∨ j = 14) ∧ s < b))
def lc (j : Nat) (s : Int) : Nat := if j = 0 then 264 else if j = 13 then 268 else if j = 14 then 267 else if 8 ≤ j then kc s else pc s
def li (j : Nat) (s : Int) : Int := if j = 0 then (if s = 0 then 9 else if s = 1 then 7 else 8) else if 13 ≤ j then s else if 8 ≤ j then (j : Int) - 8 else if j = 1 then 2 else if j = 7 then 3 else if j = 5 then 4 else 5
def VL (m a b : Int) (u V : uS) : Prop := ∀ j s, vl m a b j s → (j = 7 → V 5 s = 1) → u (lc j s) (li j s) = V j s
theorem lc_f {j : Nat} {s : Int} (h : vl 8 60 20 j s) : (j = 0 ∧ lc j s = 264 ∧ ((s = 0 ∧ li j s = 9) ∨ (s = 1 ∧ li j s = 7) ∨ (s = 2 ∧ li j s = 8))) ∨ (j = 13 ∧ lc j s = 268 ∧ li j s = s) ∨ (j = 14 ∧ lc j s = 267 ∧ li j s = s) ∨ ((8 ≤ j ∧ j ≤ 12) ∧ ((lc j s : Nat) : Int) = 294 + s ∧ li j s = (j : Int) - 8) ∨ (((j = 1 ∧ li j s = 2) ∨ (j = 7 ∧ li j s = 3) ∨ (j = 5 ∧ li j s = 4) ∨ (j = 6 ∧ li j s = 5)) ∧ ((lc j s : Nat) : Int) = 271 + 2 * s) := by
  unfold vl at h
  unfold lc li
  rcases h with ⟨h0, ⟨rfl, h⟩ | ⟨rfl | rfl | rfl | rfl, h⟩ | ⟨h1, h⟩ | ⟨rfl | rfl, h⟩⟩
  · left
    rw [if_pos rfl, if_pos rfl]
    refine ⟨rfl, rfl, ?_⟩
    have : s = 0 ∨ s = 1 ∨ s = 2 := by omega
    rcases this with rfl | rfl | rfl
    · exact Or.inl ⟨rfl, rfl⟩
    · exact Or.inr (Or.inl ⟨rfl, rfl⟩)
    · exact Or.inr (Or.inr ⟨rfl, rfl⟩)
  · exact Or.inr (Or.inr (Or.inr (Or.inr ⟨Or.inl ⟨rfl, rfl⟩, pc_e h0⟩)))
  · exact Or.inr (Or.inr (Or.inr (Or.inr ⟨Or.inr (Or.inr (Or.inl ⟨rfl, rfl⟩)), pc_e h0⟩)))
  · exact Or.inr (Or.inr (Or.inr (Or.inr ⟨Or.inr (Or.inr (Or.inr ⟨rfl, rfl⟩)), pc_e h0⟩)))
  · exact Or.inr (Or.inr (Or.inr (Or.inr ⟨Or.inr (Or.inl ⟨rfl, rfl⟩), pc_e h0⟩)))
  · refine Or.inr (Or.inr (Or.inr (Or.inl ⟨h1, ?_, ?_⟩)))
    · rw [if_neg (by omega), if_neg (by omega), if_neg (by omega), if_pos (by omega)]; exact kc_e h0
    · rw [if_neg (by omega), if_neg (by omega), if_pos (by omega)]
  · exact Or.inr (Or.inl ⟨rfl, rfl, rfl⟩)
  · exact Or.inr (Or.inr (Or.inl ⟨rfl, rfl, rfl⟩))
theorem lc_inj {j j' : Nat} {s s' : Int} (h : vl 8 60 20 j s) (h' : vl 8 60 20 j' s') (e : lc j s = lc j' s') (e2 : li j s = li j' s') : j = j' ∧ s = s' := by
  have f := lc_f h
  have f' := lc_f h'
  have b := h
  have b' := h'
  unfold vl at b b'
  generalize lc j s = c at *
  generalize li j s = i at *
  subst e e2
  rcases f with f | f | f | f | f <;> rcases f' with f' | f' | f' | f' | f' <;> omega
theorem vl_lim {m a b : Int} {j : Nat} {s : Int} (h : vl m a b j s) (hm : m ≤ 8) (ha : a ≤ 60) (hb : b ≤ 20) : vl 8 60 20 j s := by unfold vl at *; omega
/-- the cells that tell a situation -/
def lcell (c : Nat) (i : Int) : Prop := (c = 264 ∧ 7 ≤ i ∧ i ≤ 9) ∨ c = 267 ∨ c = 268 ∨ (271 ≤ c ∧ c < 287 ∧ c % 2 = 1 ∧ 2 ≤ i ∧ i ≤ 5) ∨ (294 ≤ c ∧ c < 354)
theorem lc_cell {j : Nat} {s : Int} (h : vl 8 60 20 j s) : lcell (lc j s) (li j s) := by
  have f := lc_f h
  have b := h
  unfold vl at b
  unfold lcell
  generalize lc j s = c at *
  generalize li j s = i at *
  rcases f with f | f | f | f | f <;> omega
section LQ
variable {u w N V : uS} {m a b : Int}
theorem VL.fr (h : VL m a b u V) (hm : m ≤ 8) (ha : a ≤ 60) (hb : b ≤ 20) (hw : ∀ c i, lcell c i → w c i = u c i) : VL m a b w V := fun j s hv h7 => (hw _ _ (lc_cell (vl_lim hv hm ha hb))).trans (h j s hv h7)
theorem VL.st (h : VL m a b u V) (hm : m ≤ 8) (ha : a ≤ 60) (hb : b ≤ 20) (j0 : Nat) (s0 v' : Int) {c : Nat} {i v : Int} (hw : w = up u c i v) (e : v = v') (hv : vl 8 60 20 j0 s0) (hc : c = lc j0 s0) (hi : i = li j0 s0) (h5 : j0 = 5 → v' = 1 → V 5 s0 = 1 ∨ u (lc 7 s0) (li 7 s0) = V 7 s0) : VL m a b w (up V j0 s0 v') := by
  subst hw e hc hi
  intro j s hv2 h7
  have hl := vl_lim hv2 hm ha hb
  by_cases hq : j = j0 ∧ s = s0
  · obtain ⟨rfl, rfl⟩ := hq
    rw [up_s, up_s]
  · have hne : ¬ (lc j s = lc j0 s0 ∧ li j s = li j0 s0) := fun q => hq (lc_inj hl hv q.1 q.2)
    rw [up_n (by omega), up_n (by omega)]
    by_cases h6 : j = 7
    · subst h6
      have h8 := h7 rfl
      by_cases h9 : j0 = 5 ∧ s = s0
      · obtain ⟨rfl, rfl⟩ := h9
        rw [up_s] at h8
        rcases h5 rfl h8 with q | q
        · exact h 7 s hv2 (fun _ => q)
        · exact q
      · rw [up_n (by omega)] at h8
        exact h 7 s hv2 (fun _ => h8)
    · exact h j s hv2 (fun q => absurd q h6)
/-- the samples since the network began, as far as they are asked for -/
def SMP (N u V : uS) : Prop := ∀ s t, 0 ≤ s → s < N 0 0 → 1 ≤ t → V 0 0 - 99 < t → t ≤ V 0 0 → u (pc s + 1) t = V 2 (99 * s + t % 99)
def PXl (u V : uS) : Prop := ∀ p, 0 ≤ p → p < 60 → u 266 p = if p < V 0 1 then 294 + p else -1
def GZ (u V : uS) : Prop := ∀ e, V 0 2 ≤ e → e < 20 → u 267 e = 0
def LR (N u V : uS) : Prop := VL (N 0 0) (V 0 1) (V 0 2) u V ∧ SMP N u V ∧ PXl u V ∧ GZ u V
theorem LR.t (h : LR N u V) : u 264 9 = V 0 0 := h.1 0 0 (by unfold vl; omega) (fun q => by omega)
theorem LR.n (h : LR N u V) : u 264 7 = V 0 1 := h.1 0 1 (by unfold vl; omega) (fun q => by omega)
theorem LR.e (h : LR N u V) : u 264 8 = V 0 2 := h.1 0 2 (by unfold vl; omega) (fun q => by omega)
theorem LR.lv (h : LR N u V) {s : Int} (h0 : 0 ≤ s) (h1 : s < N 0 0) : u (pc s) 2 = V 1 s := h.1 1 s (by unfold vl; omega) (fun q => by omega)
theorem LR.on (h : LR N u V) {s : Int} (h0 : 0 ≤ s) (h1 : s < N 0 0) : u (pc s) 4 = V 5 s := h.1 5 s (by unfold vl; omega) (fun q => by omega)
theorem LR.mu (h : LR N u V) {s : Int} (h0 : 0 ≤ s) (h1 : s < N 0 0) : u (pc s) 5 = V 6 s := h.1 6 s (by unfold vl; omega) (fun q => by omega)
theorem LR.la (h : LR N u V) {s : Int} (h0 : 0 ≤ s) (h1 : s < N 0 0) (h5 : V 5 s = 1) : u (pc s) 3 = V 7 s := h.1 7 s (by unfold vl; omega) (fun _ => h5)
theorem LR.ps (h : LR N u V) {s : Int} (h0 : 0 ≤ s) (h1 : s < V 0 1) : u (kc s) 0 = V 8 s := h.1 8 s (by unfold vl; omega) (fun q => by omega)
theorem LR.pt (h : LR N u V) {s : Int} (h0 : 0 ≤ s) (h1 : s < V 0 1) : u (kc s) 1 = V 9 s := h.1 9 s (by unfold vl; omega) (fun q => by omega)
theorem LR.pp (h : LR N u V) {s : Int} (h0 : 0 ≤ s) (h1 : s < V 0 1) : u (kc s) 2 = V 10 s := h.1 10 s (by unfold vl; omega) (fun q => by omega)
theorem LR.pe (h : LR N u V) {s : Int} (h0 : 0 ≤ s) (h1 : s < V 0 1) : u (kc s) 3 = V 11 s := h.1 11 s (by unfold vl; omega) (fun q => by omega)
theorem LR.pr (h : LR N u V) {s : Int} (h0 : 0 ≤ s) (h1 : s < V 0 1) : u (kc s) 4 = V 12 s := h.1 12 s (by unfold vl; omega) (fun q => by omega)
theorem LR.dc (h : LR N u V) {s : Int} (h0 : 0 ≤ s) (h1 : s < V 0 2) : u 268 s = V 13 s := h.1 13 s (by unfold vl; omega) (fun q => by omega)
theorem LR.re (h : LR N u V) {s : Int} (h0 : 0 ≤ s) (h1 : s < V 0 2) : u 267 s = V 14 s := h.1 14 s (by unfold vl; omega) (fun q => by omega)
theorem LR.px (h : LR N u V) {p : Int} (h0 : 0 ≤ p) (h1 : p < V 0 1) (h2 : V 0 1 ≤ 60) : 0 ≤ u 266 p ∧ (u 266 p).toNat = kc p := by
  have e := h.2.2.1 p h0 (by omega)
  rw [if_pos h1] at e
  unfold kc
  omega
theorem LN.px (h : LN u N) {s : Int} (h0 : 0 ≤ s) (h1 : s < N 0 0) : 0 ≤ u 265 s ∧ (u 265 s).toNat = pc s := by
  have e := (h.2.1 s h0 h1).1
  unfold pc
  omega
/-- the cells of the law's that its questions leave -/
def LK (u w : uS) : Prop := ∀ c, ¬ (c = 292 ∨ c = 293 ∨ c = 354 ∨ c = 355 ∨ c = 357) → w c = u c
theorem LK.rf : LK u u := fun _ _ => rfl
theorem LK.tr {v : uS} (h : LK u v) (h2 : LK v w) : LK u w := fun c hc => (h2 c hc).trans (h c hc)
theorem LN.k (h : LN u N) (hN : NWF N) (hw : LK u w) : LN w N := by
  obtain ⟨n0, -⟩ := hN
  unfold LN
  rw [hw 264 (by decide), hw 265 (by decide), hw 269 (by decide), hw 270 (by decide)]
  refine ⟨h.1, fun s s0 s1 => ?_, h.2.2⟩
  have := pc_e s0
  rw [hw (pc s) (by omega)]
  exact h.2.1 s s0 s1
theorem LR.k (h : LR N u V) (hN : NWF N) (hV : WFb N V) (hw : LK u w) : LR N w V := by
  obtain ⟨n0, -⟩ := hN
  obtain ⟨b0, b1, b2, -⟩ := hV
  obtain ⟨h1, h2, h3, h4⟩ := h
  refine ⟨h1.fr n0.2 b1.2 b2.2 (fun c i hc => by rw [hw c (by unfold lcell at hc; omega)]), fun s t s0 s1 => ?_, fun p => ?_, fun e => ?_⟩
  · have := pc_e s0
    rw [hw (pc s + 1) (by omega)]
    exact h2 s t s0 s1
  · rw [hw 266 (by decide)]; exact h3 p
  · rw [hw 267 (by decide)]; exact h4 e
theorem rs_sq {X : Int} : ∀ {b : Nat} {a : Int}, 0 ≤ a → a * a ≤ X → X < (a + 2 ^ b) * (a + 2 ^ b) → rs X b a * rs X b a ≤ X ∧ X < (rs X b a + 1) * (rs X b a + 1) := by
  intro b
  induction b with
  | zero => intro a h0 h1 h2; exact ⟨h1, h2⟩
  | succ b ih =>
    intro a h0 h1 h2
    have hp := two_pow_pos' b
    have e : (2 : Int) ^ (b + 1) = 2 ^ b + 2 ^ b := by rw [Int.pow_succ]; omega
    have es : rs X (b + 1) a = rs X b (if (a + (2 : Int) ^ b) * (a + (2 : Int) ^ b) ≤ X then a + (2 : Int) ^ b else a) := rfl
    rw [es]
    by_cases h : (a + (2 : Int) ^ b) * (a + (2 : Int) ^ b) ≤ X
    · rw [if_pos h]
      refine ih (by omega) h ?_
      rw [e] at h2
      rw [show a + 2 ^ b + 2 ^ b = a + (2 ^ b + 2 ^ b) by omega]
      exact h2
    · rw [if_neg h]
      exact ih h0 h1 (by omega)
theorem qroot {X : Int} (h : 0 ≤ X ∧ X ≤ 15999999) : f_X10_root X u = some (rs X 13 0, u) := by
  obtain ⟨r1, r2⟩ := rs_sq (X := X) (b := 13) (a := 0) (by decide) (by omega) (by omega)
  have rb := rs_b (x := X) (b := 13) (a := 0) (by decide)
  generalize rs X 13 0 = r at *
  have r4 : r < 4000 := by
    by_cases q : r < 4000
    · exact q
    · have := Int.mul_le_mul (a := 4000) (b := 4000) (c := r) (d := r) (by omega) (by omega) (by omega) (by omega)
      omega
  refine wp_eq ?_
  unfold f_X10_root
  refine wl3 (fun l h v => v = u ∧ 0 ≤ l ∧ l ≤ r ∧ r ≤ h ∧ h ≤ 4000) (fun l h _ => (h - l).toNat) (fun go l h v hI hg => ?_) FU _ _ _ ⟨rfl, by omega, by omega, by omega, by omega⟩ (FU_l (by omega))
  obtain ⟨rfl, h1, h2, h3, h4⟩ := hI
  unfold s_X10_root_6
  refine wp_g (by omega) ?_
  refine wp_i (fun c => ?_) (fun c => ?_)
  · exact wp_s (by rw [show l = r by omega])
  · have ed : Int.tdiv ((l + h) + 1) 2 = (l + h + 1) / 2 := Int.tdiv_eq_ediv_of_nonneg (by omega)
    refine wp_g (by omega) ?_
    refine wp_L ?_
    rw [ed]
    have hm : l < (l + h + 1) / 2 ∧ (l + h + 1) / 2 ≤ h := by omega
    generalize (l + h + 1) / 2 = m at *
    have hsq := sq_le (a := m) (B := 4000) (by omega) (by decide)
    refine wp_g (by omega) ?_
    refine wp_i (fun c => ?_) (fun c => ?_)
    · refine wp_L ?_
      refine hg _ _ _ ⟨rfl, by omega, by omega, ?_, by omega⟩ (by omega)
      by_cases q : r ≤ m - 1
      · exact q
      · have := Int.mul_le_mul (a := m) (b := m) (c := r) (d := r) (by omega) (by omega) (by omega) (by omega)
        omega
    · refine hg _ _ _ ⟨rfl, by omega, ?_, by omega, by omega⟩ (by omega)
      by_cases q : m ≤ r
      · exact q
      · have := Int.mul_le_mul (a := r + 1) (b := r + 1) (c := m) (d := m) (by omega) (by omega) (by omega) (by omega)
        omega
theorem qfar {x y : Int} {k : Nat} (hx : -2500 ≤ x - u k 0 ∧ x - u k 0 ≤ 2500) (hy : -2500 ≤ y - u k 1 ∧ y - u k 1 ≤ 2500) : f_X10_far x y k u = some (dst (x - u k 0) (y - u k 1), u) := by
  have h1 := sq_le hx (by decide)
  have h2 := sq_le hy (by decide)
  refine wp_eq ?_
  unfold f_X10_far
  refine wp_e (qroot (by omega)) ?_
  exact wp_s rfl
theorem qtime {x y : Int} {s : Int} (hN : NWF N) (hn : LN u N) (hs : 0 ≤ s ∧ s < N 0 0) (hx : 0 ≤ x ∧ x ≤ 2100) (hy : 0 ≤ y ∧ y ≤ 2100) : f_X10_time x y (pc s) u = some ((dst (x - N 1 s) (y - N 2 s) * 10).tdiv (N 0 7), u) := by
  obtain ⟨n0, n1, n2, n3, n4, n5, n6, n7, n8, n9, n10, n11, n12, n13, n14, nS, nR⟩ := hN
  obtain ⟨-, e1, e2⟩ := hn.2.1 s hs.1 hs.2
  have b := nS s hs.1 hs.2
  have e7 := hn.1.2.2.2.2.2.2.2.1
  have db := dst_b (x - N 1 s) (y - N 2 s)
  refine wp_eq ?_
  unfold f_X10_time
  refine wp_e (qfar (by omega) (by omega)) ?_
  rw [e1, e2, e7]
  refine wp_g (by omega) ?_
  exact wp_s rfl
theorem qbetween {p q : Int} (hN : NWF N) (hn : LN u N) (hp : 0 ≤ p ∧ p < N 0 0) (hq : 0 ≤ q ∧ q < N 0 0) : f_X10_time (u (pc p) 0) (u (pc p) 1) (pc q) u = some (tvS N p q, u) := by
  have hN2 := hN
  obtain ⟨n0, n1, n2, n3, n4, n5, n6, n7, n8, n9, n10, n11, n12, n13, n14, nS, nR⟩ := hN
  obtain ⟨-, e1, e2⟩ := hn.2.1 p hp.1 hp.2
  have b := nS p hp.1 hp.2
  rw [e1, e2]
  exact qtime hN2 hn hq (by omega) (by omega)
theorem qsum {s k : Int} (hN : NWF N) (hn : LN u N) (hV : WFb N V) (hm : LR N u V) (hs : 0 ≤ s ∧ s < N 0 0) (hk : 0 ≤ k ∧ k ≤ 99) (ht : V 0 0 < 400) : f_X10_sum (pc s) k u = some (lat V s k, u) := by
  have e0 := hm.t
  obtain ⟨b0, b1, b2, bS, bI, bP, bE⟩ := hV
  refine wp_eq ?_
  unfold f_X10_sum
  rw [e0]
  refine wp_g (by omega) ?_
  refine wp_L ?_
  have hz : ∀ d n : Nat, V 0 0 ≤ n → sg (fun b => smA V s (V 0 0 - b)) (n + d) = sg (fun b => smA V s (V 0 0 - b)) n := by
    intro d
    induction d with
    | zero => intro n _; rfl
    | succ d ih =>
      intro n hn
      show sg _ (n + d) + smA V s (V 0 0 - ((n + d : Nat) : Int)) = _
      rw [ih n hn]
      unfold smA
      rw [if_pos (by omega)]
      omega
  have e1 : maxI 1 (V 0 0 - k + 1) = V 0 0 + 1 - (if k ≤ V 0 0 then k else V 0 0) := by
    unfold maxI
    split <;> split <;> omega
  have e2 : sg (fun b => smA V s (V 0 0 - b)) (if k ≤ V 0 0 then k else V 0 0).toNat = lat V s k := by
    unfold lat
    by_cases h : k ≤ V 0 0
    · rw [if_pos h]
    · rw [if_neg h]
      have := hz (k.toNat - (V 0 0).toNat) (V 0 0).toNat (by omega)
      rw [show (V 0 0).toNat + (k.toNat - (V 0 0).toNat) = k.toNat by omega] at this
      exact this.symm
  have e3 : 0 ≤ (if k ≤ V 0 0 then k else V 0 0) ∧ (if k ≤ V 0 0 then k else V 0 0) ≤ V 0 0 ∧ (if k ≤ V 0 0 then k else V 0 0) ≤ 99 := by split <;> omega
  rw [e1]
  generalize (if k ≤ V 0 0 then k else V 0 0) = d at *
  refine wl3 (fun f t v => v = u ∧ V 0 0 + 1 - d ≤ t ∧ t ≤ V 0 0 + 1 ∧ f = lat V s k - sg (fun b => smA V s (V 0 0 - b)) (V 0 0 + 1 - t).toNat) (fun _ t _ => (V 0 0 + 1 - t).toNat) (fun go f t v hI hg => ?_) FU _ _ _ ⟨rfl, by omega, by omega, by rw [show V 0 0 + 1 - (V 0 0 + 1 - d) = d by omega, e2]; omega⟩ (FU_l (by omega))
  obtain ⟨rfl, h1, h2, rfl⟩ := hI
  unfold s_X10_sum_16
  rw [e0]
  refine wp_g (by omega) ?_
  refine wp_i (fun c => ?_) (fun c => ?_)
  · refine wp_s ?_
    rw [show V 0 0 + 1 - t = 0 by omega]
    show (lat V s k - 0, _) = _
    rw [Int.sub_zero]
  · have e4 := hm.2.1 s t hs.1 hs.2 (by omega) (by omega) (by omega)
    repeat (first | (with_reducible refine wp_L ?_) | (with_reducible refine wp_g ?_ ?_; · omega) | (with_reducible refine wp_f ?_ ?_; · omega) | (with_reducible refine wp_t ?_ ?_; · omega))
    refine hg _ _ _ ⟨rfl, by omega, by omega, ?_⟩ (by omega)
    rw [e4, show V 0 0 + 1 - t = V 0 0 - t + 1 by omega, sg_s (by omega), show V 0 0 + 1 - (t + 1) = V 0 0 - t by omega]
    show _ - (_ + smA V s (V 0 0 - (V 0 0 - t))) + _ = _
    unfold smA
    rw [show V 0 0 - (V 0 0 - t) = t by omega, if_neg (by omega)]
    omega
theorem qratio {s : Int} (hN : NWF N) (hn : LN u N) (hV : WFb N V) (hm : LR N u V) (hs : 0 ≤ s ∧ s < N 0 0) (ht : V 0 0 < 400) : f_X10_ratio (pc s) u = some (rto N V s, u) := by
  have hN2 := hN
  obtain ⟨n0, n1, n2, n3, n4, n5, n6, n7, n8, n9, n10, n11, n12, n13, n14, nS, nR⟩ := hN
  have e8 := hn.1.2.2.2.2.2.2.2.2.1
  have e9 := hn.1.2.2.2.2.2.2.2.2.2.1
  have l8 := lat_b hV (s := s) (by omega) (m := N 0 8) (by omega)
  have l9 := lat_b hV (s := s) (by omega) (m := N 0 9) (by omega)
  refine wp_eq ?_
  unfold f_X10_ratio
  rw [e9]
  refine wp_e (qsum hN2 hn hV hm hs (by omega) ht) ?_
  have q8 := qsum (k := N 0 8) hN2 hn hV hm hs (by omega) ht
  unfold rto rat
  generalize lat V s (N 0 8) = S at *
  generalize lat V s (N 0 9) = L at *
  refine wp_g (by omega) ?_
  refine wp_g (by omega) ?_
  refine wp_i (fun c => ?_) (fun c => ?_)
  · refine wp_s ?_
    have hL : L = 0 := by
      unfold cmpL at c
      split at c
      · omega
      · split at c <;> omega
    rw [if_pos hL]
  · have hL : L ≠ 0 := fun q => c (by subst q; rfl)
    have p1 : 0 ≤ S * N 0 9 := Int.mul_nonneg l8.1 (by omega)
    have p2 : S * N 0 9 ≤ 989901 * 99 := Int.mul_le_mul l8.2 (by omega) (by omega) (by decide)
    have p3 : L * 1 ≤ L * N 0 8 := Int.mul_le_mul_of_nonneg_left n8.1 (by omega)
    have p4 : L * N 0 8 ≤ 989901 * 99 := Int.mul_le_mul l9.2 (by omega) (by omega) (by decide)
    rw [e8]
    refine wp_e q8 ?_
    rw [e8, e9]
    refine wp_g (by omega) ?_
    refine wp_g (by omega) ?_
    refine wp_g (by omega) ?_
    refine wp_g ⟨⟨by omega, by omega⟩, ⟨by omega, by omega⟩, by omega⟩ ?_
    rw [if_neg hL]
    exact wp_s rfl
theorem qfit {p q : Int} (hN : NWF N) (hn : LN u N) (hV : WFb N V) (hm : LR N u V) (hp : 0 ≤ p ∧ p < V 0 1) (hq : 0 ≤ q ∧ q < V 0 1) : f_X10_fit (kc p) (kc q) u = some (if fit N V p q then 1 else 0, u) := by
  have hN2 := hN
  obtain ⟨n0, n1, n2, n3, n4, n5, n6, n7, n8, n9, n10, n11, n12, n13, n14, nS, nR⟩ := hN
  obtain ⟨b0, b1, b2, bS, bI, bP, bE⟩ := hV
  have bp := bP p hp.1 hp.2
  have bq := bP q hq.1 hq.2
  have e22 := hn.1.2.2.2.2.2.2.2.2.2.2.2.2.2.1
  have tb := tvS_b hN2 (V 8 p) (V 8 q)
  have ab := absI_b (V 9 p - V 9 q)
  refine wp_eq ?_
  unfold f_X10_fit fit
  rw [hm.ps hp.1 hp.2, hm.ps hq.1 hq.2, hm.pr hp.1 hp.2, hm.pr hq.1 hq.2, hm.pt hp.1 hp.2, hm.pt hq.1 hq.2]
  refine wp_g (by omega) ?_
  refine wp_i (fun c => ?_) (fun c => ?_)
  · exact wp_s (by rw [if_neg (fun h => h.1 c)])
  · refine wp_g (by omega) ?_
    refine wp_i (fun c => ?_) (fun c => ?_)
    · refine wp_g (by omega) ?_
      refine wp_i (fun c => ?_) (fun c => ?_)
      · obtain ⟨x1, x2⟩ := hn.px (s := V 8 p) (by omega) (by omega)
        obtain ⟨x3, x4⟩ := hn.px (s := V 8 q) (by omega) (by omega)
        repeat (first | (with_reducible refine wp_L ?_) | (with_reducible refine wp_g ?_ ?_; · omega) | (with_reducible refine wp_f ?_ ?_; · omega) | (with_reducible refine wp_t ?_ ?_; · omega))
        rw [x2, x4]
        refine wp_e (qbetween hN2 hn (by omega) (by omega)) ?_
        rw [e22]
        refine wp_g (by omega) ?_
        refine wp_i (fun c => ?_) (fun c => ?_)
        · exact wp_s (by rw [if_neg (fun h => by omega)])
        · exact wp_s (by rw [if_pos ⟨by assumption, by omega, by omega, by omega⟩])
      · exact wp_s (by rw [if_neg (fun h => by omega)])
    · exact wp_s (by rw [if_neg (fun h => by omega)])
theorem qsize {e : Int} (hV : WFb N V) (hm : LR N u V) (he : InR e) : f_X10_size e u = some (pk V e, u) := by
  obtain ⟨b0, b1, b2, bS, bI, bP, bE⟩ := hV
  have en := hm.n
  refine wp_eq ?_
  unfold f_X10_size
  refine wl3 (fun f i v => v = u ∧ 0 ≤ i ∧ i ≤ V 0 1 ∧ f = sg (fun p => if V 11 p = e then 1 else 0) i.toNat) (fun _ i _ => (V 0 1 - i).toNat) (fun go f i v hI hg => ?_) FU _ _ _ ⟨rfl, by omega, by omega, rfl⟩ (FU_l (by omega))
  obtain ⟨rfl, h0, h1, rfl⟩ := hI
  unfold s_X10_size_4
  rw [en]
  refine wp_g (by omega) ?_
  refine wp_i (fun c => ?_) (fun c => ?_)
  · refine wp_s ?_
    unfold pk
    rw [show i = V 0 1 by omega]
  · obtain ⟨x1, x2⟩ := hm.px h0 (show i < V 0 1 by omega) b1.2
    have bi := bP i h0 (by omega)
    have e3 := hm.pe h0 (show i < V 0 1 by omega)
    repeat (first | (with_reducible refine wp_L ?_) | (with_reducible refine wp_g ?_ ?_; · omega) | (with_reducible refine wp_f ?_ ?_; · omega) | (with_reducible refine wp_t ?_ ?_; · omega))
    rw [x2, e3]
    refine wp_g (by omega) ?_
    refine wp_i (fun c => ?_) (fun c => ?_)
    · refine hg _ _ _ ⟨rfl, by omega, by omega, ?_⟩ (by omega)
      rw [sg_s h0]
      show _ = _ + (if V 11 i = e then 1 else 0)
      rw [if_pos c]
    · refine hg _ _ _ ⟨rfl, by omega, by omega, ?_⟩ (by omega)
      rw [sg_s h0]
      show _ = _ + (if V 11 i = e then 1 else 0)
      rw [if_neg c]
      omega
theorem qrung {x : Int} (hN : NWF N) (hn : LN u N) (ha : InR x) : f_X10_rung x u = some (rung N x, u) := by
  obtain ⟨n0, n1, n2, n3, n4, n5, n6, n7, n8, n9, n10, n11, n12, n13, n14, nS, nR⟩ := hN
  have e1 := hn.1.2.1
  refine wp_eq ?_
  unfold f_X10_rung
  refine wl3 (fun f i v => v = u ∧ 0 ≤ i ∧ i ≤ N 0 1 ∧ f = rg N x i.toNat) (fun _ i _ => (N 0 1 - i).toNat) (fun go f i v hI hg => ?_) FU _ _ _ ⟨rfl, by omega, by omega, rfl⟩ (FU_l (by omega))
  obtain ⟨rfl, h0, h1, rfl⟩ := hI
  unfold s_X10_rung_4
  rw [e1]
  refine wp_g (by omega) ?_
  refine wp_i (fun c => ?_) (fun c => ?_)
  · refine wp_s ?_
    unfold rung
    rw [show i = N 0 1 by omega]
  · have a1 := hn.2.2 i h0 (by omega)
    have a2 := nR i h0 (by omega)
    have es : rg N x (i + 1).toNat = if N 3 i ≤ x then N 4 i else rg N x i.toNat := by
      obtain ⟨n, rfl⟩ := Int.eq_ofNat_of_zero_le h0
      rfl
    rw [a1.1, a1.2]
    repeat (first | (with_reducible refine wp_L ?_) | (with_reducible refine wp_g ?_ ?_; · omega) | (with_reducible refine wp_f ?_ ?_; · omega) | (with_reducible refine wp_t ?_ ?_; · omega))
    refine wp_i (fun c => ?_) (fun c => ?_)
    · refine hg _ _ _ ⟨rfl, by omega, by omega, ?_⟩ (by omega)
      rw [es, if_neg (by omega)]
    · repeat (first | (with_reducible refine wp_L ?_) | (with_reducible refine wp_g ?_ ?_; · omega) | (with_reducible refine wp_f ?_ ?_; · omega) | (with_reducible refine wp_t ?_ ?_; · omega))
      refine hg _ _ _ ⟨rfl, by omega, by omega, ?_⟩ (by omega)
      rw [es, if_pos (by omega)]
end LQ
