/-! the law's network is drawn: its stations -/
/-- the text of the stations -/
def stA (X Y : Int → Int) : Nat → List Int
  | 0 => []
  | n + 1 => stA X Y n ++ strL 2009 ++ dg (X n) ++ [32] ++ dg (Y n) ++ [59]
theorem stA_c {X Y X' Y' : Int → Int} : ∀ {n : Nat}, (∀ i : Nat, i < n → X' i = X i ∧ Y' i = Y i) → stA X' Y' n = stA X Y n := by
  intro n
  induction n with
  | zero => intro _; rfl
  | succ n ih =>
    intro h
    show stA X' Y' n ++ strL 2009 ++ dg (X' n) ++ [32] ++ dg (Y' n) ++ [59] = stA X Y n ++ strL 2009 ++ dg (X n) ++ [32] ++ dg (Y n) ++ [59]
    rw [ih (fun i hi => h i (by omega)), (h n (by omega)).1, (h n (by omega)).2]
theorem dgl4 {x : Int} : (dg x).length ≤ 4 := by rw [dg_len]; (repeat' split) <;> decide
theorem dgl3 {x : Int} (h : x < 1000) : (dg x).length ≤ 3 := by rw [dg_len]; (repeat' split) <;> omega
theorem dgl2 {x : Int} (h : x < 100) : (dg x).length ≤ 2 := by rw [dg_len]; (repeat' split) <;> omega
theorem dgl1 {x : Int} (h : x < 10) : (dg x).length ≤ 1 := by rw [dg_len]; (repeat' split) <;> omega
theorem l2009 : (strL 2009).length = 8 := by decide +kernel
theorem stA_l {X Y : Int → Int} : ∀ {n : Nat}, (∀ i : Nat, i < n → X i < 200 ∧ Y i < 200) → (stA X Y n).length ≤ 16 * n := by
  intro n
  induction n with
  | zero => intro _; exact Nat.le_refl 0
  | succ n ih =>
    intro h
    have h1 := ih (fun i hi => h i (by omega))
    have h2 := h n (by omega)
    have h3 := dgl3 (x := X n) (by omega)
    have h4 := dgl3 (x := Y n) (by omega)
    show (stA X Y n ++ strL 2009 ++ dg (X n) ++ [32] ++ dg (Y n) ++ [59]).length ≤ _
    rw [List.length_append, List.length_append, List.length_append, List.length_append, List.length_append, l2009]
    show _ + 8 + _ + 1 + _ + 1 ≤ _
    omega
def AD (D : List Int) : Prop := ∀ x ∈ D, 0 ≤ x ∧ x < 128
theorem AD.app {D E : List Int} (h : AD D) (h2 : AD E) : AD (D ++ E) := fun x hx => by
  rcases List.mem_append.mp hx with q | q
  · exact h x q
  · exact h2 x q
theorem AD.s {k : Nat} (h : 2000 ≤ k ∧ k < 2020) : AD (strL k) := fun x hx => strL_b (k - 2000) (by omega) x hx
theorem AD.c {x : Int} (h : 0 ≤ x ∧ x < 128) : AD [x] := fun y hy => by rw [List.mem_singleton] at hy; subst hy; exact h
theorem AD.d {x : Int} (h : 0 ≤ x ∧ x ≤ 9999) : AD (dg x) := dg_b h
theorem AD.n : AD [] := fun x hx => by cases hx
theorem stA_b {X Y : Int → Int} : ∀ {n : Nat}, (∀ i : Nat, i < n → (0 ≤ X i ∧ X i < 200) ∧ 0 ≤ Y i ∧ Y i < 200) → AD (stA X Y n) := by
  intro n
  induction n with
  | zero => intro _; exact AD.n
  | succ n ih =>
    intro h
    have h2 := h n (by omega)
    exact (((((ih (fun i hi => h i (by omega))).app (AD.s (by decide))).app (AD.d (by omega))).app (AD.c (by decide))).app (AD.d (by omega))).app (AD.c (by decide))
section NS
variable {u v w : uS} {m s : Int} {Q : Int × uS → Prop}
def PL (v : uS) (s : Int) : Prop := ∀ q, 0 ≤ q → q < s → (0 ≤ v (pc q) 0 ∧ v (pc q) 0 < 200) ∧ (0 ≤ v (pc q) 1 ∧ v (pc q) 1 < 200) ∧ v (pc q) 2 = 0 ∧ v (pc q) 4 = 0 ∧ v (pc q) 5 = 0
def I1 (u : uS) (m s : Int) (v : uS) : Prop := (0 ≤ s ∧ s ≤ m) ∧ (∀ c, c < 264 → c ≠ 37 → c ≠ 38 → v c = u c) ∧ v 264 = (fun b => if b = 6 then m else 0) ∧ (∀ q, 0 ≤ q → q < 8 → v 265 q = if q < s then 271 + 2 * q else -1) ∧ (∀ p, 0 ≤ p → p < 60 → v 266 p = -1) ∧ (∀ e, v 267 e = 0) ∧ PL v s ∧ TXl v (stA (fun q => v (pc q) 0) (fun q => v (pc q) 1) s.toNat)
theorem wstations {j8 : uS → Option (Int × uS)} (hk : mkOk u) (hm : 2 ≤ m ∧ m ≤ 8) (h0 : I1 u m 0 v) (hj : ∀ w, I1 u m m w → wp (j8 w) Q) : wp (xl2 (s_L_net_22 j8) 9 0 v) Q := by
  refine wl2 (fun s v => I1 u m s v) (fun s _ => (m - s).toNat) (fun go s v hI hg => ?_) 9 _ _ h0 (by omega)
  have hI2 := hI
  obtain ⟨hs, hf, h264, h265, h266, h267, hL, hT⟩ := hI
  have e6 : v 264 6 = m := by rw [h264]; exact if_pos rfl
  unfold s_L_net_22
  rw [e6]
  refine wp_g (by omega) ?_
  refine wp_i (fun c => ?_) (fun c => ?_)
  · exact hj v (by rw [show m = s by omega]; rw [show m = s by omega] at hI2; exact hI2)
  · have hps := pc_e hs.1
    have mv : mkOk v := by
      unfold mkOk
      rw [hf 0 (by decide) (by decide) (by decide)]
      exact hk
    refine wp_g (by omega) ?_
    refine wp_g ⟨by omega, fun j9 hj9 => ?_, mv⟩ ?_
    · rw [h265 j9 (by omega) (by omega)]
      split <;> omega
    refine wp_l (fun n hn => ?_)
    have hn : n = pc s := hn
    subst hn
    refine wp_l (fun u275 h275 => ?_)
    refine wp_g (by omega) ?_
    refine wp_l (fun u280 h280 => ?_)
    have a265 : ∀ q, 0 ≤ q → q < 8 → u280 265 q = if q < s + 1 then 271 + 2 * q else -1 := fun q q0 q1 => by
      by_cases hq : q = s
      · subst hq; rw [h280, up_s, if_pos (by omega)]; exact hps
      · rw [h280, up_j hq, h275, upA_k (by omega), upA_k (by omega), h265 q q0 q1]
        split <;> split <;> omega
    have ao : ∀ c, c ≠ pc s → c ≠ pc s + 1 → c ≠ 265 → u280 c = v c := fun c c0 c1 c2 => by rw [h280, up_c c2, h275, upA_c c1, upA_c c0]
    have ap : ∀ i, u280 (pc s) i = if i = 3 then -1 else 0 := fun i => by rw [h280, up_k (by omega), h275, upA_k (by omega), upA_s]
    have px : ∀ z : uS, z 265 = u280 265 → 0 ≤ z 265 s ∧ (z 265 s).toNat = pc s := fun z hz => by
      rw [hz, a265 s hs.1 (by omega), if_pos (by omega)]
      omega
    refine wp_g (by omega) ?_
    refine wp_g (px u280 rfl).1 ?_
    refine wp_L ?_
    rw [(px u280 rfl).2]
    refine wp_b (wdraw (by decide)) (fun x u286 hx => ?_)
    obtain ⟨hx, k286⟩ := hx
    have hx : 0 ≤ x ∧ x < 200 := hx
    have k286 : ∀ d, d ≠ 357 → u286 d = u280 d := k286
    refine wp_l (fun u287 h287 => ?_)
    have z287 : u287 265 = u280 265 := by rw [h287, up_c (by omega)]; exact k286 265 (by decide)
    refine wp_g (by omega) ?_
    refine wp_g (px u287 z287).1 ?_
    refine wp_L ?_
    rw [(px u287 z287).2]
    refine wp_b (wdraw (by decide)) (fun y u293 hy => ?_)
    obtain ⟨hy, k293⟩ := hy
    have hy : 0 ≤ y ∧ y < 200 := hy
    have k293 : ∀ d, d ≠ 357 → u293 d = u287 d := k293
    refine wp_l (fun u294 h294 => ?_)
    have b294 : ∀ c, c ≠ pc s → c ≠ pc s + 1 → c ≠ 265 → c ≠ 357 → u294 c = v c := fun c c0 c1 c2 c3 => by rw [h294, up_c c0, k293 c c3, h287, up_c c0, k286 c c3]; exact ao c c0 c1 c2
    have z294 : u294 265 = u280 265 := by rw [h294, up_c (by omega), k293 265 (by decide)]; exact z287
    have p294 : ∀ i, u294 (pc s) i = if i = 1 then y else if i = 0 then x else if i = 3 then -1 else 0 := fun i => by
      rw [h294]
      by_cases h1 : i = 1
      · subst h1; rw [up_s, if_pos rfl]
      · rw [up_j h1, if_neg h1, k293 _ (by omega), h287]
        by_cases h2 : i = 0
        · subst h2; rw [up_s, if_pos rfl]
        · rw [up_j h2, if_neg h2, k286 _ (by omega)]; exact ap i
    have t294 : TXl u294 (stA (fun q => v (pc q) 0) (fun q => v (pc q) 1) s.toNat) := hT.fr (b294 37 (by omega) (by omega) (by decide) (by decide)) (b294 38 (by omega) (by omega) (by decide) (by decide)) (by rw [b294 1000 (by omega) (by omega) (by decide) (by decide)]) (b294 0 (by omega) (by omega) (by decide) (by decide))
    have hlen := stA_l (X := fun q => v (pc q) 0) (Y := fun q => v (pc q) 1) (n := s.toNat) (fun i hi => ⟨(hL i (by omega) (by omega)).1.2, (hL i (by omega) (by omega)).2.1.2⟩)
    refine sS (by decide) t294 (by rw [l2009]; omega) (fun w1 f1 t1 => ?_)
    have l1 : (stA (fun q => v (pc q) 0) (fun q => v (pc q) 1) s.toNat ++ strL 2009).length ≤ 16 * s.toNat + 8 := by rw [List.length_append, l2009]; omega
    have z1 : w1 265 = u280 265 := (f1.1 265 (by decide) (by decide) (by decide)).trans z294
    have p1 : ∀ i, w1 (pc s) i = if i = 1 then y else if i = 0 then x else if i = 3 then -1 else 0 := fun i => by rw [f1.1 (pc s) (by omega) (by omega) (by omega)]; exact p294 i
    refine wp_g (by omega) ?_
    refine wp_g (px w1 z1).1 ?_
    refine wp_L ?_
    rw [(px w1 z1).2, show w1 (pc s) 0 = x from p1 0]
    refine sI (by omega) t1 (by omega) (fun w2 f2 t2 => ?_)
    have d2 := dgl3 (x := x) (by omega)
    have l2 : (stA (fun q => v (pc q) 0) (fun q => v (pc q) 1) s.toNat ++ strL 2009 ++ dg x).length ≤ 16 * s.toNat + 11 := by rw [List.length_append]; omega
    refine sC (by decide) t2 (by omega) (fun w3 f3 t3 => ?_)
    have l3 : (stA (fun q => v (pc q) 0) (fun q => v (pc q) 1) s.toNat ++ strL 2009 ++ dg x ++ [32]).length ≤ 16 * s.toNat + 12 := by rw [List.length_append]; show _ + 1 ≤ _; omega
    have f13 := f1.tr (f2.tr f3)
    have z3 : w3 265 = u280 265 := (f13.1 265 (by decide) (by decide) (by decide)).trans z294
    have p3 : ∀ i, w3 (pc s) i = if i = 1 then y else if i = 0 then x else if i = 3 then -1 else 0 := fun i => by rw [f13.1 (pc s) (by omega) (by omega) (by omega)]; exact p294 i
    refine wp_g (by omega) ?_
    refine wp_g (px w3 z3).1 ?_
    refine wp_L ?_
    rw [(px w3 z3).2, show w3 (pc s) 1 = y from p3 1]
    refine sI (by omega) t3 (by omega) (fun w4 f4 t4 => ?_)
    have d4 := dgl3 (x := y) (by omega)
    have l4 : (stA (fun q => v (pc q) 0) (fun q => v (pc q) 1) s.toNat ++ strL 2009 ++ dg x ++ [32] ++ dg y).length ≤ 16 * s.toNat + 15 := by rw [List.length_append]; omega
    refine sC (by decide) t4 (by omega) (fun w5 f5 t5 => ?_)
    have f15 := f13.tr (f4.tr f5)
    have b5 : ∀ c, c ≠ pc s → c ≠ pc s + 1 → c ≠ 265 → c ≠ 357 → c ≠ 37 → c ≠ 38 → c ≠ 1000 → w5 c = v c := fun c c0 c1 c2 c3 c4 c5 c6 => (f15.1 c c4 c5 c6).trans (b294 c c0 c1 c2 c3)
    have p5 : ∀ i, w5 (pc s) i = if i = 1 then y else if i = 0 then x else if i = 3 then -1 else 0 := fun i => by rw [f15.1 (pc s) (by omega) (by omega) (by omega)]; exact p294 i
    have q5 : ∀ q, 0 ≤ q → q < s → w5 (pc q) = v (pc q) := fun q q0 q1 => by
      have := pc_e q0
      exact b5 _ (by omega) (by omega) (by omega) (by omega) (by omega) (by omega) (by omega)
    refine hg _ _ ⟨by omega, fun c c0 c1 c2 => ?_, ?_, fun q q0 q1 => ?_, fun p p0 p9 => ?_, fun e => ?_, fun q q0 q1 => ?_, ?_⟩ (by omega)
    · rw [b5 c (by omega) (by omega) (by omega) (by omega) c1 c2 (by omega)]; exact hf c c0 c1 c2
    · rw [b5 264 (by omega) (by omega) (by omega) (by omega) (by omega) (by omega) (by omega)]; exact h264
    · rw [f15.1 265 (by decide) (by decide) (by decide), z294]; exact a265 q q0 q1
    · rw [b5 266 (by omega) (by omega) (by omega) (by omega) (by omega) (by omega) (by omega)]; exact h266 p p0 p9
    · rw [b5 267 (by omega) (by omega) (by omega) (by omega) (by omega) (by omega) (by omega)]; exact h267 e
    · by_cases hq : q = s
      · subst hq
        rw [show w5 (pc q) 0 = x from p5 0, show w5 (pc q) 1 = y from p5 1]
        exact ⟨hx, hy, p5 2, p5 4, p5 5⟩
      · rw [q5 q q0 (by omega)]; exact hL q q0 (by omega)
    · have es : (s + 1).toNat = s.toNat + 1 := by omega
      have ec : stA (fun q => w5 (pc q) 0) (fun q => w5 (pc q) 1) s.toNat = stA (fun q => v (pc q) 0) (fun q => v (pc q) 1) s.toNat := stA_c (fun i hi => by
        show w5 (pc i) 0 = v (pc i) 0 ∧ w5 (pc i) 1 = v (pc i) 1
        rw [q5 i (by omega) (by omega)]; exact ⟨rfl, rfl⟩)
      rw [es]
      show TXl w5 (stA (fun q => w5 (pc q) 0) (fun q => w5 (pc q) 1) s.toNat ++ strL 2009 ++ dg (w5 (pc (s.toNat : Int)) 0) ++ [32] ++ dg (w5 (pc (s.toNat : Int)) 1) ++ [59])
      rw [ec, show ((s.toNat : Nat) : Int) = s by omega, show w5 (pc s) 0 = x from p5 0, show w5 (pc s) 1 = y from p5 1]
      exact t5
end NS
