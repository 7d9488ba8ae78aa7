/-! the law's network is drawn: the ladder -/
def rgA (D : List Int) (A M : Int → Int) : Nat → List Int
  | 0 => D
  | n + 1 => rgA D A M n ++ strL 2019 ++ dg (A n) ++ [32] ++ dg (M n) ++ [59]
theorem rgA_c {D : List Int} {A M A' M' : Int → Int} : ∀ {n : Nat}, (∀ i : Nat, i < n → A' i = A i ∧ M' i = M i) → rgA D A' M' n = rgA D A M n := by
  intro n
  induction n with
  | zero => intro _; rfl
  | succ n ih =>
    intro h
    show rgA D A' M' n ++ strL 2019 ++ dg (A' n) ++ [32] ++ dg (M' n) ++ [59] = rgA D A M n ++ strL 2019 ++ dg (A n) ++ [32] ++ dg (M n) ++ [59]
    rw [ih (fun i hi => h i (by omega)), (h n (by omega)).1, (h n (by omega)).2]
theorem l2019 : (strL 2019).length ≤ 5 := by decide +kernel
theorem rgA_l {D : List Int} {A M : Int → Int} {a : Nat} (hD : D.length ≤ a) : ∀ {n : Nat}, (∀ i : Nat, i < n → A i < 1000 ∧ M i < 100) → (rgA D A M n).length ≤ a + 12 * n := by
  intro n
  induction n with
  | zero => intro _; exact hD
  | succ n ih =>
    intro h
    have h1 := ih (fun i hi => h i (by omega))
    have h2 := h n (by omega)
    have h9 := len_app (len_app (len_app (len_app (len_app h1 l2019) (dgl3 (x := A n) (by omega))) (Nat.le_refl ([32] : List Int).length)) (dgl2 (x := M n) (by omega))) (Nat.le_refl ([59] : List Int).length)
    refine Nat.le_trans h9 ?_
    show _ + 1 + 2 + 1 ≤ _
    omega
theorem rgA_b {D : List Int} {A M : Int → Int} (hD : AD D) : ∀ {n : Nat}, (∀ i : Nat, i < n → (0 ≤ A i ∧ A i < 1000) ∧ 0 ≤ M i ∧ M i < 100) → AD (rgA D A M n) := by
  intro n
  induction n with
  | zero => intro _; exact hD
  | succ n ih =>
    intro h
    have h2 := h n (by omega)
    exact (((((ih (fun i hi => h i (by omega))).app (AD.s (by decide))).app (AD.d (by omega))).app (AD.c (by decide))).app (AD.d (by omega))).app (AD.c (by decide))
section NR
variable {u v w y : uS} {k : Int} {D : List Int}
def RB (v : uS) (r : Int) : Prop := ∀ i, 0 ≤ i → i < r → (0 ≤ v 269 i ∧ v 269 i ≤ 60 * i + 59) ∧ (0 ≤ v 270 i ∧ v 270 i ≤ 19 * i + 19) ∧ (1 ≤ i → v 269 (i - 1) + 1 ≤ v 269 i ∧ v 270 (i - 1) ≤ v 270 i)
theorem wrungs (hk : 0 ≤ k ∧ k ≤ 4) (hy : y 264 10 = k) (hD : D.length ≤ 209) (ht : TXl y D) : wp (xl2 s_L_net_460 5 0 y) (fun q => q.1 = 264 ∧ (∀ c, c ≠ 269 → c ≠ 270 → c ≠ 357 → c ≠ 37 → c ≠ 38 → c ≠ 1000 → q.2 c = y c) ∧ RB q.2 k ∧ TXl q.2 (rgA D (q.2 269) (q.2 270) k.toNat)) := by
  refine wl2 (fun r v => (0 ≤ r ∧ r ≤ k) ∧ (∀ c, c ≠ 269 → c ≠ 270 → c ≠ 357 → c ≠ 37 → c ≠ 38 → c ≠ 1000 → v c = y c) ∧ RB v r ∧ TXl v (rgA D (v 269) (v 270) r.toNat)) (fun r _ => (k - r).toNat) (fun go r v hI hg => ?_) 5 _ _ ⟨⟨by omega, by omega⟩, fun _ _ _ _ _ _ _ => rfl, fun i i0 i1 => by omega, ht⟩ (by omega)
  obtain ⟨hr, hf, hB, hT⟩ := hI
  have e10 : v 264 10 = k := by rw [hf 264 (by decide) (by decide) (by decide) (by decide) (by decide) (by decide)]; exact hy
  unfold s_L_net_460
  rw [e10]
  refine wp_g (by omega) ?_
  refine wp_i (fun c => ?_) (fun c => ?_)
  · rw [show r = k by omega] at hB hT
    exact wp_s ⟨rfl, hf, hB, hT⟩
  · have hlen := rgA_l (A := v 269) (M := v 270) hD (n := r.toNat) (fun i hi => by have := hB i (by omega) (by omega); omega)
    refine wp_g (by omega) ?_
    refine wp_g (by omega) ?_
    refine wp_l (fun j218 h218 => ?_)
    have J218 : ∀ a, (0 ≤ a ∧ a ≤ 60 * r) → (1 ≤ r → a = v 269 (r - 1) + 1) → wp (j218 a v) (fun q => q.1 = 264 ∧ (∀ c, c ≠ 269 → c ≠ 270 → c ≠ 357 → c ≠ 37 → c ≠ 38 → c ≠ 1000 → q.2 c = y c) ∧ RB q.2 k ∧ TXl q.2 (rgA D (q.2 269) (q.2 270) k.toNat)) := fun a ha ha1 => by
      rw [h218]
      refine wp_b (wdraw (by decide)) (fun x u224 hx => ?_)
      obtain ⟨hx, k224⟩ := hx
      have hx : 0 ≤ x ∧ x < 60 := hx
      have k224 : ∀ d, d ≠ 357 → u224 d = v d := k224
      refine wp_g (by omega) ?_
      refine wp_l (fun u226 h226 => ?_)
      refine wp_g (by omega) ?_
      refine wp_l (fun j228 h228 => ?_)
      have J228 : ∀ b, (0 ≤ b ∧ b ≤ 19 * r) → (1 ≤ r → b = v 270 (r - 1)) → wp (j228 b u226) (fun q => q.1 = 264 ∧ (∀ c, c ≠ 269 → c ≠ 270 → c ≠ 357 → c ≠ 37 → c ≠ 38 → c ≠ 1000 → q.2 c = y c) ∧ RB q.2 k ∧ TXl q.2 (rgA D (q.2 269) (q.2 270) k.toNat)) := fun b hb hb1 => by
        rw [h228]
        refine wp_b (wdraw (by decide)) (fun z u234 hz => ?_)
        obtain ⟨hz, k234⟩ := hz
        have hz : 0 ≤ z ∧ z < 20 := hz
        have k234 : ∀ d, d ≠ 357 → u234 d = u226 d := k234
        refine wp_g (by omega) ?_
        refine wp_l (fun u236 h236 => ?_)
        have a0 : ∀ c, c ≠ 269 → c ≠ 270 → c ≠ 357 → u236 c = v c := fun c c0 c1 c2 => by rw [h236, up_c c1, k234 c c2, h226, up_c c0, k224 c c2]
        have a269 : ∀ i, u236 269 i = if i = r then a + x else v 269 i := fun i => by
          rw [h236, up_k (by decide), k234 269 (by decide), h226]
          by_cases hi : i = r
          · subst hi; rw [up_s, if_pos rfl]
          · rw [up_j hi, if_neg hi, k224 269 (by decide)]
        have a270 : ∀ i, u236 270 i = if i = r then b + z else v 270 i := fun i => by
          rw [h236]
          by_cases hi : i = r
          · subst hi; rw [up_s, if_pos rfl]
          · rw [up_j hi, if_neg hi, k234 270 (by decide), h226, up_k (by decide), k224 270 (by decide)]
        have t0 : TXl u236 (rgA D (v 269) (v 270) r.toNat) := hT.fr (a0 37 (by decide) (by decide) (by decide)) (a0 38 (by decide) (by decide) (by decide)) (by rw [a0 1000 (by decide) (by decide) (by decide)]) (a0 0 (by decide) (by decide) (by decide))
        refine sS (by decide) t0 (Nat.le_trans (Nat.add_le_add hlen l2019) (by omega)) (fun w1 f1 t1 => ?_)
        have l1 := len_app hlen l2019
        have g1 : w1 269 r = a + x := (congrFun (f1.1 269 (by decide) (by decide) (by decide)) r).trans ((a269 r).trans (if_pos rfl))
        refine wp_g (by omega) ?_
        rw [g1]
        refine sI (by omega) t1 (by omega) (fun w2 f2 t2 => ?_)
        have l2 := len_app l1 (dgl3 (x := a + x) (by omega))
        refine sC (by decide) t2 (by omega) (fun w3 f3 t3 => ?_)
        have l3 := len_app l2 (Nat.le_refl ([32] : List Int).length)
        have l3 : (rgA D (v 269) (v 270) r.toNat ++ strL 2019 ++ dg (a + x) ++ [32]).length ≤ 209 + 12 * r.toNat + 5 + 3 + 1 := l3
        have f13 := f1.tr (f2.tr f3)
        have g3 : w3 270 r = b + z := (congrFun (f13.1 270 (by decide) (by decide) (by decide)) r).trans ((a270 r).trans (if_pos rfl))
        refine wp_g (by omega) ?_
        rw [g3]
        refine sI (by omega) t3 (by omega) (fun w4 f4 t4 => ?_)
        have l4 := len_app l3 (dgl2 (x := b + z) (by omega))
        refine sC (by decide) t4 (by omega) (fun w5 f5 t5 => ?_)
        have f15 := f13.tr (f4.tr f5)
        have q269 : ∀ i, w5 269 i = if i = r then a + x else v 269 i := fun i => by rw [f15.1 269 (by decide) (by decide) (by decide)]; exact a269 i
        have q270 : ∀ i, w5 270 i = if i = r then b + z else v 270 i := fun i => by rw [f15.1 270 (by decide) (by decide) (by decide)]; exact a270 i
        refine hg _ _ ⟨by omega, fun c c0 c1 c2 c3 c4 c5 => ?_, fun i i0 i1 => ?_, ?_⟩ (by omega)
        · rw [f15.1 c c3 c4 c5, a0 c c0 c1 c2]; exact hf c c0 c1 c2 c3 c4 c5
        · rw [q269, q270, q269, q270]
          by_cases hi : i = r
          · subst hi
            rw [if_pos rfl, if_pos rfl, if_neg (by omega), if_neg (by omega)]
            exact ⟨by omega, by omega, fun h1 => by have := ha1 h1; have := hb1 h1; omega⟩
          · rw [if_neg hi, if_neg hi, if_neg (by omega), if_neg (by omega)]
            exact hB i i0 (by omega)
        · have es : (r + 1).toNat = r.toNat + 1 := by omega
          have ec : rgA D (w5 269) (w5 270) r.toNat = rgA D (v 269) (v 270) r.toNat := rgA_c (fun i hi => by rw [q269, q270, if_neg (by omega), if_neg (by omega)]; exact ⟨rfl, rfl⟩)
          rw [es]
          show TXl w5 (rgA D (w5 269) (w5 270) r.toNat ++ strL 2019 ++ dg (w5 269 (r.toNat : Int)) ++ [32] ++ dg (w5 270 (r.toNat : Int)) ++ [59])
          rw [ec, show ((r.toNat : Nat) : Int) = r by omega, q269 r, q270 r, if_pos rfl, if_pos rfl]
          exact t5
      refine wp_i (fun c => ?_) (fun c => ?_)
      · exact J228 0 (by omega) (fun h => by omega)
      · have := hB (r - 1) (by omega) (by omega)
        have e : u226 270 (r - 1) = v 270 (r - 1) := by rw [h226, up_k (by decide), k224 270 (by decide)]
        refine wp_g (by omega) ?_
        rw [e]
        exact J228 _ (by omega) (fun _ => rfl)
    refine wp_i (fun c => ?_) (fun c => ?_)
    · exact J218 0 (by omega) (fun h => by omega)
    · have := hB (r - 1) (by omega) (by omega)
      refine wp_g (by omega) ?_
      exact J218 _ (by omega) (fun _ => rfl)
end NR
