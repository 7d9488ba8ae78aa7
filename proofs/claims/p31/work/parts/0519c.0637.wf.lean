/-! pure part, 7: a tick keeps a situation sound -/
theorem sg_pt {f g : Int → Int} : ∀ {n : Nat}, (∀ i : Int, 0 ≤ i → i < (n : Int) → f i ≤ g i) → sg f n ≤ sg g n := by
  intro n
  induction n with
  | zero => intro _; exact Int.le_refl _
  | succ n ih =>
    intro h
    have h1 := ih (fun i h1 h2 => h i h1 (by omega))
    have h2 := h n (by omega) (by omega)
    show sg f n + f n ≤ sg g n + g n
    omega
theorem sg_one {f g : Int → Int} {i : Int} : ∀ {n : Nat}, 0 ≤ i → i < (n : Int) → (∀ q : Int, 0 ≤ q → q < (n : Int) → q ≠ i → g q = f q) → sg g n = sg f n + (g i - f i) := by
  intro n
  induction n with
  | zero => intro h0 h1; omega
  | succ n ih =>
    intro h0 h1 h
    show sg g n + g (n : Int) = sg f n + f (n : Int) + (g i - f i)
    by_cases hi : i = (n : Int)
    · subst hi
      rw [sg_c (f := g) (g := f) (fun q q1 q2 => h q q1 (by omega) (by omega))]
      omega
    · rw [ih h0 (by omega) (fun q q1 q2 q3 => h q q1 (by omega) q3), h (n : Int) (by omega) (by omega) (fun q => hi q.symm)]
      omega
/-- who is in a group -/
theorem gm_in {N V : uS} {p : Int} : ∀ {i : Nat} {q : Int}, gm N V p i q → q = p ∨ (0 ≤ q ∧ q < (i : Int) ∧ q ≠ p ∧ V 11 q = -1 ∧ V 12 q = 0) := by
  intro i
  induction i with
  | zero => intro q h; exact Or.inl h
  | succ i ih =>
    intro q h
    rcases h with h | ⟨h1, h2, h3, h4, -⟩
    · rcases ih h with h | ⟨h1, h2, h3⟩
      · exact Or.inl h
      · exact Or.inr ⟨h1, by omega, h3⟩
    · exact Or.inr ⟨by omega, by omega, h2, h3, h4⟩
theorem gm_p {N V : uS} {p : Int} : ∀ {i : Nat}, gm N V p i p := by
  intro i
  induction i with
  | zero => exact rfl
  | succ i ih => exact Or.inl ih
theorem fe_in {N V : uS} {p : Int} : ∀ {d : Nat} {e : Int}, fe N V p d e = -1 ∨ (e ≤ fe N V p d e ∧ fe N V p d e < e + d ∧ V 14 (fe N V p d e) = 0) := by
  intro d
  induction d with
  | zero => intro e; exact Or.inl rfl
  | succ d ih =>
    intro e
    show cif _ e (fe N V p d (e + 1)) = -1 ∨ (e ≤ cif _ e (fe N V p d (e + 1)) ∧ cif _ e (fe N V p d (e + 1)) < e + ((d + 1 : Nat) : Int) ∧ V 14 (cif _ e (fe N V p d (e + 1))) = 0)
    by_cases h : V 14 e = 0 ∧ fitA N V e p
    · rw [cif_t h]
      exact Or.inr ⟨by omega, by omega, h.1⟩
    · rw [cif_f h]
      rcases @ih (e + 1) with h1 | ⟨h1, h2, h3⟩
      · exact Or.inl h1
      · exact Or.inr ⟨by omega, by omega, h3⟩
section WF
variable {N V : uS}
theorem wf_join {p e : Int} (hV : WFc N V) (hp : 0 ≤ p ∧ p < V 0 1) (h11 : V 11 p = -1) (h12 : V 12 p = 0) (he : 0 ≤ e ∧ e < V 0 2) (h14 : V 14 e = 0) : WFc N (up V 11 p e) := by
  obtain ⟨⟨b0, b1, b2, bS, bI, bP, bE⟩, xS, xP, xE⟩ := hV
  refine ⟨⟨b0, b1, b2, bS, bI, fun q h0 h1 => ?_, bE⟩, xS, fun q h0 h1 => ?_, fun e2 h0 h1 h2 => ?_⟩
  · have b := bP q h0 h1
    refine ⟨b.1, b.2.1, b.2.2.1, ?_, b.2.2.2.2⟩
    by_cases hq : q = p
    · subst hq; rw [up_s]; omega
    · rw [up_j hq]; exact b.2.2.2.1
  · show up V 11 p e 11 q < V 0 2 ∧ (V 12 q = 1 → up V 11 p e 11 q = -1) ∧ (0 ≤ up V 11 p e 11 q → V 14 (up V 11 p e 11 q) = 0)
    by_cases hq : q = p
    · subst hq; rw [up_s]; exact ⟨he.2, fun h => by omega, fun _ => h14⟩
    · rw [up_j hq]; exact xP q h0 h1
  · have h3 := xE e2 h0 h1 h2
    have h4 : pk V e2 ≤ pk (up V 11 p e) e2 := sg_pt (fun i h5 h6 => by
      show (if V 11 i = e2 then (1 : Int) else 0) ≤ if up V 11 p e 11 i = e2 then 1 else 0
      by_cases hi : i = p
      · subst hi; rw [if_neg (by omega)]; split <;> omega
      · rw [up_j hi]; exact Int.le_refl _)
    omega
theorem pk_mkg {p : Int} {i : Nat} (hV : WFc N V) (h11 : V 11 p = -1) : pk (mkg N V p i) (V 0 2) = gsz N V p i := by
  obtain ⟨⟨b0, b1, b2, bS, bI, bP, bE⟩, xS, xP, xE⟩ := hV
  refine sg_c (n := (V 0 1).toNat) (fun q h0 h1 => ?_)
  show (if cif (gm N V p i q) (V 0 2) (V 11 q) = V 0 2 then (1 : Int) else 0) = cif (gm N V p i q) 1 0
  by_cases h : gm N V p i q
  · rw [cif_t h, cif_t h, if_pos rfl]
  · rw [cif_f h, cif_f h, if_neg (by have := (xP q h0 (by omega)).1; omega)]
theorem wf_dcl {p : Int} (hV : WFc N V) (hp : 0 ≤ p ∧ p < V 0 1) (h11 : V 11 p = -1) (h12 : V 12 p = 0) (h20 : V 0 2 < 20) (hg : N 0 12 ≤ gsz N V p (V 0 1).toNat) : WFc N (dcl N V p) := by
  have hpk := pk_mkg (i := (V 0 1).toNat) hV h11
  obtain ⟨⟨b0, b1, b2, bS, bI, bP, bE⟩, xS, xP, xE⟩ := hV
  have r14 : ∀ e, dcl N V p 14 e = if e = V 0 2 then 0 else V 14 e := fun e => by
    show up (mkg N V p (V 0 1).toNat) 14 (V 0 2) 0 14 e = _
    by_cases h : e = V 0 2
    · subst h; rw [up_s, if_pos rfl]
    · rw [up_j h, if_neg h]; rfl
  have r13 : ∀ e, dcl N V p 13 e = if e = V 0 2 then V 0 0 else V 13 e := fun e => by
    show up (up (mkg N V p (V 0 1).toNat) 14 (V 0 2) 0) 13 (V 0 2) (V 0 0) 13 e = _
    by_cases h : e = V 0 2
    · subst h; rw [up_s, if_pos rfl]
    · rw [up_j h, if_neg h]; rfl
  have r11 : ∀ q, dcl N V p 11 q = cif (gm N V p (V 0 1).toNat q) (V 0 2) (V 11 q) := fun q => rfl
  have r02 : dcl N V p 0 2 = V 0 2 + 1 := rfl
  refine ⟨⟨b0, b1, by rw [r02]; omega, bS, bI, fun q h0 h1 => ?_, fun e h0 h1 => ?_⟩, xS, fun q h0 h1 => ?_, fun e h0 h1 h2 => ?_⟩
  · have b := bP q h0 h1
    refine ⟨b.1, b.2.1, b.2.2.1, ?_, b.2.2.2.2⟩
    rw [r11]
    by_cases hq : gm N V p (V 0 1).toNat q
    · rw [cif_t hq]; omega
    · rw [cif_f hq]; exact b.2.2.2.1
  · rw [r14, r13]
    by_cases h : e = V 0 2
    · rw [if_pos h, if_pos h]; omega
    · rw [if_neg h, if_neg h]; exact bE e h0 (by rw [r02] at h1; omega)
  · rw [r11, r02, r14]
    show _ ∧ (V 12 q = 1 → _) ∧ _
    have x := xP q h0 h1
    by_cases hq : gm N V p (V 0 1).toNat q
    · rw [cif_t hq, if_pos rfl]
      refine ⟨by omega, fun h => ?_, fun _ => rfl⟩
      rcases gm_in hq with h9 | h9
      · subst h9; omega
      · omega
    · rw [cif_f hq, if_neg (by omega)]
      exact ⟨by omega, x.2⟩
  · have epk : pk (dcl N V p) e = pk (mkg N V p (V 0 1).toNat) e := rfl
    rw [epk]
    by_cases h : e = V 0 2
    · subst h; rw [hpk]; exact hg
    · rw [r14, if_neg h] at h2
      have h3 := xE e h0 (by rw [r02] at h1; omega) h2
      have h4 : pk V e ≤ pk (mkg N V p (V 0 1).toNat) e := sg_pt (fun i h5 h6 => by
        show (if V 11 i = e then (1 : Int) else 0) ≤ if cif (gm N V p (V 0 1).toNat i) (V 0 2) (V 11 i) = e then 1 else 0
        by_cases hq : gm N V p (V 0 1).toNat i
        · have h7 : V 11 i = -1 := by
            rcases gm_in hq with h9 | h9
            · subst h9; exact h11
            · exact h9.2.2.2.1
          rw [if_neg (by omega)]
          split <;> omega
        · rw [cif_f hq]; exact Int.le_refl _)
      omega
theorem wf_vt {p : Int} (hV : WFc N V) (hp : 0 ≤ p ∧ p < V 0 1) (h11 : V 11 p = -1) (h12 : V 12 p = 0) : WFc N (vt N V p) := by
  have h2 := hV.1.2.2.1
  unfold vt
  by_cases h : fe N V p (V 0 2).toNat 0 ≠ -1
  · rw [if_pos h]
    rcases @fe_in N V p (V 0 2).toNat 0 with h3 | h3
    · exact absurd h3 h
    · exact wf_join hV hp h11 h12 (by omega) h3.2.2
  · rw [if_neg h]
    by_cases h3 : N 0 12 ≤ gsz N V p (V 0 1).toNat ∧ V 0 2 < 20
    · rw [if_pos h3]; exact wf_dcl hV hp h11 h12 h3.2 h3.1
    · rw [if_neg h3]; exact hV
theorem wf_ap {s : Int} (hN : NWF N) (hV : WFc N V) (hs : 0 ≤ s ∧ s < N 0 0) (h6 : V 6 s = 0) (h1 : V 0 1 < 60) : WFc N (ap V s) := by
  have n0 := hN.1
  obtain ⟨⟨b0, b1, b2, bS, bI, bP, bE⟩, xS, xP, xE⟩ := hV
  have r01 : ap V s 0 1 = V 0 1 + 1 := rfl
  have r5 : ∀ q, ap V s 5 q = if q = s then 1 else V 5 q := fun q => by
    by_cases h : q = s
    · subst h; rw [if_pos rfl]; exact up_s _ 5 _ _
    · rw [if_neg h]; exact up_j (k := 5) h
  have r7 : ∀ q, ap V s 7 q = if q = s then V 0 1 else V 7 q := fun q => by
    by_cases h : q = s
    · subst h; rw [if_pos rfl]; exact up_s _ 7 _ _
    · rw [if_neg h]; exact up_j (k := 7) h
  have rn : ∀ q, q = V 0 1 → ap V s 8 q = s ∧ ap V s 9 q = V 0 0 ∧ ap V s 10 q = V 1 s ∧ ap V s 11 q = -1 ∧ ap V s 12 q = 0 := fun q h => by
    subst h; exact ⟨up_s _ 8 _ _, up_s _ 9 _ _, up_s _ 10 _ _, up_s _ 11 _ _, up_s _ 12 _ _⟩
  have ro : ∀ q, q ≠ V 0 1 → ap V s 8 q = V 8 q ∧ ap V s 9 q = V 9 q ∧ ap V s 10 q = V 10 q ∧ ap V s 11 q = V 11 q ∧ ap V s 12 q = V 12 q := fun q h =>
    ⟨up_j (k := 8) h, up_j (k := 9) h, up_j (k := 10) h, up_j (k := 11) h, up_j (k := 12) h⟩
  have bs := bS s hs.1 (by omega)
  refine ⟨⟨b0, by rw [r01]; omega, b2, fun q h0 h1 => ?_, bI, fun q h0 h2 => ?_, bE⟩, fun q h0 h1 => ?_, fun q h0 h2 => ?_, fun e h0 h2 h3 => ?_⟩
  · have b := bS q h0 h1
    refine ⟨b.1, ?_, b.2.2⟩
    rw [r5]
    by_cases h : q = s
    · rw [if_pos h]; omega
    · rw [if_neg h]; exact b.2.1
  · rw [r01] at h2
    by_cases h : q = V 0 1
    · obtain ⟨e1, e2, e3, e4, e5⟩ := rn q h
      rw [e1, e2, e3, e4, e5]
      omega
    · obtain ⟨e1, e2, e3, e4, e5⟩ := ro q h
      rw [e1, e2, e3, e4, e5]
      exact bP q h0 (by omega)
  · have x := xS q h0 h1
    show (V 6 q = 1 → ap V s 5 q = 0) ∧ (ap V s 5 q = 1 → q < N 0 0 ∧ 0 ≤ ap V s 7 q ∧ ap V s 7 q < V 0 1 + 1)
    rw [r5, r7]
    by_cases h : q = s
    · subst h
      rw [if_pos rfl, if_pos rfl]
      exact ⟨fun h => by omega, fun _ => by omega⟩
    · rw [if_neg h, if_neg h]
      exact ⟨x.1, fun h => by have := x.2 h; omega⟩
  · rw [r01] at h2
    show ap V s 11 q < V 0 2 ∧ (ap V s 12 q = 1 → ap V s 11 q = -1) ∧ (0 ≤ ap V s 11 q → V 14 (ap V s 11 q) = 0)
    by_cases h : q = V 0 1
    · obtain ⟨e1, e2, e3, e4, e5⟩ := rn q h
      rw [e4, e5]
      exact ⟨by omega, fun h => by omega, fun h => by omega⟩
    · obtain ⟨e1, e2, e3, e4, e5⟩ := ro q h
      rw [e4, e5]
      exact xP q h0 (by omega)
  · have h4 := xE e h0 h2 h3
    have h5 : pk (ap V s) e = pk V e := by
      show sg (fun p => if ap V s 11 p = e then 1 else 0) (V 0 1 + 1).toNat = _
      rw [sg_s b1.1, (rn (V 0 1) rfl).2.2.2.1, if_neg (by omega), Int.add_zero]
      refine sg_c (fun i h6 h7 => ?_)
      rw [(ro i (by omega)).2.2.2.1]
    rw [h5]; exact h4
theorem wf_rp {s : Int} (hV : WFc N V) (hs : 0 ≤ s ∧ s < 8) (h5 : V 5 s = 1) : WFc N (rp N V s) := by
  obtain ⟨⟨b0, b1, b2, bS, bI, bP, bE⟩, xS, xP, xE⟩ := hV
  have bs := bS s hs.1 hs.2
  have xs := xS s hs.1 hs.2
  have bl := bP (V 7 s) (xs.2 h5).2.1 (xs.2 h5).2.2
  have r5 : ∀ q, rp N V s 5 q = if q = s then (if rto N V s < N 0 11 then 0 else 1) else V 5 q := fun q => by
    by_cases h : q = s
    · subst h; rw [if_pos rfl]; exact up_s _ 5 _ _
    · rw [if_neg h]; exact up_j (k := 5) h
  have r10 : ∀ q, rp N V s 10 q = if q = V 7 s then maxI (V 10 (V 7 s)) (V 1 s) else V 10 q := fun q => by
    by_cases h : q = V 7 s
    · subst h; rw [if_pos rfl]; exact up_s _ 10 _ _
    · rw [if_neg h]; exact up_j (k := 10) h
  refine ⟨⟨b0, b1, b2, fun q h0 h1 => ?_, bI, fun q h0 h2 => ?_, bE⟩, fun q h0 h1 => ?_, xP, xE⟩
  · have b := bS q h0 h1
    refine ⟨b.1, ?_, b.2.2⟩
    rw [r5]
    split
    · split <;> omega
    · exact b.2.1
  · have b := bP q h0 h2
    refine ⟨b.1, b.2.1, ?_, b.2.2.2⟩
    rw [r10]
    unfold maxI
    split
    · split <;> omega
    · exact b.2.2.1
  · have x := xS q h0 h1
    show (V 6 q = 1 → rp N V s 5 q = 0) ∧ (rp N V s 5 q = 1 → q < N 0 0 ∧ 0 ≤ V 7 q ∧ V 7 q < V 0 1)
    rw [r5]
    by_cases h : q = s
    · subst h
      rw [if_pos rfl]
      exact ⟨fun h => by have := x.1 h; omega, fun _ => x.2 h5⟩
    · rw [if_neg h]; exact x
theorem wf_jd {s : Int} (hN : NWF N) (hV : WFc N V) (hs : 0 ≤ s ∧ s < N 0 0) : WFc N (jd N V s) := by
  have n0 := hN.1
  unfold jd
  by_cases h : V 5 s = 1
  · rw [if_pos h]; exact wf_rp hV (by omega) h
  · rw [if_neg h]
    by_cases h2 : N 0 9 ≤ V 0 0 ∧ V 6 s = 0 ∧ V 0 1 < 60 ∧ N 0 10 ≤ rto N V s
    · rw [if_pos h2]
      have b1 := hV.1.2.1
      exact wf_vt (wf_ap hN hV hs h2.2.1 h2.2.2.1) ⟨b1.1, by show V 0 1 < V 0 1 + 1; omega⟩ (up_s _ 11 _ _) (up_s _ 12 _ _)
    · rw [if_neg h2]; exact hV
theorem wf_smp {n : Int} (hV : WFc N V) (h0 : V 0 0 ≤ 10198) (hn : n ≤ 8) : WFc N (smp V n) := by
  obtain ⟨⟨b0, b1, b2, bS, bI, bP, bE⟩, xS, xP, xE⟩ := hV
  refine ⟨⟨by show 0 ≤ V 0 0 + 1 ∧ V 0 0 + 1 ≤ 10199; omega, b1, b2, bS, fun i h1 h2 => ?_, bP, bE⟩, xS, xP, xE⟩
  show 0 ≤ (if 2 = 0 ∧ i = 0 then V 0 0 + 1 else if 2 = 2 ∧ 0 ≤ i ∧ i < 99 * n ∧ i % 99 = (V 0 0 + 1) % 99 then V 1 (i / 99) else V 2 i) ∧ (if 2 = 0 ∧ i = 0 then V 0 0 + 1 else if 2 = 2 ∧ 0 ≤ i ∧ i < 99 * n ∧ i % 99 = (V 0 0 + 1) % 99 then V 1 (i / 99) else V 2 i) ≤ 9999
  rw [if_neg (by omega)]
  by_cases h3 : (2 : Nat) = 2 ∧ 0 ≤ i ∧ i < 99 * n ∧ i % 99 = (V 0 0 + 1) % 99
  · rw [if_pos h3]
    exact (bS (i / 99) (by omega) (by omega)).1
  · rw [if_neg h3]
    exact bI i h1 h2
theorem wf_itj (hN : NWF N) : ∀ {d : Nat} {s : Int} {V : uS}, WFc N V → 0 ≤ s → s + d ≤ N 0 0 → WFc N (itj N d s V) := by
  intro d
  induction d with
  | zero => intro s V h _ _; exact h
  | succ d ih => intro s V h h0 h1; exact ih (wf_jd hN h ⟨h0, by omega⟩) (by omega) (by omega)
theorem wf_tk (hN : NWF N) (hV : WFc N V) (h0 : V 0 0 ≤ 10198) : WFc N (tk N V) := by
  have n0 := hN.1
  exact wf_itj hN (wf_smp hV h0 (by omega)) (by decide) (by omega)
/-- what a tick leaves as it was -/
theorem vt_t (p : Int) : vt N V p 0 0 = V 0 0 := by
  unfold vt
  split
  · rfl
  · split <;> rfl
theorem jd_t (s : Int) : jd N V s 0 0 = V 0 0 := by
  unfold jd
  split
  · rfl
  · split
    · rw [vt_t]; rfl
    · rfl
theorem itj_t : ∀ {d : Nat} {s : Int} {V : uS}, itj N d s V 0 0 = V 0 0 := by
  intro d
  induction d with
  | zero => intro s V; rfl
  | succ d ih => intro s V; show itj N d (s + 1) (jd N V s) 0 0 = _; rw [ih, jd_t]
theorem tk_t : tk N V 0 0 = V 0 0 + 1 := by
  unfold tk
  rw [itj_t]
  rfl
end WF
