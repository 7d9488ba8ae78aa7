/-! more of the law's cells: what lies behind them, facts handed on, loops by their fuel, a new pick -/
theorem fy_14_0 {t : gP} {u : uS} {H : Heap} (hG : G t u H) (f : al t 264 ∧ sT 264 = 14) : al t 265 ∧ sT 265 = 106 ∧ sN 265 = 8 := ⟨(hG.2.2.2.2.1 f.1).1, by decide +kernel, by decide +kernel⟩
theorem fy_14_1 {t : gP} {u : uS} {H : Heap} (hG : G t u H) (f : al t 264 ∧ sT 264 = 14) : al t 266 ∧ sT 266 = 107 ∧ sN 266 = 60 := ⟨(hG.2.2.2.2.1 f.1).2.1, by decide +kernel, by decide +kernel⟩
theorem fy_14_2 {t : gP} {u : uS} {H : Heap} (hG : G t u H) (f : al t 264 ∧ sT 264 = 14) : al t 267 ∧ sT 267 = 101 ∧ sN 267 = 20 := ⟨(hG.2.2.2.2.1 f.1).2.2.1, by decide +kernel, by decide +kernel⟩
theorem fy_14_3 {t : gP} {u : uS} {H : Heap} (hG : G t u H) (f : al t 264 ∧ sT 264 = 14) : al t 268 ∧ sT 268 = 100 ∧ sN 268 = 20 := ⟨(hG.2.2.2.2.1 f.1).2.2.2.1, by decide +kernel, by decide +kernel⟩
theorem fy_14_4 {t : gP} {u : uS} {H : Heap} (hG : G t u H) (f : al t 264 ∧ sT 264 = 14) : al t 269 ∧ sT 269 = 100 ∧ sN 269 = 8 := ⟨(hG.2.2.2.2.1 f.1).2.2.2.2.1, by decide +kernel, by decide +kernel⟩
theorem fy_14_5 {t : gP} {u : uS} {H : Heap} (hG : G t u H) (f : al t 264 ∧ sT 264 = 14) : al t 270 ∧ sT 270 = 100 ∧ sN 270 = 8 := ⟨(hG.2.2.2.2.1 f.1).2.2.2.2.2, by decide +kernel, by decide +kernel⟩
theorem sT_16s : ∀ k, k < NM → sT k = 16 → sT (k + 1) = 100 ∧ sN (k + 1) = 400 := by decide +kernel
theorem fy_16_6 {t : gP} {u : uS} {H : Heap} {k : Nat} (hG : G t u H) (f : al t k ∧ sT k = 16) : al t (k + 1) ∧ sT (k + 1) = 100 ∧ sN (k + 1) = 400 := ⟨hG.2.2.2.1 k f.1 f.2, sT_16s k (al_lt f.1) f.2⟩
theorem y_qP {t : gP} {u : uS} {H : Heap} (hG : G t u H) {k : Nat} {i : Int} (hk : al t k) (hs : sT k = 106) {n : Nat} (hn : sN k = n) (hi : 0 ≤ i ∧ i < (n : Int)) (h0 : 0 ≤ u k i) : al t (u k i).toNat ∧ sT (u k i).toNat = 16 := by
  have h := y_qf hG hk hs (Or.inl rfl) hn hi h0
  rwa [if_pos rfl] at h
theorem y_qK {t : gP} {u : uS} {H : Heap} (hG : G t u H) {k : Nat} {i : Int} (hk : al t k) (hs : sT k = 107) {n : Nat} (hn : sN k = n) (hi : 0 ≤ i ∧ i < (n : Int)) (h0 : 0 ≤ u k i) : al t (u k i).toNat ∧ sT (u k i).toNat = 15 := by
  have h := y_qf hG hk hs (Or.inr rfl) hn hi h0
  rwa [if_neg (by decide)] at h
theorem ag.fk {b lo hi k : Nat} {t t' : gP} {P : Prop} (h : ag b lo hi t t') (hk : (lo ≤ 1000 ∧ hi ≤ 1000) ∧ (k < lo ∨ hi ≤ k)) (f : aln t k = true ∧ P) : aln t' k = true ∧ P := ⟨h.al hk f.1, f.2⟩
theorem ag.sy {b lo hi : Nat} {t t' : gP} (h : ag b lo hi t t') : ag b lo hi t' t := ⟨h.1.symm, h.2.1.symm, h.2.2.1.symm, fun k h1 h2 h3 => (h.2.2.2 k h1 h2 h3).symm⟩
theorem ag.bk {b lo hi k : Nat} {t t' : gP} {P : Prop} (h : ag b lo hi t t') (hk : (lo ≤ 1000 ∧ hi ≤ 1000) ∧ (k < lo ∨ hi ≤ k)) (f : aln t' k = true ∧ P) : aln t k = true ∧ P := ⟨h.sy.al hk f.1, f.2⟩
theorem sT_15k : ∀ {k : Nat}, 294 ≤ k ∧ k < 354 → sT k = 15 := by
  have h : ∀ k, k < 60 → sT (294 + k) = 15 := by decide +kernel
  intro k hk
  have h2 := h (k - 294) (by omega)
  rwa [Nat.add_sub_cancel' hk.1] at h2
def xb0 {β : Type} (o : Option (Nat × Int × uS)) (f : Int → uS → Option β) : Option β := match o with
  | none => none
  | some q => if q.1 = 0 then f q.2.1 q.2.2 else none
theorem xb0_of {β : Type} {o : Option (Nat × Int × uS)} {f : Int → uS → Option β} {r : β} (h : xb0 o f = some r) : ∃ v u, o = some (0, v, u) ∧ f v u = some r := by
  cases o with
  | none => cases h
  | some q =>
    obtain ⟨g, v, u⟩ := q
    by_cases hg : g = 0
    · subst hg
      exact ⟨v, u, rfl, h⟩
    · have h2 : (if g = 0 then f v u else none) = some r := h
      rw [if_neg hg] at h2
      cases h2
theorem xl1_N {A β : Type} {F : (A → Option β) → A → Option β} (P : Nat → A → β → Prop) (hF : ∀ n go, (∀ a r, go a = some r → P n a r) → ∀ a r, F go a = some r → P (n + 1) a r) : ∀ n a r, xl1 F n a = some r → P n a r := by
  intro n
  induction n with
  | zero => intro a r h; cases h
  | succ n ih => intro a r h; exact hF n _ ih a r h
theorem xl2_N {A B β : Type} {F : (A → B → Option β) → A → B → Option β} (P : Nat → A → B → β → Prop) (hF : ∀ n go, (∀ a b r, go a b = some r → P n a b r) → ∀ a b r, F go a b = some r → P (n + 1) a b r) : ∀ n a b r, xl2 F n a b = some r → P n a b r := by
  intro n
  induction n with
  | zero => intro a b r h; cases h
  | succ n ih => intro a b r h; exact hF n _ ih a b r h
theorem xl3_N {A B C β : Type} {F : (A → B → C → Option β) → A → B → C → Option β} (P : Nat → A → B → C → β → Prop) (hF : ∀ n go, (∀ a b c r, go a b c = some r → P n a b c r) → ∀ a b c r, F go a b c = some r → P (n + 1) a b c r) : ∀ n a b c r, xl3 F n a b c = some r → P n a b c r := by
  intro n
  induction n with
  | zero => intro a b c r h; cases h
  | succ n ih => intro a b c r h; exact hF n _ ih a b c r h
theorem xl4_N {A B C D β : Type} {F : (A → B → C → D → Option β) → A → B → C → D → Option β} (P : Nat → A → B → C → D → β → Prop) (hF : ∀ n go, (∀ a b c d r, go a b c d = some r → P n a b c d r) → ∀ a b c d r, F go a b c d = some r → P (n + 1) a b c d r) : ∀ n a b c d r, xl4 F n a b c d = some r → P n a b c d r := by
  intro n
  induction n with
  | zero => intro a b c d r h; cases h
  | succ n ih => intro a b c d r h; exact hF n _ ih a b c d r h
/-- a pick is given up and made anew; the group too is given up -/
theorem gC_pick {t : gP} {u : uS} {kp : Nat} {a : Nat → Nat} {f : Int → Int} (hC : gC t u) (hk : 294 ≤ kp ∧ kp < 354) (hfree : ∀ j : Nat, j < 60 → u 266 (j : Int) ≠ (kp : Int)) : gC (tkill t 293 294) u ∧ gC (tkill (tkill t 293 294) kp (kp + 1)) u ∧ gC (tsetn (tkill (tkill t 293 294) kp (kp + 1)) kp 1 a) (upA u kp f) := by
  have hM : NM = 358 := rfl
  have e1 : ∀ i, al (tkill t 293 294) i ↔ al t i ∧ ¬ (293 ≤ i ∧ i < 294) := fun i => tkill_al (by omega)
  have e2 : ∀ i, al (tkill (tkill t 293 294) kp (kp + 1)) i ↔ al (tkill t 293 294) i ∧ ¬ (kp ≤ i ∧ i < kp + 1) := fun i => tkill_al (by omega)
  have e3 : ∀ i, al (tsetn (tkill (tkill t 293 294) kp (kp + 1)) kp 1 a) i ↔ al (tkill (tkill t 293 294) kp (kp + 1)) i ∨ (kp ≤ i ∧ i < kp + 1) := fun i => tsetn_al ⟨by omega, by omega⟩ (fun j hj => by rw [show kp + j = kp by omega, sT_15k hk]; decide)
  have s293 : sT 293 = 107 := by decide +kernel
  have h1 : gC (tkill t 293 294) u := by
    refine ⟨fun k hk h => ?_, fun h => ?_, fun k hk h j j0 j1 hj => ?_⟩
    · have h3 := (e1 k).mp hk
      have h4 := sT_16 k (al_lt h3.1) h
      exact (e1 _).mpr ⟨hC.1 k h3.1 h, by omega⟩
    · have h3 := (e1 264).mp h
      obtain ⟨a1, a2, a3, a4, a5, a6⟩ := hC.2.1 h3.1
      exact ⟨(e1 _).mpr ⟨a1, by omega⟩, (e1 _).mpr ⟨a2, by omega⟩, (e1 _).mpr ⟨a3, by omega⟩, (e1 _).mpr ⟨a4, by omega⟩, (e1 _).mpr ⟨a5, by omega⟩, (e1 _).mpr ⟨a6, by omega⟩⟩
    · have h3 := (e1 k).mp hk
      have h4 := hC.2.2 k h3.1 h j j0 j1 hj
      refine ⟨(e1 _).mpr ⟨h4.1, fun q => ?_⟩, h4.2⟩
      have h5 : (u k j).toNat = 293 := by omega
      rw [h5, s293] at h4
      have h6 := h4.2
      split at h6 <;> omega
  have h2 : gC (tkill (tkill t 293 294) kp (kp + 1)) u := by
    refine ⟨fun k hk h => ?_, fun h => ?_, fun k hk h j j0 j1 hj => ?_⟩
    · have h3 := (e2 k).mp hk
      have h4 := sT_16 k (al_lt h3.1) h
      exact (e2 _).mpr ⟨h1.1 k h3.1 h, by omega⟩
    · have h3 := (e2 264).mp h
      obtain ⟨a1, a2, a3, a4, a5, a6⟩ := h1.2.1 h3.1
      exact ⟨(e2 _).mpr ⟨a1, by omega⟩, (e2 _).mpr ⟨a2, by omega⟩, (e2 _).mpr ⟨a3, by omega⟩, (e2 _).mpr ⟨a4, by omega⟩, (e2 _).mpr ⟨a5, by omega⟩, (e2 _).mpr ⟨a6, by omega⟩⟩
    · have h3 := (e2 k).mp hk
      have h4 := h1.2.2 k h3.1 h j j0 j1 hj
      refine ⟨(e2 _).mpr ⟨h4.1, fun q => ?_⟩, h4.2⟩
      have h5 : (u k j).toNat = kp := by omega
      rw [h5, sT_15k ‹294 ≤ kp ∧ kp < 354›] at h4
      have hl := al_lt h3.1
      rcases h with h | h
      · rw [if_pos h] at h4; omega
      · rcases sT_107 k hl h with rfl | rfl
        · have h6 : sN 266 = 60 := by decide +kernel
          rw [h6] at j1
          have h7 := hfree j.toNat (by omega)
          rw [Int.toNat_of_nonneg j0] at h7
          omega
        · have := ((e1 293).mp h3.1).2; omega
  refine ⟨h1, h2, fun k hk h => ?_, fun h => ?_, fun k hk h j j0 j1 hj => ?_⟩
  · rcases (e3 k).mp hk with h3 | h3
    · exact (e3 _).mpr (Or.inl (h2.1 k h3 h))
    · have h4 : k = kp := by omega
      rw [h4, sT_15k ‹294 ≤ kp ∧ kp < 354›] at h; omega
  · rcases (e3 264).mp h with h3 | h3
    · obtain ⟨a1, a2, a3, a4, a5, a6⟩ := h2.2.1 h3
      exact ⟨(e3 _).mpr (Or.inl a1), (e3 _).mpr (Or.inl a2), (e3 _).mpr (Or.inl a3), (e3 _).mpr (Or.inl a4), (e3 _).mpr (Or.inl a5), (e3 _).mpr (Or.inl a6)⟩
    · omega
  · by_cases hk3 : k = kp
    · rw [hk3, sT_15k ‹294 ≤ kp ∧ kp < 354›] at h; omega
    · rw [upA_k hk3] at hj ⊢
      have h3 := ((e3 k).mp hk).resolve_right (by omega)
      have h4 := h2.2.2 k h3 h j j0 j1 hj
      exact ⟨(e3 _).mpr (Or.inl h4.1), h4.2⟩
section YS
variable {p : Program} {l : Launch} {e : Env} {R : Room} {s : State} {m : MethodId} {args : Array Value} {below : List Frame} {meth : Method} {c : Code} {H : Heap} {locs : List Loc} {cells slots : Nat} {Q : State → Prop}
variable {ls : Array Slot} {rest st0 : List Value} {t : gP} {u : uS} {nL : Nat}
set_option maxHeartbeats 4000000 in
theorem mk_Pick (X : xC t p s m args c cX10_pass wsX10_pass RX10 nL) (hG : G t u H) (hS : va_S (gA t) s.heap H locs) (hl : ls.size = nL) (kp : Nat) (hk : 294 ≤ kp ∧ kp < 354) (hm : mkOk u) (hfree : ∀ j : Nat, j < 60 → u 266 (j : Int) ≠ (kp : Int)) (hf : cells + 1 ≤ R.cells ∧ slots + 5 ≤ R.slots)
    (hR : 2 ≤ R.frames ∧ 60 ≤ R.locals := by exact ⟨Nat.le_of_ble_eq_true rfl, Nat.le_of_ble_eq_true rfl⟩) (hW : (rest.map fun v => v.category).sum ≤ 4 := by exact Nat.le_of_ble_eq_true rfl)
    (kk : ∀ (t' : gP) (H1 : Heap) (locs1 : List Loc), ag 39 293 354 t t' → al t' kp → G t' (upA u kp (fun j => if j = 3 then -1 else 0)) H1 → va_S (gA t') s.heap H1 locs1 → W p l e R s m args below meth c H1 locs1 (cells + 1) (slots + 5) Q (F0 m 187 ls (.ref (t'.2.2.1 kp) :: rest))) : W p l e R s m args below meth c H locs cells slots Q (F0 m 180 ls rest) := by
  have hC := gC_pick (a := fun _ => 0) (f := fun _ => 0) hG.2.2.2 hk hfree
  have hG1 := hG.kill (lo := 293) (hi := 294) (by omega) hm hC.1
  have hG2 := hG1.kill (lo := kp) (hi := kp + 1) (by omega) hm hC.2.1
  have iX : ∀ w ∈ wsX110, w ∈ wsX10_pass := by decide +kernel
  have hA : ∀ q, s.heap.size ≤ q → gA t q := fun q hq => Nat.le_trans X.2.2.2 hq
  refine x_cnew X hG2.P hG2.D hS hA tyX11 tyX11_ok iX (x_w 13 rfl) (x_w 14 rfl) (x_w 15 rfl) (ci := 15) rfl [.int 0, .int 0, .int 0, .int 0, .int 0] (by decide +kernel) hf.1 hf.2 dX10_pass_180 (fun q H hP hD hS => ?_)
  refine lv_dup X.1.1 X.1.2.1 dX10_pass_183 rfl ?_
  refine x_kc (t := t) hP hD hS hA (va_runIN (As := []) (rest := .ref q :: rest) X.1 (c_X11_init l t q _) ⟨va_cnB 0 X.1.2.2.2.2 gX10_pass_X11_init_n125 rfl rfl rfl (X.2.2.1.1 (RX10, 125, yX11_init, "TriggerNetworkLaw") (x_m 12 rfl)) (X.1.2.2.2.2 _ (x_w 15 rfl)) hd_X11_init ⟨?_, ?_⟩, rfl, X.1.2.2.2.2 _ (x_w 27 rfl)⟩ ⟨c_blind, x_cpre X hP hD hS (fun q h => h)⟩ rfl rfl hl rfl (lv_room ?_) dX10_pass_184 ⟨hf.1, hf.2⟩) (fun as H locs hP hD hS => ?_)
  · exact hR.1
  · show 8 + (1 + 11) + 30 ≤ _; omega
  · rw [List.map_cons, List.sum_cons]
    show 1 + _ ≤ 8
    omega
  · have h0 : ∀ j, j < 5 → fC 15 j = 0 := by decide +kernel
    have hE : gE (tsetn (tkill (tkill t 293 294) kp (kp + 1)) kp 1 (fun _ => q)) (upA u kp (fun j => if j = 3 then -1 else 0)) kp = .inr (15, [.int 0, .int 0, .int 0, .int (-1), .int 0]) := by
      unfold gE gO
      rw [sT_15k hk, if_pos (by decide)]
      have e5 : fN 15 = 5 := by decide +kernel
      rw [e5]
      have hm : (List.range 5).map (gV (tsetn (tkill (tkill t 293 294) kp (kp + 1)) kp 1 (fun _ => q)) (upA u kp (fun j => if j = 3 then -1 else 0)) kp) = (List.range 5).map (fun (j : Nat) => Value.int (iI (if (j : Int) = 3 then -1 else 0))) := by
        apply List.map_congr_left
        intro j hj
        unfold gV
        rw [sT_15k hk, if_pos (h0 j (List.mem_range.mp hj)), upA_s]
      rw [hm]
      rfl
    have hM : NM = 358 := rfl
    have hal : ∀ j, j < 1 → ¬ al (tkill (tkill t 293 294) kp (kp + 1)) (kp + j) := fun j hj h => ((tkill_al (by omega)).mp h).2 ⟨by omega, by omega⟩
    have hs9 : ∀ j, j < 1 → sT (kp + j) ≠ 999 := fun j hj => by rw [show kp + j = kp by omega, sT_15k hk]; decide
    have hG3 := hG2.makeL (k0 := kp) (n := 1) (a := fun _ => q) (u' := upA u kp (fun j => if j = 3 then -1 else 0)) ⟨by omega, by omega⟩ hs9 hal (fun h => by omega) (fun h => by omega) hm hP hD (fun j hj => by
      rw [show j = 0 by omega, show kp + 0 = kp from rfl, hE]; rfl) (fun i hi _ j => upA_k (by omega)) ⟨upA_k (by omega), Or.inr (Or.inr (upA_k (by omega))), Or.inr (Or.inr (upA_k (by omega)))⟩ (gC_pick (a := fun _ => q) (f := fun j => if j = 3 then -1 else 0) hG.2.2.2 hk hfree).2.2
    have h3 : (tsetn (tkill (tkill t 293 294) kp (kp + 1)) kp 1 (fun _ => q)).2.2.1 kp = q := tsetn_n (i := 0) (by omega)
    have hag : ag 39 293 354 t (tsetn (tkill (tkill t 293 294) kp (kp + 1)) kp 1 (fun _ => q)) := ⟨rfl, rfl, rfl, fun k h1 h2 h3 => by
      unfold tsetn tkill
      show (if _ then _ else _) = _
      rw [if_neg (by omega), if_neg (by omega)]
      show (if _ then _ else _) = _
      rw [if_neg (by omega)]
      show (if _ then _ else _) = _
      rw [if_neg (by omega)]⟩
    have hal3 : al (tsetn (tkill (tkill t 293 294) kp (kp + 1)) kp 1 (fun _ => q)) kp := (tsetn_al ⟨by omega, by omega⟩ hs9).mpr (Or.inr ⟨by omega, by omega⟩)
    have h5 := kk _ H locs hag hal3 hG3 hS
    rw [h3] at h5
    exact h5
end YS
