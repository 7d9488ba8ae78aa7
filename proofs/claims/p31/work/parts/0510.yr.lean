/-! rows for the law's cells: fields of nest mates, rows of references, cells made anew, calls that make cells -/
section YR
variable {p : Program} {l : Launch} {e : Env} {R : Room} {s : State} {m : MethodId} {args : Array Value} {below : List Frame} {meth : Method} {c : Code} {H : Heap} {locs : List Loc} {cells slots : Nat} {Q : State → Prop}
variable {cc : ByteArray} {pc : Nat} {ls : Array Slot} {rest st0 : List Value} {t : gP} {u : uS} {ws : List Cond} {own : String} {nL : Nat}
theorem yN_geti (X : xC t p s m args c cc ws own nL) (hG : G t u H) (ci j k : Nat) (ji : Int) {C host : String} {T : u_T} {N idx : Nat} (inC : ∀ w ∈ u_ws C T N, w ∈ ws) (hc : vwCl[ci]? = some (C, T, N)) (hk : al t k) (hs : sT k = ci) (h1 : ci < 100 ∧ j < N ∧ j < fN ci ∧ fC ci j = 0 ∧ (j : Int) = ji) (hw : (own, idx, (T j).1, (T j).2.1, (T j).2.2.1, host) ∈ gNf) (hdg : decode cc pc = .ok (.getfield idx, 3)) (kk : W p l e R s m args below meth c H locs cells slots Q (F0 m (pc + 3) ls (.int (iI (u k ji)) :: rest))) : W p l e R s m args below meth c H locs cells slots Q (F0 m pc ls (.ref (t.2.2.1 k) :: rest)) := by
  obtain ⟨h100, hjN, hjf, hcode, rfl⟩ := h1
  refine va_getN (host := host) (D := t.1) (cl := vwCl) (C := C) (T := T) (N := N) X.1.1 X.1.2.1 X.1.2.2.2.2 inC X.1.2.2.2.1 X.2.1 hG.P (gi t k) (gL_o hk hs h100) hc j hjN (va_Nw.use rfl (X.2.2.1.nf _ hw)) (fun _ h9 => h9) (gO_at hs hjf) hdg ?_
  have : gV t u k j = .int (iI (u k (j : Int))) := by simp only [gV, hs, hcode, if_true]
  rw [this]; exact kk
theorem yN_getr (X : xC t p s m args c cc ws own nL) (hG : G t u H) (ci j k off : Nat) {C host : String} {T : u_T} {N idx : Nat} (inC : ∀ w ∈ u_ws C T N, w ∈ ws) (hc : vwCl[ci]? = some (C, T, N)) (hk : al t k) (hs : sT k = ci) (h1 : ci < 100 ∧ j < N ∧ j < fN ci ∧ fC ci j = off ∧ 0 < off ∧ off < 1000) (hw : (own, idx, (T j).1, (T j).2.1, (T j).2.2.1, host) ∈ gNf) (hdg : decode cc pc = .ok (.getfield idx, 3)) (kk : W p l e R s m args below meth c H locs cells slots Q (F0 m (pc + 3) ls (.ref (t.2.2.1 (k + off)) :: rest))) : W p l e R s m args below meth c H locs cells slots Q (F0 m pc ls (.ref (t.2.2.1 k) :: rest)) := by
  obtain ⟨h100, hjN, hjf, hcode, h0, h3⟩ := h1
  refine va_getN (host := host) (D := t.1) (cl := vwCl) (C := C) (T := T) (N := N) X.1.1 X.1.2.1 X.1.2.2.2.2 inC X.1.2.2.2.1 X.2.1 hG.P (gi t k) (gL_o hk hs h100) hc j hjN (va_Nw.use rfl (X.2.2.1.nf _ hw)) (fun _ h9 => h9) (gO_at hs hjf) hdg ?_
  have : gV t u k j = .ref (t.2.2.1 (k + off)) := by
    simp only [gV, hs, hcode]
    rw [if_neg (by omega), if_neg (by omega)]
  rw [this]; exact kk
theorem yN_puti (X : xC t p s m args c cc ws own nL) (hG : G t u H) (hS : va_S (gA t) s.heap H locs) (ci j k : Nat) (ji x : Int) {C host : String} {T : u_T} {N idx : Nat} (ty0 : Nat → FieldType) (hty : ∀ k, k < N → parseFieldDescriptor (T k).2.2.1 = some (ty0 k)) (hnm : ∀ a, a < N → ∀ b, b < N → a ≠ b → (T a).2.1 ≠ (T b).2.1) (inC : ∀ w ∈ u_ws C T N, w ∈ ws) (hc : vwCl[ci]? = some (C, T, N)) (hk : al t k) (hs : sT k = ci) (h1 : ci < 100 ∧ j < N ∧ j < fN ci ∧ fC ci j = 0 ∧ (j : Int) = ji) (hfin : (T j).2.2.2 = false) (hd : parseFieldDescriptor (T j).2.2.1 = some .int) (hw : (own, idx, (T j).1, (T j).2.1, (T j).2.2.1, host) ∈ gNf) (hdg : decode cc pc = .ok (.putfield idx, 3)) (kk : ∀ (H1 : Heap) (locs1 : List Loc), G t (up u k ji x) H1 → va_S (gA t) s.heap H1 locs1 → W p l e R s m args below meth c H1 locs1 cells slots Q (F0 m (pc + 3) ls rest)) : W p l e R s m args below meth c H locs cells slots Q (F0 m pc ls (.int (iI x) :: .ref (t.2.2.1 k) :: rest)) := by
  obtain ⟨h100, hjN, hjf, hcode, rfl⟩ := h1
  refine va_putN (host := host) (D := t.1) (cl := vwCl) (C := C) (T := T) (N := N) X.1.1 X.1.2.1 X.1.2.2.2.2 inC ty0 hty hnm X.1.2.2.2.1 X.2.1 hG.P hG.D hS (gi t k) (gL_o hk hs h100) hc j hjN (va_Nw.use rfl (X.2.2.1.nf _ hw)) (fun _ h9 => h9) hfin hd rfl rfl (by rw [gO_len hs]; exact hjf) hdg (fun H1 locs1 hP _ hS1 => ?_)
  refine kk H1 locs1 (hG.store hk ⟨by omega, by omega⟩ hP (gad_o hs (by omega)) ?_ (fun i b hi => up_k hi)) hS1
  have hk9 : (1000 : Nat) ≠ k := by have : k < 358 := al_lt hk; omega
  have hv : gV t (up u k (j : Int) x) k j = .int (iI x) := by simp only [gV, hs, hcode, if_true, up_s]
  simp only [gE, hs]
  rw [if_pos h100, gO_set (u := u) hs (fun b => up_k hk9) (fun b hb => up_j hb), hv]
theorem yN_putz (X : xC t p s m args c cc ws own nL) (hG : G t u H) (hS : va_S (gA t) s.heap H locs) (ci j k : Nat) (ji x : Int) {C host : String} {T : u_T} {N idx : Nat} (ty0 : Nat → FieldType) (hty : ∀ k, k < N → parseFieldDescriptor (T k).2.2.1 = some (ty0 k)) (hnm : ∀ a, a < N → ∀ b, b < N → a ≠ b → (T a).2.1 ≠ (T b).2.1) (inC : ∀ w ∈ u_ws C T N, w ∈ ws) (hc : vwCl[ci]? = some (C, T, N)) (hk : al t k) (hs : sT k = ci) (h1 : ci < 100 ∧ j < N ∧ j < fN ci ∧ fC ci j = 0 ∧ (j : Int) = ji) (hfin : (T j).2.2.2 = false) (hd : parseFieldDescriptor (T j).2.2.1 = some .boolean) (hx : x = 0 ∨ x = 1) (hw : (own, idx, (T j).1, (T j).2.1, (T j).2.2.1, host) ∈ gNf) (hdg : decode cc pc = .ok (.putfield idx, 3)) (kk : ∀ (H1 : Heap) (locs1 : List Loc), G t (up u k ji x) H1 → va_S (gA t) s.heap H1 locs1 → W p l e R s m args below meth c H1 locs1 cells slots Q (F0 m (pc + 3) ls rest)) : W p l e R s m args below meth c H locs cells slots Q (F0 m pc ls (.int (iI x) :: .ref (t.2.2.1 k) :: rest)) := by
  obtain ⟨h100, hjN, hjf, hcode, rfl⟩ := h1
  refine va_putN (host := host) (D := t.1) (cl := vwCl) (C := C) (T := T) (N := N) X.1.1 X.1.2.1 X.1.2.2.2.2 inC ty0 hty hnm X.1.2.2.2.1 X.2.1 hG.P hG.D hS (gi t k) (gL_o hk hs h100) hc j hjN (va_Nw.use rfl (X.2.2.1.nf _ hw)) (fun _ h9 => h9) hfin hd (nz_of hx) (by rcases hx with rfl | rfl <;> decide) (by rw [gO_len hs]; exact hjf) hdg (fun H1 locs1 hP _ hS1 => ?_)
  refine kk H1 locs1 (hG.store hk ⟨by omega, by omega⟩ hP (gad_o hs (by omega)) ?_ (fun i b hi => up_k hi)) hS1
  have hk9 : (1000 : Nat) ≠ k := by have : k < 358 := al_lt hk; omega
  have hv : gV t (up u k (j : Int) x) k j = .int (iI x) := by simp only [gV, hs, hcode, if_true, up_s]
  simp only [gE, hs]
  rw [if_pos h100, gO_set (u := u) hs (fun b => up_k hk9) (fun b hb => up_j hb), hv]
theorem y_qf {H : Heap} (hG : G t u H) {k g : Nat} {i : Int} (hk : al t k) (hs : sT k = g) (hg : g = 106 ∨ g = 107) {n : Nat} (hn : sN k = n) (hi : 0 ≤ i ∧ i < (n : Int)) (h0 : 0 ≤ u k i) : al t (u k i).toNat ∧ sT (u k i).toNat = (if g = 106 then 16 else 15) := by
  subst hn; subst hs
  exact hG.2.2.2.2.2 k hk hg i hi.1 hi.2 h0
theorem y_aaldq (X : xC t p s m args c cc ws own nL) (hG : G t u H) {k g : Nat} {i : Int} (hk : al t k) (hs : sT k = g) (hg : g = 106 ∨ g = 107) {n : Nat} (hn : sN k = n) (hi : 0 ≤ i ∧ i < (n : Int)) (h2 : n < 2147483648) (h0 : 0 ≤ u k i) (hdg : decode cc pc = .ok (.aaload, 1))
    (kk : W p l e R s m args below meth c H locs cells slots Q (F0 m (pc + 1) ls (.ref (t.2.2.1 (u k i).toNat) :: rest))) : W p l e R s m args below meth c H locs cells slots Q (F0 m pc ls (.int (iI i) :: .ref (t.2.2.1 k) :: rest)) := by
  subst hn
  have hv : va_rf (gQ t u k (iI i).toNatClampNeg) = .ref (t.2.2.1 (u k i).toNat) := by
    rw [iI_cl ⟨by omega, by omega⟩]
    unfold gQ
    rw [if_pos (by omega), Int.toNat_of_nonneg hi.1, if_neg (by omega)]
    rfl
  rcases hg with rfl | rfl
  · refine va_aldq (D := t.1) (cl := vwCl) X.1.1 X.1.2.1 X.2.1 hG.P (gi t k) 5 (gL_q hk hs (Or.inl rfl)) rfl (iI_in hi h2) hdg ?_
    rw [hv]; exact kk
  · refine va_aldq (D := t.1) (cl := vwCl) X.1.1 X.1.2.1 X.2.1 hG.P (gi t k) 6 (gL_q hk hs (Or.inr rfl)) rfl (iI_in hi h2) hdg ?_
    rw [hv]; exact kk
theorem gQ_up {k v : Nat} {i : Int} (hi : 0 ≤ i ∧ i < (sN k : Int)) : gQ t (up u k i (v : Int)) k = va_up (gQ t u k) i.toNat (some (t.2.2.1 v)) := by
  funext j
  unfold gQ va_up
  by_cases h : j = i.toNat
  · subst h
    rw [if_pos (by omega), Int.toNat_of_nonneg hi.1, up_s, if_neg (by omega), if_pos rfl]
    rfl
  · rw [if_neg h]
    have e : up u k i (v : Int) k (j : Int) = u k (j : Int) := up_j (by omega)
    rw [e]
theorem y_aast (X : xC t p s m args c cc ws own nL) (hG : G t u H) (hS : va_S (gA t) s.heap H locs) {k g v c9 : Nat} {i : Int} (hk : al t k) (hs : sT k = g) (hv : al t v) (hvs : sT v = c9) (hg : (g = 106 ∧ c9 = 16) ∨ (g = 107 ∧ c9 = 15)) {n : Nat} (hn : sN k = n) (hi : 0 ≤ i ∧ i < (n : Int)) (h2 : n < 2147483648) (hdg : decode cc pc = .ok (.aastore, 1))
    (kk : ∀ (H1 : Heap) (locs1 : List Loc), G t (up u k i (v : Int)) H1 → va_S (gA t) s.heap H1 locs1 → W p l e R s m args below meth c H1 locs1 cells slots Q (F0 m (pc + 1) ls rest)) : W p l e R s m args below meth c H locs cells slots Q (F0 m pc ls (.ref (t.2.2.1 v) :: .int (iI i) :: .ref (t.2.2.1 k) :: rest)) := by
  subst hn
  have hgq : g = 106 ∨ g = 107 := by omega
  have hcl : (iI i).toNatClampNeg = i.toNat := iI_cl ⟨by omega, by omega⟩
  have hfin : ∀ (H1 : Heap), va_P t.1 vwCl ((gL t u).set (gi t k) (t.2.2.1 k, .inl (t.2.1 g, sN k, .inr (.inr (.inr (.inr (va_up (gQ t u k) i.toNat (some (t.2.2.1 v))))))))) H1 → G t (up u k i (v : Int)) H1 := fun H1 hP => by
    have hkl : k < 358 := al_lt hk
    have h9 : ∀ j, up u k i (v : Int) 1000 j = u 1000 j := fun j => up_k (by omega)
    refine ⟨fun a ha => ?_, hG.2.1, hG.2.2.1, hG.2.2.2.1, hG.2.2.2.2.1, fun a ha hsa j j0 j1 hj => ?_⟩
    · by_cases hak : a = k
      · subst hak
        have := hP (gi t a) _ (by rw [List.getElem?_set_self (gi_lt hk)])
        rw [gE_q hs hgq, gQ_up hi]; exact this
      · rw [gE_of (fun j => up_k hak) h9]
        exact hP (gi t a) _ (by rw [List.getElem?_set_ne (fun q => hak (gi_inj ha hk q.symm))]; exact gL_at ha)
    · by_cases hak : a = k
      · subst hak
        by_cases hji : j = i
        · subst hji
          rw [up_s, hs]
          refine ⟨hv, ?_⟩
          show sT (Int.toNat (v : Int)) = _
          rw [Int.toNat_natCast, hvs]
          rcases hg with ⟨rfl, rfl⟩ | ⟨rfl, rfl⟩ <;> decide
        · rw [up_j hji] at hj ⊢
          exact hG.2.2.2.2.2 a ha hsa j j0 j1 hj
      · rw [up_k hak] at hj ⊢
        exact hG.2.2.2.2.2 a ha hsa j j0 j1 hj
  rcases hg with ⟨rfl, rfl⟩ | ⟨rfl, rfl⟩
  · refine va_astq (D := t.1) (cl := vwCl) (r := (RX12, TX12, 7)) X.1.1 X.1.2.1 X.2.1 hG.P hG.D hS (gi t k) 5 (gi t v) 16 (gL_q hk hs (Or.inl rfl)) rfl (gL_o hv hvs (by decide)) rfl (iI_in hi h2) hdg (fun H1 locs1 hP _ hS1 => ?_)
    rw [hcl] at hP
    exact kk H1 locs1 (hfin H1 hP) hS1
  · refine va_astq (D := t.1) (cl := vwCl) (r := (RX11, TX11, 5)) X.1.1 X.1.2.1 X.2.1 hG.P hG.D hS (gi t k) 6 (gi t v) 15 (gL_q hk hs (Or.inr rfl)) rfl (gL_o hv hvs (by decide)) rfl (iI_in hi h2) hdg (fun H1 locs1 hP _ hS1 => ?_)
    rw [hcl] at hP
    exact kk H1 locs1 (hfin H1 hP) hS1
/-- one row of numbers given up and made anew -/
theorem gC_tmp {k0 : Nat} {a : Nat → Nat} {f : Int → Int} (hC : gC t u) (hk0 : 291 ≤ k0 ∧ k0 < 358) (hs : sT k0 ≠ 999 ∧ sT k0 ≠ 15 ∧ sT k0 ≠ 16 ∧ (sT k0 = 106 ∨ sT k0 = 107 → ∀ j, f j < 0)) : gC (tkill t k0 (k0 + 1)) u ∧ gC (tsetn (tkill t k0 (k0 + 1)) k0 1 a) (upA u k0 f) := by
  have hM : NM = 358 := rfl
  have e1 : ∀ i, al (tkill t k0 (k0 + 1)) i ↔ al t i ∧ ¬ (k0 ≤ i ∧ i < k0 + 1) := fun i => tkill_al (by omega)
  have e2 : ∀ i, al (tsetn (tkill t k0 (k0 + 1)) k0 1 a) i ↔ al (tkill t k0 (k0 + 1)) i ∨ (k0 ≤ i ∧ i < k0 + 1) := fun i => tsetn_al ⟨by omega, by omega⟩ (fun j hj => by rw [show k0 + j = k0 by omega]; exact hs.1)
  have h1 : gC (tkill t k0 (k0 + 1)) u := by
    refine ⟨fun k hk h => ?_, fun h => ?_, fun k hk h j j0 j1 hj => ?_⟩
    · have h3 := (e1 k).mp hk
      have h4 := sT_16 k (al_lt h3.1) h
      exact (e1 _).mpr ⟨hC.1 k h3.1 h, by omega⟩
    · have h3 := (e1 264).mp h
      obtain ⟨a1, a2, a3, a4, a5, a6⟩ := hC.2.1 h3.1
      exact ⟨(e1 _).mpr ⟨a1, by omega⟩, (e1 _).mpr ⟨a2, by omega⟩, (e1 _).mpr ⟨a3, by omega⟩, (e1 _).mpr ⟨a4, by omega⟩, (e1 _).mpr ⟨a5, by omega⟩, (e1 _).mpr ⟨a6, by omega⟩⟩
    · have h3 := (e1 k).mp hk
      have h4 := hC.2.2 k h3.1 h j j0 j1 hj
      refine ⟨(e1 _).mpr ⟨h4.1, fun q => ?_⟩, h4.2⟩
      have h5 : (u k j).toNat = k0 := by omega
      rw [h5] at h4
      have h6 := h4.2
      split at h6
      · exact hs.2.2.1 h6
      · exact hs.2.1 h6
  refine ⟨h1, fun k hk h => ?_, fun h => ?_, fun k hk h j j0 j1 hj => ?_⟩
  · rcases (e2 k).mp hk with h3 | h3
    · exact (e2 _).mpr (Or.inl (h1.1 k h3 h))
    · exact absurd h (by rw [show k = k0 by omega]; exact hs.2.2.1)
  · rcases (e2 264).mp h with h3 | h3
    · obtain ⟨a1, a2, a3, a4, a5, a6⟩ := h1.2.1 h3
      exact ⟨(e2 _).mpr (Or.inl a1), (e2 _).mpr (Or.inl a2), (e2 _).mpr (Or.inl a3), (e2 _).mpr (Or.inl a4), (e2 _).mpr (Or.inl a5), (e2 _).mpr (Or.inl a6)⟩
    · omega
  · by_cases hk3 : k = k0
    · subst hk3
      rw [upA_s] at hj
      have := hs.2.2.2 h j
      omega
    · rw [upA_k hk3] at hj ⊢
      have h3 := ((e2 k).mp hk).resolve_right (by omega)
      have h4 := h1.2.2 k h3 h j j0 j1 hj
      exact ⟨(e2 _).mpr (Or.inl h4.1), h4.2⟩
/-- what follows once a row lies at q -/
theorem y_tmp {k0 q : Nat} {E : va_E} {f : Int → Int} {H1 : Heap} (hG : G t u H) (hk0 : 291 ≤ k0 ∧ k0 < 358) (hs : sT k0 ≠ 999 ∧ sT k0 ≠ 15 ∧ sT k0 ≠ 16 ∧ (sT k0 = 106 ∨ sT k0 = 107 → ∀ j, f j < 0)) (hm : mkOk u)
    (hP : va_P t.1 vwCl (gL (tkill t k0 (k0 + 1)) u ++ [(q, E)]) H1) (hD : va_D (gA t) (gL (tkill t k0 (k0 + 1)) u ++ [(q, E)])) (hE : gE (tsetn (tkill t k0 (k0 + 1)) k0 1 (fun _ => q)) (upA u k0 f) k0 = E) :
    ag 39 k0 (k0 + 1) t (tsetn (tkill t k0 (k0 + 1)) k0 1 (fun _ => q)) ∧ al (tsetn (tkill t k0 (k0 + 1)) k0 1 (fun _ => q)) k0 ∧ (tsetn (tkill t k0 (k0 + 1)) k0 1 (fun _ => q)).2.2.1 k0 = q ∧ G (tsetn (tkill t k0 (k0 + 1)) k0 1 (fun _ => q)) (upA u k0 f) H1 := by
  have hM : NM = 358 := rfl
  have hC := gC_tmp (a := fun _ => q) (f := f) hG.2.2.2 hk0 hs
  have hG0 := hG.kill (lo := k0) (hi := k0 + 1) (by omega) hm hC.1
  have hd : ∀ j, j < 1 → ¬ al (tkill t k0 (k0 + 1)) (k0 + j) := fun j hj h => ((tkill_al (by omega)).mp h).2 ⟨by omega, by omega⟩
  refine ⟨⟨rfl, rfl, rfl, fun k h1 h2 h3 => ?_⟩, (tsetn_al ⟨by omega, by omega⟩ (fun j hj => by rw [show k0 + j = k0 by omega]; exact hs.1)).mpr (Or.inr ⟨by omega, by omega⟩), tsetn_n (i := 0) (by omega), ?_⟩
  · unfold tsetn tkill
    show (if _ then _ else _) = _
    rw [if_neg h2, if_neg (by omega)]
    show (if _ then _ else _) = _
    rw [if_neg (by omega)]
  · refine hG0.makeL (L := [(q, E)]) ⟨by omega, by omega⟩ (fun j hj => by rw [show k0 + j = k0 by omega]; exact hs.1) hd (fun h => by omega) (fun h => by omega) hm hP hD (fun j hj => ?_) (fun i hi _ j => upA_k (by omega)) ⟨upA_k (by omega), Or.inr (Or.inr (upA_k (by omega))), Or.inr (Or.inr (upA_k (by omega)))⟩ hC.2
    rw [show j = 0 by omega, show k0 + 0 = k0 from rfl, hE]
    rfl
theorem y_newi (X : xC t p s m args c cc ws own nL) (hG : G t u H) (hS : va_S (gA t) s.heap H locs) (k0 : Nat) {n : Int} {N' : Nat} (hk0 : 291 ≤ k0 ∧ k0 < 358) (hs : sT k0 = 100) (hN : sN k0 = N') (hn : n = (N' : Int) ∧ N' < 100000) (hm : mkOk u) (hw : Cond.arrayClass .int ∈ ws) (hcells : cells + 1 ≤ R.cells) (hslots : slots + N' ≤ R.slots) (hdg : decode cc pc = .ok (.newarray .int, 2))
    (kk : ∀ (t' : gP) (H1 : Heap) (locs1 : List Loc), ag 39 k0 (k0 + 1) t t' → al t' k0 → G t' (upA u k0 (fun _ => 0)) H1 → va_S (gA t') s.heap H1 locs1 → W p l e R s m args below meth c H1 locs1 (cells + 1) (slots + N') Q (F0 m (pc + 2) ls (.ref (t'.2.2.1 k0) :: rest))) : W p l e R s m args below meth c H locs cells slots Q (F0 m pc ls (.int (iI n) :: rest)) := by
  subst hN
  have hx : InR n := ⟨by omega, by omega⟩
  have hs2 : sT k0 ≠ 999 ∧ sT k0 ≠ 15 ∧ sT k0 ≠ 16 ∧ (sT k0 = 106 ∨ sT k0 = 107 → ∀ j : Int, (fun _ => 0 : Int → Int) j < 0) := ⟨by omega, by omega, by omega, fun h => by omega⟩
  have hG0 := hG.kill (lo := k0) (hi := k0 + 1) (by omega) hm (gC_tmp (a := fun _ => 0) hG.2.2.2 hk0 hs2).1
  refine va_newa (D := t.1) (cl := vwCl) (atype := .int) (ty := .int) (N' := sN k0) (a0 := (sN k0, .inl (fun _ => 0))) X.1.1 X.1.2.1 (X.1.2.2.2.2 _ hw) rfl X.2.1 hG0.P hG0.D hS (fun q hq => Nat.le_trans X.2.2.2 hq) (fun cA => rfl) (fun q => by have := (iI_lt (b := 0) hx (by decide)).mp q; omega) ((iI_cl hx).trans (by omega)) (by show sN k0 * 4 ≤ _; omega) hcells hslots hdg (fun q cA H1 hK hP hD hS1 => ?_)
  have hcA : cA = t.2.1 100 := by
    have q1 := (hK.2 7 (cA, .int) rfl).2
    have q2 := (hK.2 0 (t.2.1 100, .int) rfl).2
    exact Option.some.inj (Eq.trans (Eq.symm q1) q2)
  subst hcA
  obtain ⟨h1, h2, h3, h4⟩ := y_tmp (f := fun _ => 0) hG hk0 hs2 hm hP hD (by
    rw [gE_a hs (by omega)]
    simp only [upA_s]
    rfl)
  have h5 := kk _ H1 _ h1 h2 h4 hS1
  rw [h3] at h5
  exact h5
theorem y_newz (X : xC t p s m args c cc ws own nL) (hG : G t u H) (hS : va_S (gA t) s.heap H locs) (k0 : Nat) {n : Int} {N' : Nat} (hk0 : 291 ≤ k0 ∧ k0 < 358) (hs : sT k0 = 101) (hN : sN k0 = N') (hn : n = (N' : Int) ∧ N' < 100000) (hm : mkOk u) (hw : Cond.arrayClass .boolean ∈ ws) (hcells : cells + 1 ≤ R.cells) (hslots : slots + N' ≤ R.slots) (hdg : decode cc pc = .ok (.newarray .boolean, 2))
    (kk : ∀ (t' : gP) (H1 : Heap) (locs1 : List Loc), ag 39 k0 (k0 + 1) t t' → al t' k0 → G t' (upA u k0 (fun _ => 0)) H1 → va_S (gA t') s.heap H1 locs1 → W p l e R s m args below meth c H1 locs1 (cells + 1) (slots + N') Q (F0 m (pc + 2) ls (.ref (t'.2.2.1 k0) :: rest))) : W p l e R s m args below meth c H locs cells slots Q (F0 m pc ls (.int (iI n) :: rest)) := by
  subst hN
  have hx : InR n := ⟨by omega, by omega⟩
  have hs2 : sT k0 ≠ 999 ∧ sT k0 ≠ 15 ∧ sT k0 ≠ 16 ∧ (sT k0 = 106 ∨ sT k0 = 107 → ∀ j : Int, (fun _ => 0 : Int → Int) j < 0) := ⟨by omega, by omega, by omega, fun h => by omega⟩
  have hG0 := hG.kill (lo := k0) (hi := k0 + 1) (by omega) hm (gC_tmp (a := fun _ => 0) hG.2.2.2 hk0 hs2).1
  refine va_newa (D := t.1) (cl := vwCl) (atype := .boolean) (ty := .boolean) (N' := sN k0) (a0 := (sN k0, .inl (fun _ => 0))) X.1.1 X.1.2.1 (X.1.2.2.2.2 _ hw) rfl X.2.1 hG0.P hG0.D hS (fun q hq => Nat.le_trans X.2.2.2 hq) (fun cA => rfl) (fun q => by have := (iI_lt (b := 0) hx (by decide)).mp q; omega) ((iI_cl hx).trans (by omega)) (by show sN k0 * 1 ≤ _; omega) hcells hslots hdg (fun q cA H1 hK hP hD hS1 => ?_)
  have hcA : cA = t.2.1 101 := by
    have q1 := (hK.2 7 (cA, .boolean) rfl).2
    have q2 := (hK.2 1 (t.2.1 101, .boolean) rfl).2
    exact Option.some.inj (Eq.trans (Eq.symm q1) q2)
  subst hcA
  obtain ⟨h1, h2, h3, h4⟩ := y_tmp (f := fun _ => 0) hG hk0 hs2 hm hP hD (by
    rw [gE_a hs (by omega)]
    simp only [upA_s]
    rfl)
  have h5 := kk _ H1 _ h1 h2 h4 hS1
  rw [h3] at h5
  exact h5
theorem y_newK (X : xC t p s m args c cc ws own nL) (hG : G t u H) (hS : va_S (gA t) s.heap H locs) (k0 : Nat) {n : Int} {N' idx : Nat} (hk0 : 291 ≤ k0 ∧ k0 < 358) (hs : sT k0 = 107) (hN : sN k0 = N') (hn : n = (N' : Int) ∧ N' < 100000) (hm : mkOk u) (hw : Cond.classLink own idx RX11 ∈ ws) (hcells : cells + 1 ≤ R.cells) (hslots : slots + N' ≤ R.slots) (hdg : decode cc pc = .ok (.anewarray idx, 3))
    (kk : ∀ (t' : gP) (H1 : Heap) (locs1 : List Loc), ag 39 k0 (k0 + 1) t t' → al t' k0 → G t' (upA u k0 (fun _ => -1)) H1 → va_S (gA t') s.heap H1 locs1 → W p l e R s m args below meth c H1 locs1 (cells + 1) (slots + N') Q (F0 m (pc + 3) ls (.ref (t'.2.2.1 k0) :: rest))) : W p l e R s m args below meth c H locs cells slots Q (F0 m pc ls (.int (iI n) :: rest)) := by
  subst hN
  have hx : InR n := ⟨by omega, by omega⟩
  have hs2 : sT k0 ≠ 999 ∧ sT k0 ≠ 15 ∧ sT k0 ≠ 16 ∧ (sT k0 = 106 ∨ sT k0 = 107 → ∀ j : Int, (fun _ => -1 : Int → Int) j < 0) := ⟨by omega, by omega, by omega, fun h j => by show (-1 : Int) < 0; decide⟩
  have hG0 := hG.kill (lo := k0) (hi := k0 + 1) (by omega) hm (gC_tmp (a := fun _ => 0) hG.2.2.2 hk0 hs2).1
  refine va_newq (D := t.1) (cl := vwCl) (N' := sN k0) X.1.1 X.1.2.1 X.1.2.2.2.1 (X.1.2.2.2.2 _ hw) X.2.2.1.ao.2.2 X.2.1 hG0.P hG0.D hS (fun q hq => Nat.le_trans X.2.2.2 hq) (fun q => by have := (iI_lt (b := 0) hx (by decide)).mp q; omega) ((iI_cl hx).trans (by omega)) (by omega) hcells hslots hdg (fun q cA H1 hK hP hD hS1 => ?_)
  have hcA : cA = t.2.1 107 := by
    have q1 := (hK.2 7 (cA, .object "TriggerNetworkLaw$Pick") rfl).2
    have q2 := (hK.2 6 (t.2.1 107, .object "TriggerNetworkLaw$Pick") rfl).2
    obtain ⟨_, _, _, _, _, h1⟩ := q1
    obtain ⟨_, _, _, _, _, h2⟩ := q2
    exact Option.some.inj (Eq.trans (Eq.symm h1) h2)
  subst hcA
  obtain ⟨h1, h2, h3, h4⟩ := y_tmp (f := fun _ => -1) hG hk0 hs2 hm hP hD (by
    rw [gE_q hs (Or.inr rfl)]
    have e : gQ (tsetn (tkill t k0 (k0 + 1)) k0 1 (fun _ => q)) (upA u k0 (fun _ => -1)) k0 = fun _ => none := by
      funext j
      unfold gQ
      rw [upA_s]
      by_cases hj : j < sN k0
      · rw [if_pos hj]; rfl
      · rw [if_neg hj]
    rw [e]
    rfl)
  have h5 := kk _ H1 _ h1 h2 h4 hS1
  rw [h3] at h5
  exact h5
theorem x_iushr (X : xC t p s m args c cc ws own nL) {a b : Int} (hb : 0 < b ∧ b < 32) (hdg : decode cc pc = .ok (.iushr, 1)) (kk : W p l e R s m args below meth c H locs cells slots Q (F0 m (pc + 1) ls (.int (iI (a % 4294967296 / 2 ^ b.toNat)) :: rest))) : W p l e R s m args below meth c H locs cells slots Q (F0 m pc ls (.int (iI b) :: .int (iI a) :: rest)) := by
  refine lv_iushr X.1.1 X.1.2.1 hdg ?_ kk
  have h1 := iI_bn a
  have hsm : ∀ k : Nat, k < 32 → (nI k).toUInt32 &&& Int32.toUInt32 31 = UInt32.ofNat k := by decide +kernel
  have h2 : iI b = nI b.toNat := by
    show _ = Int32.ofNat _
    rw [iI_nat, Int.toNat_of_nonneg (by omega)]
  rw [h2, hsm _ (by omega)]
  have h3 : (iI a).toUInt32.toNat = (iI a).toBitVec.toNat := rfl
  have h4 : ((iI a).toUInt32 >>> UInt32.ofNat b.toNat) = UInt32.ofNat ((iI a).toBitVec.toNat / 2 ^ b.toNat) := by
    apply UInt32.toNat_inj.mp
    rw [UInt32.toNat_shiftRight, h3, UInt32.toNat_ofNat', UInt32.toNat_ofNat', Nat.mod_eq_of_lt (show b.toNat < 2 ^ 32 by omega), Nat.mod_eq_of_lt (show b.toNat < 32 by omega), Nat.shiftRight_eq_div_pow, Nat.mod_eq_of_lt]
    exact Nat.lt_of_le_of_lt (Nat.div_le_self _ _) (iI a).toBitVec.isLt
  rw [h4]
  have h5 : (UInt32.ofNat ((iI a).toBitVec.toNat / 2 ^ b.toNat)).toInt32 = Int32.ofNat ((iI a).toBitVec.toNat / 2 ^ b.toNat) := rfl
  rw [h5, iI_nat, Int.natCast_ediv, h1, Int.natCast_pow]
  rfl
/-- a call that makes cells -/
abbrev xQia (b lo hi : Nat) (t : gP) (r : Int) (u' : uS) : Array Value → State → Outcome → State → Prop := va_Qi (fun (r2 : Int32) (u2 : uS) => r2 = iI r ∧ u2 = u') (fun u2 U => ∃ t', ag b lo hi t t' ∧ G t' u2 U.heap) (gA t)
abbrev xQva (b lo hi : Nat) (t : gP) (u' : uS) : Array Value → State → Outcome → State → Prop := va_Qv (fun (u2 : uS) => u2 = u') (fun u2 U => ∃ t', ag b lo hi t t' ∧ G t' u2 U.heap) (gA t)
abbrev xQra (b lo hi : Nat) (t : gP) (r : Int) (u' : uS) : Array Value → State → Outcome → State → Prop := va_Qr (fun (u2 : uS) => u2 = u') (fun u2 a U => ∃ t', ag b lo hi t t' ∧ al t' r.toNat ∧ a = t'.2.2.1 r.toNat ∧ G t' u2 U.heap) (gA t)
def xMia (b lo hi : Nat) (l : Launch) (y : MethodName) (ws : List Cond) (rm : Room) (t : gP) (As : List Value) (u : uS) (r : Int) (u' : uS) (mc ms : Nat) : Prop := Met l y ws rm (va_Pc As (gB t u)) (xQia b lo hi t r u') mc ms (gA t)
def xMva (b lo hi : Nat) (l : Launch) (y : MethodName) (ws : List Cond) (rm : Room) (t : gP) (As : List Value) (u : uS) (u' : uS) (mc ms : Nat) : Prop := Met l y ws rm (va_Pc As (gB t u)) (xQva b lo hi t u') mc ms (gA t)
def xMra (b lo hi : Nat) (l : Launch) (y : MethodName) (ws : List Cond) (rm : Room) (t : gP) (As : List Value) (u : uS) (r : Int) (u' : uS) (mc ms : Nat) : Prop := Met l y ws rm (va_Pc As (gB t u)) (xQra b lo hi t r u') mc ms (gA t)
theorem y_callVia {b lo hi : Nat} (X : xC t p s m args c cc ws own nL) (hG : G t u H) (hS : va_S (gA t) s.heap H locs) {y : MethodName} {ws2 : List Cond} {rm : Room} {As : List Value} {u' : uS} {r : Int} {mc ms k n ci N idx maxL : Nat} {C : String} {T : u_T} {bytes : ByteArray} {ret : Option FieldType}
    (hM : xMia b lo hi l y ws2 rm t (.ref (t.2.2.1 k) :: As) u r u' mc ms) (cw : CallW R s args own C idx y bytes maxL ret ws2 rm mc ms n) (hk : al t k) (hs : sT k = ci) (hci : vwCl[ci]? = some (C, T, N)) (h100 : ci < 100) (hn : As.length = n) (hl : ls.size = nL) (hW : (rest.map fun v => v.category).sum ≤ 8) (hdg : decode cc pc = .ok (.invokevirtual idx, 3)) (hf : cells + mc ≤ R.cells ∧ slots + ms ≤ R.slots) (hst : st0 = As.reverse ++ .ref (t.2.2.1 k) :: rest)
    (kk : ∀ (t' : gP) (H1 : Heap) (locs1 : List Loc), ag b lo hi t t' → G t' u' H1 → va_S (gA t') s.heap H1 locs1 → W p l e R s m args below meth c H1 locs1 (cells + mc) (slots + ms) Q (F0 m (pc + 3) ls (.int (iI r) :: rest))) : W p l e R s m args below meth c H locs cells slots Q (F0 m pc ls st0) := by
  refine va_calli (va_runV (As := As) (rest := rest) X.1 hM cw ⟨x_blind, va_recv X.2.1 hG.P hci (gL_o hk hs h100), x_pre X hG hS⟩ rfl hn hl hst (lv_room hW) hdg hf) hS (fun q _ h => h) (fun q h => h) (fun r2 u2 U H1 locs1 hU hvm hw hB hz1 hk1 hS1 => ?_)
  obtain ⟨rfl, rfl⟩ := hw
  obtain ⟨t', hag, hB⟩ := hB
  exact kk t' H1 locs1 hag (by rw [← hU]; exact hB) (by rw [gA_ag hag]; exact hS1)
theorem y_callSia {b lo hi : Nat} (X : xC t p s m args c cc ws own nL) (hG : G t u H) (hS : va_S (gA t) s.heap H locs) {y : MethodName} {ws2 : List Cond} {rm : Room} {As : List Value} {u' : uS} {r : Int} {mc ms n idx maxL : Nat} {bytes : ByteArray} {ret : Option FieldType}
    (hM : xMia b lo hi l y ws2 rm t As u r u' mc ms) (cw : CallB R s args own idx y bytes maxL ret ws2 rm mc ms n ∧ (Cond.static y).before args s = true) (hn : As.length = n) (hl : ls.size = nL) (hW : (rest.map fun v => v.category).sum ≤ 8) (hdg : decode cc pc = .ok (.invokestatic idx, 3)) (hf : cells + mc ≤ R.cells ∧ slots + ms ≤ R.slots) (hst : st0 = As.reverse ++ rest)
    (kk : ∀ (t' : gP) (H1 : Heap) (locs1 : List Loc), ag b lo hi t t' → G t' u' H1 → va_S (gA t') s.heap H1 locs1 → W p l e R s m args below meth c H1 locs1 (cells + mc) (slots + ms) Q (F0 m (pc + 3) ls (.int (iI r) :: rest))) : W p l e R s m args below meth c H locs cells slots Q (F0 m pc ls st0) := by
  refine va_calli (va_runS (As := As) (rest := rest) X.1 hM cw ⟨x_blind, x_pre X hG hS⟩ rfl hn hl hst (lv_room hW) hdg hf) hS (fun q _ h => h) (fun q h => h) (fun r2 u2 U H1 locs1 hU hvm hw hB hz1 hk1 hS1 => ?_)
  obtain ⟨rfl, rfl⟩ := hw
  obtain ⟨t', hag, hB⟩ := hB
  exact kk t' H1 locs1 hag (by rw [← hU]; exact hB) (by rw [gA_ag hag]; exact hS1)
theorem y_callVva {b lo hi : Nat} (X : xC t p s m args c cc ws own nL) (hG : G t u H) (hS : va_S (gA t) s.heap H locs) {y : MethodName} {ws2 : List Cond} {rm : Room} {As : List Value} {u' : uS}  {mc ms k n ci N idx maxL : Nat} {C : String} {T : u_T} {bytes : ByteArray} {ret : Option FieldType}
    (hM : xMva b lo hi l y ws2 rm t (.ref (t.2.2.1 k) :: As) u u' mc ms) (cw : CallW R s args own C idx y bytes maxL ret ws2 rm mc ms n) (hk : al t k) (hs : sT k = ci) (hci : vwCl[ci]? = some (C, T, N)) (h100 : ci < 100) (hn : As.length = n) (hl : ls.size = nL) (hW : (rest.map fun v => v.category).sum ≤ 8) (hdg : decode cc pc = .ok (.invokevirtual idx, 3)) (hf : cells + mc ≤ R.cells ∧ slots + ms ≤ R.slots) (hst : st0 = As.reverse ++ .ref (t.2.2.1 k) :: rest)
    (kk : ∀ (t' : gP) (H1 : Heap) (locs1 : List Loc), ag b lo hi t t' → G t' u' H1 → va_S (gA t') s.heap H1 locs1 → W p l e R s m args below meth c H1 locs1 (cells + mc) (slots + ms) Q (F0 m (pc + 3) ls rest)) : W p l e R s m args below meth c H locs cells slots Q (F0 m pc ls st0) := by
  refine va_callv (va_runV (As := As) (rest := rest) X.1 hM cw ⟨x_blind, va_recv X.2.1 hG.P hci (gL_o hk hs h100), x_pre X hG hS⟩ rfl hn hl hst (lv_room hW) hdg hf) hS (fun q _ h => h) (fun q h => h) (fun u2 U H1 locs1 hU hvm hw hB hz1 hk1 hS1 => ?_)
  subst hw
  obtain ⟨t', hag, hB⟩ := hB
  exact kk t' H1 locs1 hag (by rw [← hU]; exact hB) (by rw [gA_ag hag]; exact hS1)
theorem y_callSva {b lo hi : Nat} (X : xC t p s m args c cc ws own nL) (hG : G t u H) (hS : va_S (gA t) s.heap H locs) {y : MethodName} {ws2 : List Cond} {rm : Room} {As : List Value} {u' : uS}  {mc ms n idx maxL : Nat} {bytes : ByteArray} {ret : Option FieldType}
    (hM : xMva b lo hi l y ws2 rm t As u u' mc ms) (cw : CallB R s args own idx y bytes maxL ret ws2 rm mc ms n ∧ (Cond.static y).before args s = true) (hn : As.length = n) (hl : ls.size = nL) (hW : (rest.map fun v => v.category).sum ≤ 8) (hdg : decode cc pc = .ok (.invokestatic idx, 3)) (hf : cells + mc ≤ R.cells ∧ slots + ms ≤ R.slots) (hst : st0 = As.reverse ++ rest)
    (kk : ∀ (t' : gP) (H1 : Heap) (locs1 : List Loc), ag b lo hi t t' → G t' u' H1 → va_S (gA t') s.heap H1 locs1 → W p l e R s m args below meth c H1 locs1 (cells + mc) (slots + ms) Q (F0 m (pc + 3) ls rest)) : W p l e R s m args below meth c H locs cells slots Q (F0 m pc ls st0) := by
  refine va_callv (va_runS (As := As) (rest := rest) X.1 hM cw ⟨x_blind, x_pre X hG hS⟩ rfl hn hl hst (lv_room hW) hdg hf) hS (fun q _ h => h) (fun q h => h) (fun u2 U H1 locs1 hU hvm hw hB hz1 hk1 hS1 => ?_)
  subst hw
  obtain ⟨t', hag, hB⟩ := hB
  exact kk t' H1 locs1 hag (by rw [← hU]; exact hB) (by rw [gA_ag hag]; exact hS1)
theorem y_callVra {b lo hi : Nat} (X : xC t p s m args c cc ws own nL) (hG : G t u H) (hS : va_S (gA t) s.heap H locs) {y : MethodName} {ws2 : List Cond} {rm : Room} {As : List Value} {u' : uS} {r : Int} {mc ms k n ci N idx maxL : Nat} {C : String} {T : u_T} {bytes : ByteArray} {ret : Option FieldType}
    (hM : xMra b lo hi l y ws2 rm t (.ref (t.2.2.1 k) :: As) u r u' mc ms) (cw : CallW R s args own C idx y bytes maxL ret ws2 rm mc ms n) (hk : al t k) (hs : sT k = ci) (hci : vwCl[ci]? = some (C, T, N)) (h100 : ci < 100) (hn : As.length = n) (hl : ls.size = nL) (hW : (rest.map fun v => v.category).sum ≤ 8) (hdg : decode cc pc = .ok (.invokevirtual idx, 3)) (hf : cells + mc ≤ R.cells ∧ slots + ms ≤ R.slots) (hst : st0 = As.reverse ++ .ref (t.2.2.1 k) :: rest)
    (kk : ∀ (t' : gP) (H1 : Heap) (locs1 : List Loc), ag b lo hi t t' → al t' r.toNat → G t' u' H1 → va_S (gA t') s.heap H1 locs1 → W p l e R s m args below meth c H1 locs1 (cells + mc) (slots + ms) Q (F0 m (pc + 3) ls (.ref (t'.2.2.1 r.toNat) :: rest))) : W p l e R s m args below meth c H locs cells slots Q (F0 m pc ls st0) := by
  refine va_callr (va_runV (As := As) (rest := rest) X.1 hM cw ⟨x_blind, va_recv X.2.1 hG.P hci (gL_o hk hs h100), x_pre X hG hS⟩ rfl hn hl hst (lv_room hW) hdg hf) hS (fun q _ h => h) (fun q h => h) (fun u2 a U H1 locs1 hU hvm hw hB hz1 hk1 hS1 => ?_)
  subst hw
  obtain ⟨t', hag, hal, rfl, hB⟩ := hB
  exact kk t' H1 locs1 hag hal (by rw [← hU]; exact hB) (by rw [gA_ag hag]; exact hS1)
theorem y_callSra {b lo hi : Nat} (X : xC t p s m args c cc ws own nL) (hG : G t u H) (hS : va_S (gA t) s.heap H locs) {y : MethodName} {ws2 : List Cond} {rm : Room} {As : List Value} {u' : uS} {r : Int} {mc ms n idx maxL : Nat} {bytes : ByteArray} {ret : Option FieldType}
    (hM : xMra b lo hi l y ws2 rm t As u r u' mc ms) (cw : CallB R s args own idx y bytes maxL ret ws2 rm mc ms n ∧ (Cond.static y).before args s = true) (hn : As.length = n) (hl : ls.size = nL) (hW : (rest.map fun v => v.category).sum ≤ 8) (hdg : decode cc pc = .ok (.invokestatic idx, 3)) (hf : cells + mc ≤ R.cells ∧ slots + ms ≤ R.slots) (hst : st0 = As.reverse ++ rest)
    (kk : ∀ (t' : gP) (H1 : Heap) (locs1 : List Loc), ag b lo hi t t' → al t' r.toNat → G t' u' H1 → va_S (gA t') s.heap H1 locs1 → W p l e R s m args below meth c H1 locs1 (cells + mc) (slots + ms) Q (F0 m (pc + 3) ls (.ref (t'.2.2.1 r.toNat) :: rest))) : W p l e R s m args below meth c H locs cells slots Q (F0 m pc ls st0) := by
  refine va_callr (va_runS (As := As) (rest := rest) X.1 hM cw ⟨x_blind, x_pre X hG hS⟩ rfl hn hl hst (lv_room hW) hdg hf) hS (fun q _ h => h) (fun q h => h) (fun u2 a U H1 locs1 hU hvm hw hB hz1 hk1 hS1 => ?_)
  subst hw
  obtain ⟨t', hag, hal, rfl, hB⟩ := hB
  exact kk t' H1 locs1 hag hal (by rw [← hU]; exact hB) (by rw [gA_ag hag]; exact hS1)
end YR
theorem x_ofWia {b lo hi : Nat} {l : Launch} {y : MethodName} {ws ws' : List Cond} {rm : Room} {t : gP} {As : List Value} {u u' : uS} {mc ms : Nat} {cc : ByteArray} {maxL : Nat} {own : String} {r : Int} {ret : FieldType} (hy : plainName y.cls = true) (hw : ws = Cond.code y cc maxL (some ret) :: ws') (ho : y.cls = own) (hL : (lg_sl As).length ≤ maxL)
    (body : ∀ p e s m args below meth c (Q : State → Prop), xC t p s m args c cc ws own maxL → (∀ (t' : gP) (H : Heap) (locs : List Loc) (ls : Array Slot) (pc k n : Nat), ag b lo hi t t' → k ≤ mc → n ≤ ms → decode cc pc = .ok (.ireturn, 1) → narrow ret (.int (iI r)) = .int (iI r) → G t' u' H → va_S (gA t') s.heap H locs → W p l e rm s m args below meth c H locs k n Q (F0 m pc ls [.int (iI r)])) → xG p l e rm s m args below meth c t Q maxL 0 0 0 u (lv_args 0 As) []) : xMia b lo hi l y ws rm t As u r u' mc ms := by
  refine x_ofW (cc := cc) (maxL := maxL) (ret := (some ret)) hy hw hL ?_
  intro p e s m below meth c X hr hlk hG hS ls hl
  rw [ho] at X
  refine body p e s m _ below meth c _ X (fun t' H locs ls pc k n hag hk hnn hd hn hG hS => W.widen (k := mc) (n := ms) hk hnn ?_) _ _ ls hG hS hl
  rw [gA_ag hag] at hS
  exact W.zret X.1.1 X.1.2.1 hr hn (fun T hT hW => ⟨⟨iI r, u', rfl, ⟨rfl, rfl⟩, t', hag, (by rw [hT]; exact hG)⟩, hS.F hT⟩) hS.2.2 hd hlk
theorem x_ofWva {b lo hi : Nat} {l : Launch} {y : MethodName} {ws ws' : List Cond} {rm : Room} {t : gP} {As : List Value} {u u' : uS} {mc ms : Nat} {cc : ByteArray} {maxL : Nat} {own : String} (hy : plainName y.cls = true) (hw : ws = Cond.code y cc maxL none :: ws') (ho : y.cls = own) (hL : (lg_sl As).length ≤ maxL)
    (body : ∀ p e s m args below meth c (Q : State → Prop), xC t p s m args c cc ws own maxL → (∀ (t' : gP) (H : Heap) (locs : List Loc) (ls : Array Slot) (pc k n : Nat), ag b lo hi t t' → k ≤ mc → n ≤ ms → decode cc pc = .ok (.return_, 1) → G t' u' H → va_S (gA t') s.heap H locs → W p l e rm s m args below meth c H locs k n Q (F0 m pc ls [])) → xG p l e rm s m args below meth c t Q maxL 0 0 0 u (lv_args 0 As) []) : xMva b lo hi l y ws rm t As u u' mc ms := by
  refine x_ofW (cc := cc) (maxL := maxL) (ret := none) hy hw hL ?_
  intro p e s m below meth c X hr hlk hG hS ls hl
  rw [ho] at X
  refine body p e s m _ below meth c _ X (fun t' H locs ls pc k n hag hk hnn hd hG hS => W.widen (k := mc) (n := ms) hk hnn ?_) _ _ ls hG hS hl
  rw [gA_ag hag] at hS
  exact W.vret X.1.1 X.1.2.1 hr (fun T hT hW => ⟨⟨u', rfl, rfl, t', hag, (by rw [hT]; exact hG)⟩, hS.F hT⟩) hS.2.2 hd hlk
theorem x_ofWra {b lo hi : Nat} {l : Launch} {y : MethodName} {ws ws' : List Cond} {rm : Room} {t : gP} {As : List Value} {u u' : uS} {mc ms : Nat} {cc : ByteArray} {maxL : Nat} {own : String} {r : Int} {rt : FieldType} (hrt : (∃ nm, rt = .object nm) ∨ ∃ e, rt = .array e) (hy : plainName y.cls = true) (hw : ws = Cond.code y cc maxL (some rt) :: ws') (ho : y.cls = own) (hL : (lg_sl As).length ≤ maxL)
    (body : ∀ p e s m args below meth c (Q : State → Prop), xC t p s m args c cc ws own maxL → (∀ (t' : gP) (H : Heap) (locs : List Loc) (ls : Array Slot) (pc k n : Nat), ag b lo hi t t' → k ≤ mc → n ≤ ms → decode cc pc = .ok (.areturn, 1) → al t' r.toNat → G t' u' H → va_S (gA t') s.heap H locs → W p l e rm s m args below meth c H locs k n Q (F0 m pc ls [.ref (t'.2.2.1 r.toNat)])) → xG p l e rm s m args below meth c t Q maxL 0 0 0 u (lv_args 0 As) []) : xMra b lo hi l y ws rm t As u r u' mc ms := by
  refine x_ofW (cc := cc) (maxL := maxL) (ret := (some rt)) hy hw hL ?_
  intro p e s m below meth c X hr hlk hG hS ls hl
  rw [ho] at X
  refine body p e s m _ below meth c _ X (fun t' H locs ls pc k n hag hk hnn hd hal hG hS => W.widen (k := mc) (n := ms) hk hnn ?_) _ _ ls hG hS hl
  rw [gA_ag hag] at hS
  exact W.aret X.1.1 X.1.2.1 hr hrt (Or.inr ⟨_, rfl⟩) (fun T hT hW => ⟨⟨u', _, rfl, rfl, t', hag, hal, rfl, (by rw [hT]; exact hG)⟩, hS.F hT⟩) hS.2.2 hd hlk
