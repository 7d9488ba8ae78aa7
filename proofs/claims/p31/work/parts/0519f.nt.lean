/-! the law's Net, its places, StringBuilders made anew -/
theorem G.gen {t t' : gP} {u u' : uS} {H H1 : Heap} {L : va_W} (e1 : t'.1 = t.1) (e3 : t'.2.2.2 = t.2.2.2) (hP : va_P t.1 vwCl L H1) (hD : va_D (gA t) L) (pos : Nat → Nat) (hpos : ∀ k, al t' k → L[pos k]? = some (gad t' k, gE t' u' k)) (hinj : ∀ i j, al t' i → al t' j → pos i = pos j → i = j) (hC : gC t' u') : G t' u' H1 := by
  refine ⟨fun k hk => ?_, fun i j hi hj hij => ?_, fun k hk => ?_, hC⟩
  · rw [e1]; exact hP _ _ (hpos k hk)
  · exact hinj i j hi hj (hD.1 _ _ _ _ (hpos i hi) (hpos j hj) hij)
  · rw [e3]; exact hD.2 _ _ (hpos k hk)
/-- what the cells from 264 to 290 name, and who names them -/
theorem gC_net {t : gP} {u : uS} {lo hi : Nat} (hC : gC t u) (h : 264 ≤ lo ∧ hi ≤ 291) (h1 : lo ≤ 264 ∨ 287 ≤ lo) (h2 : lo = 264 → 287 ≤ hi) : gC (tkill t lo hi) u := by
  have hM : NM = 358 := rfl
  have e1 : ∀ i, al (tkill t lo hi) i ↔ al t i ∧ ¬ (lo ≤ i ∧ i < hi) := fun i => tkill_al h.1
  refine ⟨fun k hk hs => ?_, fun hk => ?_, fun k hk hs j j0 j1 hj => ?_⟩
  · have h3 := (e1 k).mp hk
    have h4 := sT_16 k (al_lt h3.1) hs
    exact (e1 _).mpr ⟨hC.1 k h3.1 hs, by omega⟩
  · have h3 := (e1 264).mp hk
    obtain ⟨a1, a2, a3, a4, a5, a6⟩ := hC.2.1 h3.1
    exact ⟨(e1 _).mpr ⟨a1, by omega⟩, (e1 _).mpr ⟨a2, by omega⟩, (e1 _).mpr ⟨a3, by omega⟩, (e1 _).mpr ⟨a4, by omega⟩, (e1 _).mpr ⟨a5, by omega⟩, (e1 _).mpr ⟨a6, by omega⟩⟩
  · have h3 := (e1 k).mp hk
    have h4 := hC.2.2 k h3.1 hs j j0 j1 hj
    refine ⟨(e1 _).mpr ⟨h4.1, fun q => ?_⟩, h4.2⟩
    have hl := al_lt h4.1
    rcases hs with hs | hs
    · rw [if_pos hs] at h4
      have := sT_16 _ hl h4.2
      have := sT_106 k (al_lt h3.1) hs
      omega
    · rw [if_neg (by omega)] at h4
      have := sT_15 _ hl h4.2
      omega
def ntU (u : uS) : uS := fun a i => if a = 265 ∨ a = 266 then -1 else if 264 ≤ a ∧ a < 271 then 0 else u a i
theorem ntU_o {u : uS} {a : Nat} {i : Int} (h : ¬ (264 ≤ a ∧ a < 271)) : ntU u a i = u a i := by
  unfold ntU
  rw [if_neg (by omega), if_neg h]
theorem gC_nt {t : gP} {u : uS} {a : Nat → Nat} (hC : gC t u) : gC (tsetn (tkill t 264 291) 264 7 a) (ntU u) := by
  have hM : NM = 358 := rfl
  have h1 := gC_net (lo := 264) (hi := 291) hC ⟨by decide, by decide⟩ (Or.inl (by decide)) (fun _ => by decide)
  have hs : ∀ j, j < 7 → sT (264 + j) ≠ 999 := by decide +kernel
  have e2 : ∀ i, al (tsetn (tkill t 264 291) 264 7 a) i ↔ al (tkill t 264 291) i ∨ (264 ≤ i ∧ i < 264 + 7) := fun i => tsetn_al ⟨by omega, by omega⟩ hs
  refine ⟨fun k hk h => ?_, fun _ => ?_, fun k hk h j j0 j1 hj => ?_⟩
  · rcases (e2 k).mp hk with h3 | h3
    · exact (e2 _).mpr (Or.inl (h1.1 k h3 h))
    · have := sT_16 k (by omega) h; omega
  · exact ⟨(e2 _).mpr (Or.inr (by omega)), (e2 _).mpr (Or.inr (by omega)), (e2 _).mpr (Or.inr (by omega)), (e2 _).mpr (Or.inr (by omega)), (e2 _).mpr (Or.inr (by omega)), (e2 _).mpr (Or.inr (by omega))⟩
  · by_cases hk2 : 264 ≤ k ∧ k < 271
    · have hk3 : k = 265 ∨ k = 266 := by
        rcases h with h | h
        · exact Or.inl (sT_106 k (by omega) h)
        · rcases sT_107 k (by omega) h with q | q <;> omega
      unfold ntU at hj
      rw [if_pos hk3] at hj
      omega
    · rw [ntU_o hk2] at hj ⊢
      have h3 := ((e2 k).mp hk).resolve_right (by omega)
      have h4 := h1.2.2 k h3 h j j0 j1 hj
      exact ⟨(e2 _).mpr (Or.inl h4.1), h4.2⟩
section NT
variable {p : Program} {l : Launch} {e : Env} {R : Room} {s : State} {m : MethodId} {args : Array Value} {below : List Frame} {meth : Method} {c : Code} {H : Heap} {locs : List Loc} {cells slots : Nat} {Q : State → Prop}
variable {ls : Array Slot} {rest st0 : List Value} {t : gP} {u : uS} {nL : Nat}
set_option maxHeartbeats 8000000 in
set_option maxRecDepth 100000 in
theorem mk_Net (X : xC t p s m args c cL_net wsL_net RL nL) (hG : G t u H) (hS : va_S (gA t) s.heap H locs) (hl : ls.size = nL) (hm : mkOk u) (hf : cells + 7 ≤ R.cells ∧ slots + 148 ≤ R.slots)
    (hR : 2 ≤ R.frames ∧ 60 ≤ R.locals := by exact ⟨Nat.le_of_ble_eq_true rfl, Nat.le_of_ble_eq_true rfl⟩) (hW : (rest.map fun v => v.category).sum ≤ 4 := by exact Nat.le_of_ble_eq_true rfl)
    (kk : ∀ (t' : gP) (H1 : Heap) (locs1 : List Loc), ag 39 264 291 t t' → al t' 264 → G t' (ntU u) H1 → va_S (gA t') s.heap H1 locs1 → W p l e R s m args below meth c H1 locs1 (cells + 7) (slots + 148) Q (F0 m 7 ls (.ref (t'.2.2.1 264) :: rest))) : W p l e R s m args below meth c H locs cells slots Q (F0 m 0 ls rest) := by
  have hM : NM = 358 := rfl
  have hG2 := hG.kill (lo := 264) (hi := 291) (by omega) hm (gC_net hG.2.2.2 ⟨by decide, by decide⟩ (Or.inl (by decide)) (fun _ => by decide))
  have iX : ∀ w ∈ wsX100, w ∈ wsL_net := by decide +kernel
  have hA : ∀ q, s.heap.size ≤ q → gA t q := fun q hq => Nat.le_trans X.2.2.2 hq
  refine x_cnew X hG2.P hG2.D hS hA tyX10 tyX10_ok iX (x_w 1 rfl) (x_w 2 rfl) (x_w 3 rfl) (ci := 14) rfl [.null, .null, .null, .null, .null, .null, .int 0, .int 0, .int 0, .int 0, .int 0, .int 0, .int 0, .int 0, .int 0, .int 0, .int 0, .int 0, .int 0, .int 0, .int 0, .int 0, .int 0, .int 0] (by decide +kernel) (by omega) (by omega) dL_net_0 (fun q H hP hD hS => ?_)
  refine lv_dup X.1.1 X.1.2.1 dL_net_3 rfl ?_
  refine x_kc (t := t) hP hD hS hA (va_runIN (As := []) (rest := .ref q :: rest) X.1 (c_X10_init l t q _) ⟨va_cnB 0 X.1.2.2.2.2 gL_net_X10_init_n34 rfl rfl rfl (X.2.2.1.1 (RL, 34, yX10_init, "TriggerNetworkLaw") (x_m 10 rfl)) (X.1.2.2.2.2 _ (x_w 3 rfl)) hd_X10_init ⟨?_, ?_⟩, rfl, X.1.2.2.2.2 _ (x_w 10 rfl)⟩ ⟨c_blind, x_cpre X hP hD hS (fun q h => h)⟩ rfl rfl hl rfl (lv_room ?_) dL_net_4 ⟨by omega, by omega⟩) (fun as H locs hP hD hS => ?_)
  · exact hR.1
  · show 8 + (1 + 11) + 30 ≤ _; omega
  · rw [List.map_cons, List.sum_cons]
    show 1 + _ ≤ 8
    omega
  · have hs9 : ∀ j, j < 7 → sT (264 + j) ≠ 999 := by decide +kernel
    have hd9 : ∀ j, j < 7 → ¬ al (tkill t 264 291) (264 + j) := fun j hj h => ((tkill_al (by omega)).mp h).2 ⟨by omega, by omega⟩
    let a : Nat → Nat := fun j => if j = 0 then q else as (j - 1)
    have hn : ∀ j, j < 7 → (tsetn (tkill t 264 291) 264 7 a).2.2.1 (264 + j) = a j := fun j hj => tsetn_n hj
    have hE0 : gE (tsetn (tkill t 264 291) 264 7 a) (ntU u) 264 = .inr (14, [.ref (as 0), .ref (as 1), .ref (as 2), .ref (as 3), .ref (as 4), .ref (as 5), .int 0, .int 0, .int 0, .int 0, .int 0, .int 0, .int 0, .int 0, .int 0, .int 0, .int 0, .int 0, .int 0, .int 0, .int 0, .int 0, .int 0, .int 0]) := by
      unfold gE gO
      have e1 : sT 264 = 14 := by decide +kernel
      have e2 : fN 14 = 24 := by decide +kernel
      rw [e1, if_pos (by decide), e2]
      have hm9 : (List.range 24).map (gV (tsetn (tkill t 264 291) 264 7 a) (ntU u) 264) = (List.range 24).map (fun (j : Nat) => if j < 6 then Value.ref (as j) else Value.int 0) := by
        apply List.map_congr_left
        intro j hj
        have hj2 := List.mem_range.mp hj
        have hc1 : ∀ j, j < 24 → (j < 6 → fC 14 j = j + 1) ∧ (6 ≤ j → fC 14 j = 0) := by decide +kernel
        unfold gV
        rw [e1]
        by_cases h6 : j < 6
        · rw [(hc1 j hj2).1 h6, if_neg (by omega), if_neg (by omega), if_pos h6, hn (j + 1) (by omega)]
          show Value.ref (if j + 1 = 0 then q else as (j + 1 - 1)) = _
          rw [if_neg (by omega), Nat.add_sub_cancel]
        · rw [if_pos ((hc1 j hj2).2 (by omega)), if_neg h6]
          unfold ntU
          rw [if_neg (by omega), if_pos ⟨by omega, by omega⟩]
          rfl
      rw [hm9]
      rfl
    have hEq : ∀ k, (k = 265 ∨ k = 266) → gQ (tsetn (tkill t 264 291) 264 7 a) (ntU u) k = fun _ => none := fun k hk => by
      funext j
      unfold gQ ntU
      rw [if_pos hk]
      by_cases hj : j < sN k
      · rw [if_pos hj]; rfl
      · rw [if_neg hj]
    have hEi : ∀ k, 267 ≤ k → k < 271 → (fun j : Nat => iI (ntU u k (j : Int))) = fun _ => 0 := fun k h1 h2 => by
      funext j
      unfold ntU
      rw [if_neg (by omega), if_pos ⟨by omega, by omega⟩]
      rfl
    have hG3 := hG2.makeL (k0 := 264) (n := 7) (a := a) (u' := ntU u) ⟨by omega, by omega⟩ hs9 hd9 (fun h => by omega) (fun h => by omega) hm hP hD (fun j hj => by
      have hj2 : j = 0 ∨ j = 1 ∨ j = 2 ∨ j = 3 ∨ j = 4 ∨ j = 5 ∨ j = 6 := by omega
      rcases hj2 with rfl | rfl | rfl | rfl | rfl | rfl | rfl
      · show some _ = some _
        rw [hE0]; rfl
      · show some _ = some _
        rw [gE_q (g := 106) (by decide +kernel) (Or.inl rfl), hEq _ (Or.inl rfl)]; rfl
      · show some _ = some _
        rw [gE_q (g := 107) (by decide +kernel) (Or.inr rfl), hEq _ (Or.inr rfl)]; rfl
      · show some _ = some _
        rw [gE_a (g := 101) (by decide +kernel) (by decide), hEi _ (by decide) (by decide)]; rfl
      · show some _ = some _
        rw [gE_a (g := 100) (by decide +kernel) (by decide), hEi _ (by decide) (by decide)]; rfl
      · show some _ = some _
        rw [gE_a (g := 100) (by decide +kernel) (by decide), hEi _ (by decide) (by decide)]; rfl
      · show some _ = some _
        rw [gE_a (g := 100) (by decide +kernel) (by decide), hEi _ (by decide) (by decide)]; rfl) (fun i hi _ j => ntU_o (by omega)) ⟨ntU_o (by decide), Or.inr (Or.inr (ntU_o (by decide))), Or.inr (Or.inr (ntU_o (by decide)))⟩ (gC_nt hG.2.2.2)
    have hag : ag 39 264 291 t (tsetn (tkill t 264 291) 264 7 a) := ⟨rfl, rfl, rfl, fun k h1 h2 h3 => by
      unfold tsetn tkill
      show (if _ then _ else _) = _
      rw [if_neg (by omega), if_neg (by omega)]
      show (if _ then _ else _) = _
      rw [if_neg (by omega)]⟩
    have hal3 : al (tsetn (tkill t 264 291) 264 7 a) 264 := (tsetn_al ⟨by omega, by omega⟩ hs9).mpr (Or.inr ⟨by omega, by omega⟩)
    have h5 := kk _ H locs hag hal3 hG3 hS
    rw [show (tsetn (tkill t 264 291) 264 7 a).2.2.1 264 = q from hn 0 (by decide)] at h5
    refine W.widen (k := cells + 7) (n := slots + 148) (by omega) (by omega) ?_
    exact h5
/-- a place is made -/
theorem gC_place {t : gP} {u : uS} {k0 : Nat} {a : Nat → Nat} (hC : gC t u) (hk : (271 ≤ k0 ∧ k0 < 286) ∧ sT k0 = 16) (hfree : ∀ j : Nat, j < 8 → u 265 (j : Int) ≠ (k0 : Int)) : gC (tkill t k0 (k0 + 2)) u ∧ gC (tsetn (tkill t k0 (k0 + 2)) k0 2 a) (upA (upA u k0 (fun j => if j = 3 then -1 else 0)) (k0 + 1) (fun _ => 0)) := by
  have hM : NM = 358 := rfl
  have hb : ∀ k, k < 358 → sT k = 16 → sT (k + 1) = 100 ∧ k % 2 = 1 := by decide +kernel
  have hb0 := hb k0 (by omega) hk.2
  have hs : ∀ j, j < 2 → sT (k0 + j) ≠ 999 := fun j hj => by
    have : j = 0 ∨ j = 1 := by omega
    rcases this with rfl | rfl
    · rw [show k0 + 0 = k0 from rfl, hk.2]; decide
    · rw [hb0.1]; decide
  have e1 : ∀ i, al (tkill t k0 (k0 + 2)) i ↔ al t i ∧ ¬ (k0 ≤ i ∧ i < k0 + 2) := fun i => tkill_al (by omega)
  have e2 : ∀ i, al (tsetn (tkill t k0 (k0 + 2)) k0 2 a) i ↔ al (tkill t k0 (k0 + 2)) i ∨ (k0 ≤ i ∧ i < k0 + 2) := fun i => tsetn_al ⟨by omega, by omega⟩ hs
  have h1 : gC (tkill t k0 (k0 + 2)) u := by
    refine ⟨fun k hk9 h => ?_, fun h => ?_, fun k hk9 h j j0 j1 hj => ?_⟩
    · have h3 := (e1 k).mp hk9
      have h4 := (hb k (al_lt h3.1) h).2
      exact (e1 _).mpr ⟨hC.1 k h3.1 h, by omega⟩
    · have h3 := (e1 264).mp h
      obtain ⟨a1, a2, a3, a4, a5, a6⟩ := hC.2.1 h3.1
      exact ⟨(e1 _).mpr ⟨a1, by omega⟩, (e1 _).mpr ⟨a2, by omega⟩, (e1 _).mpr ⟨a3, by omega⟩, (e1 _).mpr ⟨a4, by omega⟩, (e1 _).mpr ⟨a5, by omega⟩, (e1 _).mpr ⟨a6, by omega⟩⟩
    · have h3 := (e1 k).mp hk9
      have h4 := hC.2.2 k h3.1 h j j0 j1 hj
      refine ⟨(e1 _).mpr ⟨h4.1, fun q => ?_⟩, h4.2⟩
      have hl := al_lt h4.1
      rcases h with h | h
      · rw [if_pos h] at h4
        have h5 := (hb _ hl h4.2).2
        have h6 := sT_106 k (al_lt h3.1) h
        subst h6
        have h7 : sN 265 = 8 := by decide +kernel
        rw [h7] at j1
        have h8 := hfree j.toNat (by omega)
        rw [Int.toNat_of_nonneg j0] at h8
        omega
      · rw [if_neg (by omega)] at h4
        have := sT_15 _ hl h4.2
        omega
  refine ⟨h1, fun k hk9 h => ?_, fun h => ?_, fun k hk9 h j j0 j1 hj => ?_⟩
  · rcases (e2 k).mp hk9 with h3 | h3
    · exact (e2 _).mpr (Or.inl (h1.1 k h3 h))
    · have h4 := (hb k (by omega) h).2
      exact (e2 _).mpr (Or.inr (by omega))
  · rcases (e2 264).mp h with h3 | h3
    · obtain ⟨a1, a2, a3, a4, a5, a6⟩ := h1.2.1 h3
      exact ⟨(e2 _).mpr (Or.inl a1), (e2 _).mpr (Or.inl a2), (e2 _).mpr (Or.inl a3), (e2 _).mpr (Or.inl a4), (e2 _).mpr (Or.inl a5), (e2 _).mpr (Or.inl a6)⟩
    · omega
  · rcases (e2 k).mp hk9 with h3 | h3
    · have h5 := ((e1 k).mp h3).2
      rw [upA_k (by omega), upA_k (by omega)] at hj ⊢
      have h4 := h1.2.2 k h3 h j j0 j1 hj
      exact ⟨(e2 _).mpr (Or.inl h4.1), h4.2⟩
    · have : k = k0 ∨ k = k0 + 1 := by omega
      rcases this with rfl | rfl
      · rw [hk.2] at h; omega
      · rw [hb0.1] at h; omega
set_option maxHeartbeats 8000000 in
set_option maxRecDepth 100000 in
theorem mk_Place (X : xC t p s m args c cL_net wsL_net RL nL) (hG : G t u H) (hS : va_S (gA t) s.heap H locs) (hl : ls.size = nL) (k0 : Nat) (hk : (271 ≤ k0 ∧ k0 < 286) ∧ sT k0 = 16) (hm : mkOk u) (hfree : ∀ j : Nat, j < 8 → u 265 (j : Int) ≠ (k0 : Int)) (hf : cells + 2 ≤ R.cells ∧ slots + 407 ≤ R.slots)
    (hR : 2 ≤ R.frames ∧ 60 ≤ R.locals := by exact ⟨Nat.le_of_ble_eq_true rfl, Nat.le_of_ble_eq_true rfl⟩) (hW : (rest.map fun v => v.category).sum ≤ 4 := by exact Nat.le_of_ble_eq_true rfl)
    (kk : ∀ (t' : gP) (H1 : Heap) (locs1 : List Loc), ag 39 k0 (k0 + 2) t t' → al t' k0 → G t' (upA (upA u k0 (fun j => if j = 3 then -1 else 0)) (k0 + 1) (fun _ => 0)) H1 → va_S (gA t') s.heap H1 locs1 → W p l e R s m args below meth c H1 locs1 (cells + 2) (slots + 407) Q (F0 m 42 ls (.ref (t'.2.2.1 k0) :: rest))) : W p l e R s m args below meth c H locs cells slots Q (F0 m 35 ls rest) := by
  have hM : NM = 358 := rfl
  have hC := gC_place (a := fun _ => 0) hG.2.2.2 hk hfree
  have hG2 := hG.kill (lo := k0) (hi := k0 + 2) (by omega) hm hC.1
  have iX : ∀ w ∈ wsX120, w ∈ wsL_net := by decide +kernel
  have hA : ∀ q, s.heap.size ≤ q → gA t q := fun q hq => Nat.le_trans X.2.2.2 hq
  refine x_cnew X hG2.P hG2.D hS hA tyX12 tyX12_ok iX (x_w 4 rfl) (x_w 5 rfl) (x_w 6 rfl) (ci := 16) rfl [.int 0, .int 0, .int 0, .int 0, .int 0, .int 0, .null] (by decide +kernel) (by omega) (by omega) dL_net_35 (fun q H hP hD hS => ?_)
  refine lv_dup X.1.1 X.1.2.1 dL_net_38 rfl ?_
  refine x_kc (t := t) hP hD hS hA (va_runIN (As := []) (rest := .ref q :: rest) X.1 (c_X12_init l t q _) ⟨va_cnB 0 X.1.2.2.2.2 gL_net_X12_init_n49 rfl rfl rfl (X.2.2.1.1 (RL, 49, yX12_init, "TriggerNetworkLaw") (x_m 11 rfl)) (X.1.2.2.2.2 _ (x_w 6 rfl)) hd_X12_init ⟨?_, ?_⟩, rfl, X.1.2.2.2.2 _ (x_w 31 rfl)⟩ ⟨c_blind, x_cpre X hP hD hS (fun q h => h)⟩ rfl rfl hl rfl (lv_room ?_) dL_net_39 ⟨by omega, by omega⟩) (fun as H locs hP hD hS => ?_)
  · exact hR.1
  · show 8 + (1 + 11) + 30 ≤ _; omega
  · rw [List.map_cons, List.sum_cons]
    show 1 + _ ≤ 8
    omega
  · have hb0 : sT (k0 + 1) = 100 ∧ sN (k0 + 1) = 400 := sT_16s k0 (by omega) hk.2
    have hs9 : ∀ j, j < 2 → sT (k0 + j) ≠ 999 := fun j hj => by
      have : j = 0 ∨ j = 1 := by omega
      rcases this with rfl | rfl
      · rw [show k0 + 0 = k0 from rfl, hk.2]; decide
      · rw [hb0.1]; decide
    have hd9 : ∀ j, j < 2 → ¬ al (tkill t k0 (k0 + 2)) (k0 + j) := fun j hj h => ((tkill_al (by omega)).mp h).2 ⟨by omega, by omega⟩
    let a : Nat → Nat := fun j => if j = 0 then q else as 0
    have hn : ∀ j, j < 2 → (tsetn (tkill t k0 (k0 + 2)) k0 2 a).2.2.1 (k0 + j) = a j := fun j hj => tsetn_n hj
    have hE0 : gE (tsetn (tkill t k0 (k0 + 2)) k0 2 a) (upA (upA u k0 (fun j => if j = 3 then -1 else 0)) (k0 + 1) (fun _ => 0)) k0 = .inr (16, [.int 0, .int 0, .int 0, .int (-1), .int 0, .int 0, .ref (as 0)]) := by
      unfold gE gO
      have e2 : fN 16 = 7 := by decide +kernel
      rw [hk.2, if_pos (by decide), e2]
      have hm9 : (List.range 7).map (gV (tsetn (tkill t k0 (k0 + 2)) k0 2 a) (upA (upA u k0 (fun j => if j = 3 then -1 else 0)) (k0 + 1) (fun _ => 0)) k0) = (List.range 7).map (fun (j : Nat) => if j < 6 then Value.int (iI (if (j : Int) = 3 then -1 else 0)) else Value.ref (as 0)) := by
        apply List.map_congr_left
        intro j hj
        have hj2 := List.mem_range.mp hj
        have hc1 : ∀ j, j < 7 → (j < 6 → fC 16 j = 0) ∧ (6 ≤ j → fC 16 j = 1) := by decide +kernel
        unfold gV
        rw [hk.2]
        by_cases h6 : j < 6
        · rw [if_pos ((hc1 j hj2).1 h6), if_pos h6, upA_k (by omega), upA_s]
        · rw [(hc1 j hj2).2 (by omega), if_neg (by omega), if_neg (by omega), if_neg h6, hn 1 (by omega)]
          rfl
      rw [hm9]
      rfl
    have hG3 := hG2.makeL (k0 := k0) (n := 2) (a := a) (u' := upA (upA u k0 (fun j => if j = 3 then -1 else 0)) (k0 + 1) (fun _ => 0)) ⟨by omega, by omega⟩ hs9 hd9 (fun h => by omega) (fun h => by omega) hm hP hD (fun j hj => by
      have hj2 : j = 0 ∨ j = 1 := by omega
      rcases hj2 with rfl | rfl
      · rw [show k0 + 0 = k0 from rfl, hE0]; rfl
      · rw [gE_a hb0.1 (by decide), hb0.2]
        simp only [upA_s]
        rfl) (fun i hi _ j => (upA_k (by omega)).trans (upA_k (by omega))) ⟨(upA_k (by omega)).trans (upA_k (by omega)), Or.inr (Or.inr ((upA_k (by omega)).trans (upA_k (by omega)))), Or.inr (Or.inr ((upA_k (by omega)).trans (upA_k (by omega))))⟩ (gC_place (a := a) hG.2.2.2 hk hfree).2
    have hag : ag 39 k0 (k0 + 2) t (tsetn (tkill t k0 (k0 + 2)) k0 2 a) := ⟨rfl, rfl, rfl, fun k h1 h2 h3 => by
      unfold tsetn tkill
      show (if _ then _ else _) = _
      rw [if_neg (by omega), if_neg (by omega)]
      show (if _ then _ else _) = _
      rw [if_neg (by omega)]⟩
    have hal3 : al (tsetn (tkill t k0 (k0 + 2)) k0 2 a) k0 := (tsetn_al ⟨by omega, by omega⟩ hs9).mpr (Or.inr ⟨by omega, by omega⟩)
    have h5 := kk _ H locs hag hal3 hG3 hS
    rw [show (tsetn (tkill t k0 (k0 + 2)) k0 2 a).2.2.1 k0 = q from hn 0 (by decide)] at h5
    refine W.widen (k := cells + 2) (n := slots + 407) (by omega) (by omega) ?_
    exact h5
end NT
