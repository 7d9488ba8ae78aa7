/-! X, part g: the StringBuilder (cell 37) and its bytes (cell 38): they move as it grows, then the addresses are mv t b -/
def mv (t : gP) (b : Nat) : gP := (t.1, t.2.1, fun k => if k = 38 then b else t.2.2.1 k, t.2.2.2)
theorem mv_at {t : gP} {b k : Nat} (h : k ≠ 38) : (mv t b).2.2.1 k = t.2.2.1 k := if_neg h
theorem mv_mv {t : gP} {b b2 : Nat} : mv (mv t b) b2 = mv t b2 := by
  unfold mv
  congr 3
  funext k
  by_cases h : k = 38
  · rw [if_pos h, if_pos h]
  · rw [if_neg h, if_neg h]
    exact if_neg h
theorem mv_self {t : gP} : mv t (t.2.2.1 38) = t := by
  obtain ⟨a, b, c, d⟩ := t
  unfold mv
  congr 3
  funext k
  by_cases h : k = 38
  · subst h; exact if_pos rfl
  · exact if_neg h
theorem gS.mv {t : gP} {b : Nat} {U : State} {H : Heap} (h : gS t U H) : gS (mv t b) U H := by
  obtain ⟨h1, h2, h3, h4, h5, h6, h7, h8, h9, h10, h11⟩ := h
  have e1 : (fun i => t.2.2.1 (2000 + i)) = fun i => (Jvm.Pilot.CTriggerNetworkLaw_law_r3084_ec73c4.mv t b).2.2.1 (2000 + i) := funext fun i => (mv_at (by omega)).symm
  have e2 : (fun i => t.2.2.1 (3000 + i)) = fun i => (Jvm.Pilot.CTriggerNetworkLaw_law_r3084_ec73c4.mv t b).2.2.1 (3000 + i) := funext fun i => (mv_at (by omega)).symm
  rw [e1, e2] at h4
  refine ⟨h1, h2, h3, h4, fun q hq => ?_, h6, h7, h8, h9, h10, h11⟩
  rw [mv_at (by omega)]
  exact h5 q hq
theorem xC.mv {t : gP} {b : Nat} {p : Program} {s : State} {m : MethodId} {args : Array Value} {c : Code} {cc : ByteArray} {ws : List Cond} {own : String} {nL : Nat} (X : xC t p s m args c cc ws own nL) : xC (mv t b) p s m args c cc ws own nL := ⟨X.1, X.2.1, X.2.2.1.mv, X.2.2.2⟩
theorem al38 {t : gP} : al t 38 := al_c (k := 38) (ci := 105) (by decide) (by decide) (by decide)
theorem gL_sb {t : gP} {u : uS} : (gL t u)[gi t 38]? = some (t.2.2.1 38, .inl (t.2.1 102, (u 1000 1).toNat, .inl (fun j => iI (u 38 (j : Int))))) := by
  rw [gL_at al38]
  unfold gE
  rw [if_neg (by decide), if_neg (by decide), if_neg (by decide), if_pos (by decide)]
  rfl
section XG
variable {p : Program} {l : Launch} {e : Env} {R : Room} {s : State} {m : MethodId} {args : Array Value} {below : List Frame} {meth : Method} {c : Code} {H : Heap} {locs : List Loc} {cells slots : Nat} {Q : State → Prop}
variable {cc : ByteArray} {pc : Nat} {ls : Array Slot} {rest : List Value} {t : gP} {u : uS} {ws : List Cond} {own : String} {nL : Nat}
theorem x_one (kk : W p l e R s m args below meth c H locs cells slots Q (F0 m pc ls (.int (iI 1) :: rest))) : W p l e R s m args below meth c H locs cells slots Q (F0 m pc ls (.int 1 :: rest)) := kk
theorem x_i2c (X : xC t p s m args c cc ws own nL) {a : Int} (hdg : decode cc pc = .ok (.i2c, 1)) (kk : W p l e R s m args below meth c H locs cells slots Q (F0 m (pc + 1) ls (.int (iI (a % 65536)) :: rest))) : W p l e R s m args below meth c H locs cells slots Q (F0 m pc ls (.int (iI a) :: rest)) := by
  refine lv_i2c X.1.1 X.1.2.1 hdg ?_ kk
  rw [pk_char]
  have h1 := iI_bn a
  show Int32.ofNat _ = _
  rw [iI_nat, Int.natCast_emod, h1]
  congr 1
  exact Int.emod_emod_of_dvd a (by decide)
theorem x_sblen (X : xC t p s m args c cc ws own nL) (hG : G t u H) (hi : 0 ≤ u 1000 1 ∧ u 1000 1 < 2147483648) (hdg : decode cc pc = .ok (.arraylength, 1)) (kk : W p l e R s m args below meth c H locs cells slots Q (F0 m (pc + 1) ls (.int (iI (u 1000 1)) :: rest))) : W p l e R s m args below meth c H locs cells slots Q (F0 m pc ls (.ref (t.2.2.1 38) :: rest)) :=
  va_alen (D := t.1) (cl := vwCl) X.1.1 X.1.2.1 X.2.1 hG.P (gi t 38) 2 gL_sb rfl ((iI_nat _).trans (by rw [Int.toNat_of_nonneg hi.1])) hdg kk
theorem x_sbld (X : xC t p s m args c cc ws own nL) (hG : G t u H) {i : Int} (hi : 0 ≤ i ∧ i < u 1000 1 ∧ u 1000 1 < 2147483648) (hdg : decode cc pc = .ok (.baload, 1)) (kk : W p l e R s m args below meth c H locs cells slots Q (F0 m (pc + 1) ls (.int (iI (u 38 i)) :: rest))) : W p l e R s m args below meth c H locs cells slots Q (F0 m pc ls (.int (iI i) :: .ref (t.2.2.1 38) :: rest)) := by
  refine va_bald (D := t.1) (cl := vwCl) X.1.1 X.1.2.1 X.2.1 hG.P (gi t 38) 2 gL_sb rfl (iI_in ⟨hi.1, by omega⟩ (by omega)) hdg ?_
  rw [iI_cl ⟨by omega, by omega⟩, Int.toNat_of_nonneg hi.1]
  exact kk
theorem nar8_id {x : Int} (hv : -128 ≤ x ∧ x < 128) : vp_nar .byte (iI x) = iI x := by
  rw [vp_nar_byte]
  apply Int32.toInt.inj
  rw [Int8.toInt_toInt32, Int32.toInt_toInt8, iI_t ⟨by omega, by omega⟩, Int.bmod_eq_of_le (by omega) (by omega)]
theorem x_sbst (X : xC t p s m args c cc ws own nL) (hG : G t u H) (hS : va_S (gA t) s.heap H locs) {i x : Int} (hi : 0 ≤ i ∧ i < u 1000 1 ∧ u 1000 1 < 2147483648) (hv : -128 ≤ x ∧ x < 128) (hdg : decode cc pc = .ok (.bastore, 1))
    (kk : ∀ (H1 : Heap) (locs1 : List Loc), G t (up u 38 i x) H1 → va_S (gA t) s.heap H1 locs1 → W p l e R s m args below meth c H1 locs1 cells slots Q (F0 m (pc + 1) ls rest)) : W p l e R s m args below meth c H locs cells slots Q (F0 m pc ls (.int (iI x) :: .int (iI i) :: .ref (t.2.2.1 38) :: rest)) := by
  refine va_bast (D := t.1) (cl := vwCl) X.1.1 X.1.2.1 X.2.1 hG.P hG.D hS (gi t 38) 2 gL_sb rfl (iI_in ⟨hi.1, by omega⟩ (by omega)) hdg (fun H1 locs1 hP _ hS1 => ?_)
  refine kk H1 locs1 (hG.store (k := 38) al38 ⟨by decide, by decide⟩ hP rfl ?_ (fun a b ha => up_k ha)) hS1
  unfold gE
  rw [if_neg (by decide), if_neg (by decide), if_neg (by decide), if_pos (by decide), iI_cl ⟨by omega, by omega⟩, upd_iI hi.1, nar8_id hv, up_k (by decide)]
theorem x_sbcpy (X : xC t p s m args c cc ws own nL) (hG : G t u H) (hS : va_S (gA t) s.heap H locs) {k : Nat} {n d : Int} (hk : 2000 ≤ k ∧ k < 2020) (hl : ls.size = nL) {idx : Nat} (w1 : Cond.methodLink own idx arraycopyName ∈ ws) (w2 : Cond.native arraycopyName ∈ ws) (w3 : Cond.static arraycopyName ∈ ws) (w4 : Cond.initialized "java/lang/System" ∈ ws) (hn : n = ((strL k).length : Int)) (hd : 0 ≤ d ∧ d + n ≤ u 1000 1 ∧ u 1000 1 < 2147483648) (hf : 1 ≤ R.frames) (hlo : 60 ≤ R.locals) (hdg : decode cc pc = .ok (.invokestatic idx, 3)) (hW : (rest.map fun v => v.category).sum ≤ 8)
    (kk : ∀ (H1 : Heap) (locs1 : List Loc), G t (upA u 38 (fun j => if d ≤ j ∧ j < d + n then (strL k).getD (j - d).toNat 0 else u 38 j)) H1 → va_S (gA t) s.heap H1 locs1 → W p l e R s m args below meth c H1 locs1 cells slots Q (F0 m (pc + 3) ls rest)) : W p l e R s m args below meth c H locs cells slots Q (F0 m pc ls (.int (iI n) :: .int (iI d) :: .ref (t.2.2.1 38) :: .int (iI 0) :: .ref (t.2.2.1 (k + 1000)) :: rest)) := by
  have hs := x_strf X hk
  have hb : (strL k).length < 100 := strL_n (k - 2000) (by omega)
  have hrn : InR n := ⟨by omega, by omega⟩
  have hrd : InR d := ⟨by omega, by omega⟩
  have h0 : ¬ iI 0 < 0 := by decide
  have hc0 : (iI 0).toNatClampNeg = 0 := by decide
  have hw : nativeFrameWords "java/lang/System" "arraycopy" 5 + 11 ≤ 52 := by decide
  have hnn : ∀ z : Int, InR z → 0 ≤ z → ¬ iI z < 0 := fun z hz h q => by
    have := (iI_lt (b := 0) hz (by decide)).mp q
    omega
  refine vk_copyt (D := t.1) (cl := vwCl) (f := fun j => iI ((strL k).getD j 0)) (g := fun j => iI (u 38 (j : Int))) X.1.1 X.1.2.1 (X.1.2.2.1.trans hl.symm) X.1.2.2.2.1 (X.1.2.2.2.2 _ w1) (X.1.2.2.2.2 _ w2) (X.1.2.2.2.2 _ w3) (X.1.2.2.2.2 _ w4) X.2.1 hG.P hG.D hS hs.1.2.2.2 (gi t 38) 2 gL_sb rfl h0 (hnn d hrd hd.1) (hnn n hrn (by omega)) (by rw [iI_cl hrn, hc0]; omega) (by rw [iI_cl hrn, iI_cl hrd]; omega) (fun i hi => ?_) hf (by omega) hdg (fun H1 locs1 hP _ hS1 => ?_)
  · rw [iI_cl hrn] at hi
    rw [hc0, Nat.zero_add]
    have hlt : i < (strL k).length := by omega
    have hv : 0 ≤ (strL k).getD i 0 ∧ (strL k).getD i 0 < 128 := by
      rw [List.getD_eq_getElem?_getD, List.getElem?_eq_getElem hlt]
      exact strL_b (k - 2000) (by omega) _ (List.getElem_mem hlt)
    generalize (strL k).getD i 0 = x at hv ⊢
    show (decide (-128 ≤ iI x) && decide (iI x ≤ 127)) = true
    rw [Bool.and_eq_true, decide_eq_true_eq, decide_eq_true_eq]
    have hx := iI_t (x := x) ⟨by omega, by omega⟩
    exact ⟨Int32.le_iff_toInt_le.mpr (by rw [hx]; exact (by omega : (-128 : Int) ≤ x)), Int32.le_iff_toInt_le.mpr (by rw [hx]; exact (by omega : x ≤ (127 : Int)))⟩
  · refine kk H1 locs1 (hG.store (k := 38) al38 ⟨by decide, by decide⟩ hP rfl ?_ (fun a b ha => upA_k ha)) hS1
    unfold gE
    rw [if_neg (by decide), if_neg (by decide), if_neg (by decide), if_pos (by decide), upA_k (by decide), iI_cl hrn, iI_cl hrd, hc0]
    congr 4
    funext j
    rw [upA_s]
    unfold va_cpy
    by_cases h : d ≤ (j : Int) ∧ (j : Int) < d + n
    · rw [if_pos h, if_pos ⟨by omega, by omega⟩, Nat.zero_add]
      congr 2
      omega
    · rw [if_neg h, if_neg (fun q => h ⟨by omega, by omega⟩)]
theorem x_stldb (X : xC t p s m args c cc ws own nL) {a : Nat} {L : List Int} (hT : va_T .byte a L.length (fun j => .int (iI (L.getD j 0))) (gA t) s s.heap) (hS : va_S (gA t) s.heap H locs) {i n : Int} (hi : 0 ≤ i ∧ i < n) (hn : n = (L.length : Int) ∧ n < 2147483648) (hdg : decode cc pc = .ok (.baload, 1)) (kk : W p l e R s m args below meth c H locs cells slots Q (F0 m (pc + 1) ls (.int (iI (L.getD i.toNat 0)) :: rest))) : W p l e R s m args below meth c H locs cells slots Q (F0 m pc ls (.int (iI i) :: .ref a :: rest)) :=
  va_tb X.1.1 X.1.2.1 hT hS (iI_in (by omega) (by omega)) (by rw [iI_cl ⟨by omega, by omega⟩]) hdg kk
end XG
