section XF
variable {p : Program} {l : Launch} {e : Env} {R : Room} {s : State} {m : MethodId} {args : Array Value} {below : List Frame} {meth : Method} {c : Code} {H : Heap} {locs : List Loc} {cells slots : Nat} {Q : State → Prop}
variable {cc : ByteArray} {pc : Nat} {ls : Array Slot} {rest : List Value} {t : gP} {u : uS} {ws : List Cond} {own : String} {nL : Nat}
theorem x_lds (X : xC t p s m args c cc ws own nL) {idx i : Nat} {tx : String} (hm : (own, idx, i, tx) ∈ gRef) (hdg : decode cc pc = .ok (.ldc idx, 2)) (kk : W p l e R s m args below meth c H locs cells slots Q (F0 m (pc + 2) ls (.ref (t.2.2.1 (2000 + i)) :: rest))) : W p l e R s m args below meth c H locs cells slots Q (F0 m pc ls rest) :=
  va_ldcS X.1.1 X.1.2.1 X.1.2.2.2.1 (X.2.2.1.2.2.2.2.1 _ hm) hdg kk
theorem x_ldsw (X : xC t p s m args c cc ws own nL) {idx i : Nat} {tx : String} (hm : (own, idx, i, tx) ∈ gRef) (hdg : decode cc pc = .ok (.ldc_w idx, 3)) (kk : W p l e R s m args below meth c H locs cells slots Q (F0 m (pc + 3) ls (.ref (t.2.2.1 (2000 + i)) :: rest))) : W p l e R s m args below meth c H locs cells slots Q (F0 m pc ls rest) := by
  have hZ := X.2.2.1.2.2.2.2.1 _ hm
  intro T hT Y
  obtain ⟨t2, a1, b1⟩ := kk T hT Y
  exact ⟨t2, Y.ldcStringW X.1.1 X.1.2.2.2.1 (text := tx) (a := t.2.2.1 (2000 + i)) hZ.1 hZ.2 (g := F0 m pc ls rest) rfl (by rw [X.1.2.1]; exact hdg) t2 a1, b1⟩
theorem x_stld (X : xC t p s m args c cc ws own nL) {a : Nat} {L : List Int} (hT : va_T .int a L.length (fun j => .int (iI (L.getD j 0))) (gA t) s s.heap) (hS : va_S (gA t) s.heap H locs) {i n : Int} (hi : 0 ≤ i ∧ i < n) (hn : n = (L.length : Int) ∧ n < 2147483648) (hdg : decode cc pc = .ok (.iaload, 1)) (kk : W p l e R s m args below meth c H locs cells slots Q (F0 m (pc + 1) ls (.int (iI (L.getD i.toNat 0)) :: rest))) : W p l e R s m args below meth c H locs cells slots Q (F0 m pc ls (.int (iI i) :: .ref a :: rest)) :=
  va_ti X.1.1 X.1.2.1 hT hS (iI_in (by omega) (by omega)) (by rw [iI_cl ⟨by omega, by omega⟩]) hdg kk
theorem x_strf (X : xC t p s m args c cc ws own nL) {k : Nat} (hk : 2000 ≤ k ∧ k < 2020) : (va_O "java/lang/String" (t.2.2.1 k) (gA t) s s.heap ∧ va_OF "java/lang/String" "coder" "B" (.int (iI 0)) (t.2.2.1 k) (gA t) s s.heap ∧ va_OF "java/lang/String" "value" "[B" (.ref (t.2.2.1 (k + 1000))) (t.2.2.1 k) (gA t) s s.heap ∧ va_T .byte (t.2.2.1 (k + 1000)) (strL k).length (fun j => .int (iI ((strL k).getD j 0))) (gA t) s s.heap) ∧ ∃ cell : Cell, s.heap[t.2.2.1 k]? = some cell ∧ cell.vm.isStatics = false ∧ s.vm.findClass "java/lang/String" = some cell.cls := by
  have h4 := X.2.2.1.2.2.2.1
  have hi : k - 2000 < gStr.length := by have : gStr.length = 20 := rfl; omega
  have e1 : 2000 + (k - 2000) = k := by omega
  have e2 : 3000 + (k - 2000) = k + 1000 := by omega
  have h := h4.1 (k - 2000) hi
  have hr := vk_recv h4 hi (va_S.rf (A := gA t) (H0 := s.heap))
  simp only [e1, e2] at h hr
  refine ⟨⟨h.1, h.2.1, h.2.2.1, ?_⟩, hr⟩
  have h5 := h.2.2.2
  have el : (List.map List.length gStr).getD (k - 2000) 0 = (strL k).length := by
    unfold strL
    simp only [List.getD_eq_getElem?_getD, List.getElem?_map]
    rw [List.getElem?_eq_getElem hi]
    simp only [Option.map_some, Option.getD_some]
  have eb : ∀ j : Nat, ((List.map (fun l => List.map iI l) gStr).getD (k - 2000) []).getD j 0 = iI ((strL k).getD j 0) := by
    intro j
    unfold strL
    simp only [List.getD_eq_getElem?_getD, List.getElem?_map]
    rw [List.getElem?_eq_getElem hi]
    simp only [Option.map_some, Option.getD_some, List.getElem?_map]
    cases (gStr[k - 2000])[j]? <;> rfl
  rw [el] at h5
  simp only [eb] at h5
  exact h5
theorem x_callSti0 (X : xC t p s m args c cc ws own nL) (hG : G t u H) (hS : va_S (gA t) s.heap H locs) {y : MethodName} {ws2 : List Cond} {rm : Room} {As : List Value} {u' : uS} {r : Int} {k n idx maxL : Nat} {bytes : ByteArray} {ret : Option FieldType} {st0 : List Value}
    (hM : xMi l y ws2 rm t (.ref (t.2.2.1 k) :: As) u r u' 0 0) (cw : CallW R s args own "java/lang/String" idx y bytes maxL ret ws2 rm 0 0 n) (hk : 2000 ≤ k ∧ k < 2020) (hn : As.length = n) (hl : ls.size = nL) (hW : (rest.map fun v => v.category).sum ≤ 8) (hdg : decode cc pc = .ok (.invokevirtual idx, 3)) (hf : cells ≤ R.cells ∧ slots ≤ R.slots)
    (hst : st0 = As.reverse ++ .ref (t.2.2.1 k) :: rest)
    (kk : ∀ (H1 : Heap) (locs1 : List Loc), G t u' H1 → va_S (gA t) s.heap H1 locs1 → W p l e R s m args below meth c H1 locs1 cells slots Q (F0 m (pc + 3) ls (.int (iI r) :: rest))) : W p l e R s m args below meth c H locs cells slots Q (F0 m pc ls st0) := by
  have hi : k - 2000 < gStr.length := by have : gStr.length = 20 := rfl; omega
  have hr := vk_recv X.2.2.1.2.2.2.1 hi hS
  simp only [show 2000 + (k - 2000) = k by omega] at hr
  refine va_calli (va_runV (As := As) (rest := rest) X.1 hM cw ⟨x_blind, hr, x_pre X hG hS⟩ rfl hn hl hst (lv_room hW) hdg hf) hS (fun q _ h => h) (fun q h => h) (fun r2 u2 U H1 locs1 hU hvm hw hB hz1 hk1 hS1 => ?_)
  obtain ⟨rfl, rfl⟩ := hw
  exact kk H1 locs1 (by rw [← hU]; exact hB) hS1
end XF
abbrev rJ0_coder_7d493 : Room := { frames := 0, cells := 0, slots := 0, locals := 0 }
abbrev rJ0_length_8abf5 : Room := { frames := 1, cells := 0, slots := 0, locals := 30 }
abbrev rJ3_checkIndex_8e157 : Room := { frames := 0, cells := 0, slots := 0, locals := 0 }
abbrev rJ0_checkIndex_df160 : Room := { frames := 1, cells := 0, slots := 0, locals := 30 }
abbrev rJ1_charAt_3b067 : Room := { frames := 2, cells := 0, slots := 0, locals := 60 }
abbrev rJ0_charAt_5068e : Room := { frames := 3, cells := 0, slots := 0, locals := 90 }
set_option maxRecDepth 100000 in
set_option maxHeartbeats 8000000 in
theorem c_J0_coder_7d493 (l : Launch) (t : gP) (k0 : Nat) (u : uS) (r : Int) (u' : uS) (h : f_J0_coder_7d493 k0 u = some (r, u')) : xMi l yJ0_coder_7d493 wsJ0_coder_7d493 rJ0_coder_7d493 t [.ref (t.2.2.1 k0)] u r u' 0 0 := by
  refine x_ofWi (cc := cJ0_coder_7d493) (maxL := 1) (ret := .byte) (own := RJ0) (by decide) rfl rfl (Nat.le_of_ble_eq_true rfl) ?_
  intro p e s m args below meth c Q X hret H locs ls hG hS hl
  replace hl : lv_has ls 1 [(0, .ref (t.2.2.1 k0))] := hl
  obtain ⟨g1, h⟩ := xgd_of h
  cases h
  have hs := x_strf X g1
  refine va_gets X.1.1 X.1.2.1 X.2.2.1.2.2.1.1 hS X.1.2.2.2.1 (X.1.2.2.2.2 _ (x_w 1 rfl)) (fun _ h9 => h9) dJ0_coder_7d493_0 ?_
  refine lv_if_eq (tgt := 13) X.1.1 X.1.2.1 dJ0_coder_7d493_3 (by decide) (fun c1 => absurd c1 (by decide)) (fun _ => ?_)
  refine lv_aload_n X.1.1 X.1.2.1 dJ0_coder_7d493_6 rfl (lv_at hl 0 rfl) ?_
  refine vk_getf X.1.1 X.1.2.1 hs.1.2.1 hS X.1.2.2.2.1 (X.1.2.2.2.2 _ (x_w 2 rfl)) (fun _ h9 => h9) dJ0_coder_7d493_7 ?_
  refine lv_goto (tgt := 14) X.1.1 X.1.2.1 dJ0_coder_7d493_10 (by decide) ?_
  exact hret _ _ _ _ dJ0_coder_7d493_14 (by decide) hG hS
theorem hd_J0_coder_7d493 : yJ0_coder_7d493.cls = "java/lang/String" ∧ yJ0_coder_7d493.cls ≠ "java/lang/invoke/MethodHandle" ∧ yJ0_coder_7d493.cls ≠ "java/lang/invoke/VarHandle" ∧ (parseMethodDescriptor yJ0_coder_7d493.desc).map (fun d => d.parameters.length) = some 0 := by decide +kernel
set_option maxRecDepth 100000 in
set_option maxHeartbeats 8000000 in
theorem c_J0_isLatin1_aae02 (l : Launch) (t : gP) (k0 : Nat) (u : uS) (r : Int) (u' : uS) (h : f_J0_isLatin1_aae02 k0 u = some (r, u')) : xMi l yJ0_isLatin1_aae02 wsJ0_isLatin1_aae02 rJ0_coder_7d493 t [.ref (t.2.2.1 k0)] u r u' 0 0 := by
  refine x_ofWi (cc := cJ0_isLatin1_aae02) (maxL := 1) (ret := .boolean) (own := RJ0) (by decide) rfl rfl (Nat.le_of_ble_eq_true rfl) ?_
  intro p e s m args below meth c Q X hret H locs ls hG hS hl
  replace hl : lv_has ls 1 [(0, .ref (t.2.2.1 k0))] := hl
  obtain ⟨g1, h⟩ := xgd_of h
  cases h
  have hs := x_strf X g1
  refine va_gets X.1.1 X.1.2.1 X.2.2.1.2.2.1.1 hS X.1.2.2.2.1 (X.1.2.2.2.2 _ (x_w 1 rfl)) (fun _ h9 => h9) dJ0_isLatin1_aae02_0 ?_
  refine lv_if_eq (tgt := 17) X.1.1 X.1.2.1 dJ0_isLatin1_aae02_3 (by decide) (fun c1 => absurd c1 (by decide)) (fun _ => ?_)
  refine lv_aload_n X.1.1 X.1.2.1 dJ0_isLatin1_aae02_6 rfl (lv_at hl 0 rfl) ?_
  refine vk_getf X.1.1 X.1.2.1 hs.1.2.1 hS X.1.2.2.2.1 (X.1.2.2.2.2 _ (x_w 2 rfl)) (fun _ h9 => h9) dJ0_isLatin1_aae02_7 ?_
  refine lv_if_ne (tgt := 17) X.1.1 X.1.2.1 dJ0_isLatin1_aae02_10 (by decide) (fun c1 => absurd (by decide) c1) (fun _ => ?_)
  refine x_iconst X dJ0_isLatin1_aae02_13 ?_
  refine lv_goto (tgt := 18) X.1.1 X.1.2.1 dJ0_isLatin1_aae02_14 (by decide) ?_
  exact hret _ _ _ _ dJ0_isLatin1_aae02_18 (by decide) hG hS
theorem hd_J0_isLatin1_aae02 : yJ0_isLatin1_aae02.cls = "java/lang/String" ∧ yJ0_isLatin1_aae02.cls ≠ "java/lang/invoke/MethodHandle" ∧ yJ0_isLatin1_aae02.cls ≠ "java/lang/invoke/VarHandle" ∧ (parseMethodDescriptor yJ0_isLatin1_aae02.desc).map (fun d => d.parameters.length) = some 0 := by decide +kernel
set_option maxRecDepth 100000 in
set_option maxHeartbeats 8000000 in
theorem c_J0_length_8abf5 (l : Launch) (t : gP) (k0 : Nat) (u : uS) (r : Int) (u' : uS) (h : f_J0_length_8abf5 k0 u = some (r, u')) : xMi l yJ0_length_8abf5 wsJ0_length_8abf5 rJ0_length_8abf5 t [.ref (t.2.2.1 k0)] u r u' 0 0 := by
  refine x_ofWi (cc := cJ0_length_8abf5) (maxL := 1) (ret := .int) (own := RJ0) (by decide) rfl rfl (Nat.le_of_ble_eq_true rfl) ?_
  intro p e s m args below meth c Q X hret H locs ls hG hS hl
  replace hl : lv_has ls 1 [(0, .ref (t.2.2.1 k0))] := hl
  obtain ⟨g1, h⟩ := xgd_of h
  cases h
  have hs := x_strf X g1
  have hb := strL_n (k0 - 2000) (by omega)
  replace hb : (strL k0).length < 100 := hb
  refine lv_aload_n X.1.1 X.1.2.1 dJ0_length_8abf5_0 rfl (lv_at hl 0 rfl) ?_
  refine vk_getf X.1.1 X.1.2.1 hs.1.2.2.1 hS X.1.2.2.2.1 (X.1.2.2.2.2 _ (x_w 1 rfl)) (fun _ h9 => h9) dJ0_length_8abf5_1 ?_
  refine va_tlen X.1.1 X.1.2.1 hs.1.2.2.2 hS (iI_nat _) dJ0_length_8abf5_4 ?_
  refine lv_aload_n X.1.1 X.1.2.1 dJ0_length_8abf5_5 rfl (lv_at hl 0 rfl) ?_
  refine x_callSti0 X hG hS (c_J0_coder_7d493 l t k0 u 0 u (xgd_t g1)) (cwV 0 X.1.2.2.2.2 gJ0_length_8abf5_J0_coder_7d493 rfl rfl rfl hd_J0_coder_7d493 ⟨Nat.le_of_ble_eq_true rfl, Nat.le_of_ble_eq_true rfl⟩) g1 (by rfl) hl.1 (Nat.le_of_ble_eq_true rfl) dJ0_length_8abf5_6 ⟨by decide, by decide⟩ rfl (fun H locs hG hS => ?_)
  refine x_ishr X ⟨by omega, by omega⟩ ⟨by decide, by decide⟩ dJ0_length_8abf5_9 ?_
  rw [show shrI ((strL k0).length : Int) 0 = ((strL k0).length : Int) by unfold shrI; show _ / 1 = _; exact Int.ediv_one _]
  exact hret _ _ _ _ dJ0_length_8abf5_10 rfl hG hS
theorem hd_J0_length_8abf5 : yJ0_length_8abf5.cls = "java/lang/String" ∧ yJ0_length_8abf5.cls ≠ "java/lang/invoke/MethodHandle" ∧ yJ0_length_8abf5.cls ≠ "java/lang/invoke/VarHandle" ∧ (parseMethodDescriptor yJ0_length_8abf5.desc).map (fun d => d.parameters.length) = some 0 := by decide +kernel
set_option maxRecDepth 100000 in
set_option maxHeartbeats 8000000 in
/-- Preconditions.checkIndex, of an index within -/
theorem c_J3_checkIndex_8e157 (l : Launch) (t : gP) (x0 x1 : Int) (w : Option Nat) (u : uS) (h : 0 ≤ x0 ∧ x0 < x1 ∧ x1 < 2147483648) : xMi l yJ3_checkIndex_8e157 wsJ3_checkIndex_8e157 rJ3_checkIndex_8e157 t [.int (iI x0), .int (iI x1), va_rf w] u x0 u 0 0 := by
  have body : ∀ p e s m args below meth c (Q : State → Prop), xC t p s m args c cJ3_checkIndex_8e157 wsJ3_checkIndex_8e157 RJ3 3 → (∀ (H : Heap) (locs : List Loc) (ls : Array Slot) (pc : Nat), decode cJ3_checkIndex_8e157 pc = .ok (.ireturn, 1) → narrow .int (.int (iI x0)) = .int (iI x0) → G t u H → va_S (gA t) s.heap H locs → W p l e rJ3_checkIndex_8e157 s m args below meth c H locs 0 0 Q (F0 m pc ls [.int (iI x0)])) → xG p l e rJ3_checkIndex_8e157 s m args below meth c t Q 3 0 0 0 u [(0, .int (iI x0)), (1, .int (iI x1))] [] := by
    intro p e s m args below meth c Q X hret H locs ls hG hS hl
    refine lv_iload_n X.1.1 X.1.2.1 dJ3_checkIndex_8e157_0 rfl (lv_at hl 0 rfl) ?_
    refine x_if_lt (tgt := 9) X ⟨by omega, by omega⟩ dJ3_checkIndex_8e157_1 (by decide) (fun c1 => absurd h.1 (by omega)) (fun _ => ?_)
    refine lv_iload_n X.1.1 X.1.2.1 dJ3_checkIndex_8e157_4 rfl (lv_at hl 0 rfl) ?_
    refine lv_iload_n X.1.1 X.1.2.1 dJ3_checkIndex_8e157_5 rfl (lv_at hl 1 rfl) ?_
    refine x_icmp_lt (tgt := 16) X ⟨by omega, by omega⟩ ⟨by omega, by omega⟩ dJ3_checkIndex_8e157_6 (by decide) (fun _ => ?_) (fun c1 => absurd h.2.1 c1)
    refine lv_iload_n X.1.1 X.1.2.1 dJ3_checkIndex_8e157_16 rfl (lv_at hl 0 rfl) ?_
    exact hret _ _ _ _ dJ3_checkIndex_8e157_17 rfl hG hS
  cases w with
  | none =>
    refine x_ofWi (cc := cJ3_checkIndex_8e157) (maxL := 3) (ret := .int) (own := RJ3) (by decide) rfl rfl (Nat.le_of_ble_eq_true rfl) ?_
    intro p e s m args below meth c Q X hret H locs ls hG hS hl
    replace hl : lv_has ls 3 [(0, .int (iI x0)), (1, .int (iI x1)), (2, .null)] := hl
    exact body p e s m args below meth c Q X hret H locs ls hG hS (lv_sub hl [0, 1] rfl)
  | some a =>
    refine x_ofWi (cc := cJ3_checkIndex_8e157) (maxL := 3) (ret := .int) (own := RJ3) (by decide) rfl rfl (Nat.le_of_ble_eq_true rfl) ?_
    intro p e s m args below meth c Q X hret H locs ls hG hS hl
    replace hl : lv_has ls 3 [(0, .int (iI x0)), (1, .int (iI x1)), (2, .ref a)] := hl
    exact body p e s m args below meth c Q X hret H locs ls hG hS (lv_sub hl [0, 1] rfl)
theorem hds_J3_checkIndex_8e157 : yJ3_checkIndex_8e157.cls ≠ "java/lang/invoke/MethodHandle" ∧ yJ3_checkIndex_8e157.cls ≠ "java/lang/invoke/VarHandle" ∧ (parseMethodDescriptor yJ3_checkIndex_8e157.desc).map (fun d => d.parameters.length) = some 3 := by decide +kernel
set_option maxRecDepth 100000 in
set_option maxHeartbeats 8000000 in
theorem c_J0_checkIndex_df160 (l : Launch) (t : gP) (x0 x1 : Int) (u : uS) (h : 0 ≤ x0 ∧ x0 < x1 ∧ x1 < 2147483648) : xMv l yJ0_checkIndex_df160 wsJ0_checkIndex_df160 rJ0_checkIndex_df160 t [.int (iI x0), .int (iI x1)] u u 0 0 := by
  refine x_ofWv (cc := cJ0_checkIndex_df160) (maxL := 2) (own := RJ0) (by decide) rfl rfl (Nat.le_of_ble_eq_true rfl) ?_
  intro p e s m args below meth c Q X hret H locs ls hG hS hl
  replace hl : lv_has ls 2 [(0, .int (iI x0)), (1, .int (iI x1))] := hl
  refine lv_iload_n X.1.1 X.1.2.1 dJ0_checkIndex_df160_0 rfl (lv_at hl 0 rfl) ?_
  refine lv_iload_n X.1.1 X.1.2.1 dJ0_checkIndex_df160_1 rfl (lv_at hl 1 rfl) ?_
  obtain ⟨w, hw⟩ : ∃ w : Option Nat, va_Z "jdk/internal/util/Preconditions" "SIOOBE_FORMATTER" "Ljava/util/function/BiFunction;" (va_rf w) (gA t) s s.heap := by
    rcases X.2.2.1.2.2.1.2 with q | ⟨a, q⟩
    · exact ⟨none, q⟩
    · exact ⟨some a, q⟩
  refine va_gets X.1.1 X.1.2.1 hw hS X.1.2.2.2.1 (X.1.2.2.2.2 _ (x_w 1 rfl)) (fun _ h9 => h9) dJ0_checkIndex_df160_2 ?_
  refine x_callSi0 X hG hS (c_J3_checkIndex_8e157 l t x0 x1 w u h) (va_cwS 3 X.1.2.2.2.2 gJ0_checkIndex_df160_J3_checkIndex_8e157 rfl rfl rfl hds_J3_checkIndex_8e157 ⟨Nat.le_of_ble_eq_true rfl, Nat.le_of_ble_eq_true rfl⟩) (by rfl) hl.1 (Nat.le_of_ble_eq_true rfl) dJ0_checkIndex_df160_5 ⟨by decide, by decide⟩ rfl (fun H locs hG hS => ?_)
  refine lv_pop X.1.1 X.1.2.1 dJ0_checkIndex_df160_8 rfl ?_
  exact hret _ _ _ _ dJ0_checkIndex_df160_9 hG hS
theorem hds_J0_checkIndex_df160 : yJ0_checkIndex_df160.cls ≠ "java/lang/invoke/MethodHandle" ∧ yJ0_checkIndex_df160.cls ≠ "java/lang/invoke/VarHandle" ∧ (parseMethodDescriptor yJ0_checkIndex_df160.desc).map (fun d => d.parameters.length) = some 2 := by decide +kernel
theorem and255 : ∀ x : Int, 0 ≤ x → x < 128 → x % (2 ^ 8 : Nat) = x := fun x h1 h2 => Int.emod_eq_of_lt h1 (by show x < 256; omega)
theorem i2c_k {x : Int} (h : 0 ≤ x ∧ x < 65536) : ((iI x).toUInt32 % 65536).toInt32 = iI x := by
  rw [pk_char]
  have h1 := iI_bn x
  rw [Int.emod_eq_of_lt h.1 (by omega)] at h1
  show Int32.ofNat _ = _
  rw [iI_nat]
  congr 1
  omega
set_option maxRecDepth 100000 in
set_option maxHeartbeats 8000000 in
/-- StringLatin1.charAt, of a string's bytes -/
theorem c_J1_charAt_3b067 (l : Launch) (t : gP) (k0 : Nat) (x1 : Int) (u : uS) (g1 : 2000 ≤ k0 ∧ k0 < 2020) (g2 : 0 ≤ x1 ∧ x1 < ((strL k0).length : Int)) : xMi l yJ1_charAt_3b067 wsJ1_charAt_3b067 rJ1_charAt_3b067 t [.ref (t.2.2.1 (k0 + 1000)), .int (iI x1)] u ((strL k0).getD x1.toNat 0) u 0 0 := by
  refine x_ofWi (cc := cJ1_charAt_3b067) (maxL := 2) (ret := .char) (own := RJ1) (by decide) rfl rfl (Nat.le_of_ble_eq_true rfl) ?_
  intro p e s m args below meth c Q X hret H locs ls hG hS hl
  replace hl : lv_has ls 2 [(0, .ref (t.2.2.1 (k0 + 1000))), (1, .int (iI x1))] := hl
  have hs := x_strf X g1
  have hb : (strL k0).length < 100 := strL_n (k0 - 2000) (by omega)
  have hlt : x1.toNat < (strL k0).length := by omega
  have hv : 0 ≤ (strL k0).getD x1.toNat 0 ∧ (strL k0).getD x1.toNat 0 < 128 := by
    rw [List.getD_eq_getElem?_getD, List.getElem?_eq_getElem hlt]
    exact strL_b (k0 - 2000) (by omega) _ (List.getElem_mem hlt)
  refine lv_iload_n X.1.1 X.1.2.1 dJ1_charAt_3b067_0 rfl (lv_at hl 1 rfl) ?_
  refine lv_aload_n X.1.1 X.1.2.1 dJ1_charAt_3b067_1 rfl (lv_at hl 0 rfl) ?_
  refine va_tlen X.1.1 X.1.2.1 hs.1.2.2.2 hS (iI_nat _) dJ1_charAt_3b067_2 ?_
  refine x_callSv0 X hG hS (c_J0_checkIndex_df160 l t x1 ((strL k0).length : Int) u ⟨g2.1, g2.2, by omega⟩) (va_cwS 2 X.1.2.2.2.2 gJ1_charAt_3b067_J0_checkIndex_df160 rfl rfl rfl hds_J0_checkIndex_df160 ⟨Nat.le_of_ble_eq_true rfl, Nat.le_of_ble_eq_true rfl⟩) (by rfl) hl.1 (Nat.le_of_ble_eq_true rfl) dJ1_charAt_3b067_3 ⟨by decide, by decide⟩ rfl (fun H locs hG hS => ?_)
  refine lv_aload_n X.1.1 X.1.2.1 dJ1_charAt_3b067_6 rfl (lv_at hl 0 rfl) ?_
  refine lv_iload_n X.1.1 X.1.2.1 dJ1_charAt_3b067_7 rfl (lv_at hl 1 rfl) ?_
  refine va_tb (v := .int (iI ((strL k0).getD x1.toNat 0))) X.1.1 X.1.2.1 hs.1.2.2.2 hS (iI_in g2 (by omega)) (by rw [iI_cl ⟨by omega, by omega⟩]) dJ1_charAt_3b067_8 ?_
  refine x_sipush X dJ1_charAt_3b067_9 (by decide) ?_
  refine x_and X (k := 8) (by decide) (by decide) dJ1_charAt_3b067_12 ?_
  rw [and255 _ hv.1 hv.2]
  refine lv_i2c X.1.1 X.1.2.1 dJ1_charAt_3b067_13 (i2c_k ⟨hv.1, by omega⟩) ?_
  refine hret _ _ _ _ dJ1_charAt_3b067_14 ?_ hG hS
  have h3 : ∀ x : Int, 0 ≤ x → x < 128 → narrow .char (.int (iI x)) = .int (iI x) := by
    intro x h1 h2
    have h4 := (pk_charN (q := x.toNat) (by omega)).1
    have h5 : iI x = nI x.toNat := by
      show _ = Int32.ofNat _
      rw [iI_nat, Int.toNat_of_nonneg h1]
    rw [h5]; exact h4
  exact h3 _ hv.1 hv.2
theorem hds_J1_charAt_3b067 : yJ1_charAt_3b067.cls ≠ "java/lang/invoke/MethodHandle" ∧ yJ1_charAt_3b067.cls ≠ "java/lang/invoke/VarHandle" ∧ (parseMethodDescriptor yJ1_charAt_3b067.desc).map (fun d => d.parameters.length) = some 2 := by decide +kernel
set_option maxRecDepth 100000 in
set_option maxHeartbeats 8000000 in
theorem c_J0_charAt_5068e (l : Launch) (t : gP) (k0 : Nat) (x1 : Int) (u : uS) (r : Int) (u' : uS) (h : f_J0_charAt_5068e k0 x1 u = some (r, u')) : xMi l yJ0_charAt_5068e wsJ0_charAt_5068e rJ0_charAt_5068e t [.ref (t.2.2.1 k0), .int (iI x1)] u r u' 0 0 := by
  refine x_ofWi (cc := cJ0_charAt_5068e) (maxL := 2) (ret := .char) (own := RJ0) (by decide) rfl rfl (Nat.le_of_ble_eq_true rfl) ?_
  intro p e s m args below meth c Q X hret H locs ls hG hS hl
  replace hl : lv_has ls 2 [(0, .ref (t.2.2.1 k0)), (1, .int (iI x1))] := hl
  obtain ⟨g1, h⟩ := xgd_of h
  obtain ⟨g2, h⟩ := xgd_of h
  cases h
  have hs := x_strf X g1
  have hlt : x1.toNat < (strL k0).length := by omega
  have hv : 0 ≤ (strL k0).getD x1.toNat 0 ∧ (strL k0).getD x1.toNat 0 < 128 := by
    rw [List.getD_eq_getElem?_getD, List.getElem?_eq_getElem hlt]
    exact strL_b (k0 - 2000) (by omega) _ (List.getElem_mem hlt)
  refine lv_aload_n X.1.1 X.1.2.1 dJ0_charAt_5068e_0 rfl (lv_at hl 0 rfl) ?_
  refine x_callSti0 X hG hS (c_J0_isLatin1_aae02 l t k0 u 1 u (xgd_t g1)) (cwV 0 X.1.2.2.2.2 gJ0_charAt_5068e_J0_isLatin1_aae02 rfl rfl rfl hd_J0_isLatin1_aae02 ⟨Nat.le_of_ble_eq_true rfl, Nat.le_of_ble_eq_true rfl⟩) g1 (by rfl) hl.1 (Nat.le_of_ble_eq_true rfl) dJ0_charAt_5068e_1 ⟨by decide, by decide⟩ rfl (fun H locs hG hS => ?_)
  refine lv_if_eq (tgt := 16) X.1.1 X.1.2.1 dJ0_charAt_5068e_4 (by decide) (fun c1 => absurd c1 (by decide)) (fun _ => ?_)
  refine lv_aload_n X.1.1 X.1.2.1 dJ0_charAt_5068e_7 rfl (lv_at hl 0 rfl) ?_
  refine vk_getf X.1.1 X.1.2.1 hs.1.2.2.1 hS X.1.2.2.2.1 (X.1.2.2.2.2 (Cond.fieldLink RJ0 9 "java/lang/String" "value" "[B") (by decide +kernel)) (fun _ h9 => h9) dJ0_charAt_5068e_8 ?_
  refine lv_iload_n X.1.1 X.1.2.1 dJ0_charAt_5068e_11 rfl (lv_at hl 1 rfl) ?_
  refine x_callSi0 X hG hS (c_J1_charAt_3b067 l t k0 x1 u g1 g2) (va_cwS 2 X.1.2.2.2.2 gJ0_charAt_5068e_J1_charAt_3b067 rfl rfl rfl hds_J1_charAt_3b067 ⟨Nat.le_of_ble_eq_true rfl, Nat.le_of_ble_eq_true rfl⟩) (by rfl) hl.1 (Nat.le_of_ble_eq_true rfl) dJ0_charAt_5068e_12 ⟨by decide, by decide⟩ rfl (fun H locs hG hS => ?_)
  refine hret _ _ _ _ dJ0_charAt_5068e_15 ?_ hG hS
  have h3 : ∀ x : Int, 0 ≤ x → x < 128 → narrow .char (.int (iI x)) = .int (iI x) := by
    intro x h1 h2
    have h4 := (pk_charN (q := x.toNat) (by omega)).1
    have h5 : iI x = nI x.toNat := by
      show _ = Int32.ofNat _
      rw [iI_nat, Int.toNat_of_nonneg h1]
    rw [h5]; exact h4
  exact h3 _ hv.1 hv.2
theorem hd_J0_charAt_5068e : yJ0_charAt_5068e.cls = "java/lang/String" ∧ yJ0_charAt_5068e.cls ≠ "java/lang/invoke/MethodHandle" ∧ yJ0_charAt_5068e.cls ≠ "java/lang/invoke/VarHandle" ∧ (parseMethodDescriptor yJ0_charAt_5068e.desc).map (fun d => d.parameters.length) = some 1 := by decide +kernel
