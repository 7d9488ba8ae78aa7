/-! the text that is made (cells 289, 290): its bytes are u 1000 2 -/
abbrev txOk (u : uS) : Prop := 0 ≤ u 1000 2 ∧ u 1000 2 < 1000 ∧ ∀ j : Nat, j < (u 1000 2).toNat → 0 ≤ u 290 (j : Int) ∧ u 290 (j : Int) < 128
theorem gL_tx {t : gP} {u : uS} (h : al t 290) : (gL t u)[gi t 290]? = some (t.2.2.1 290, .inl (t.2.1 102, (u 1000 2).toNat, .inl (fun j => iI (u 290 (j : Int))))) := by
  rw [gL_at h]
  unfold gE
  have e : sT 290 = 108 := by decide +kernel
  rw [e, if_neg (by decide), if_neg (by decide), if_neg (by decide), if_neg (by decide), if_pos rfl]
  rfl
section DT
variable {p : Program} {l : Launch} {e : Env} {R : Room} {s : State} {m : MethodId} {args : Array Value} {below : List Frame} {meth : Method} {c : Code} {H : Heap} {locs : List Loc} {cells slots : Nat} {Q : State → Prop}
variable {cc : ByteArray} {pc : Nat} {ls : Array Slot} {rest : List Value} {t : gP} {u : uS} {ws : List Cond} {own : String} {nL : Nat}
theorem y_tlen (X : xC t p s m args c cc ws own nL) (hG : G t u H) (ha : al t 290) (hi : 0 ≤ u 1000 2 ∧ u 1000 2 < 2147483648) (hdg : decode cc pc = .ok (.arraylength, 1)) (kk : W p l e R s m args below meth c H locs cells slots Q (F0 m (pc + 1) ls (.int (iI (u 1000 2)) :: rest))) : W p l e R s m args below meth c H locs cells slots Q (F0 m pc ls (.ref (t.2.2.1 290) :: rest)) :=
  va_alen (D := t.1) (cl := vwCl) X.1.1 X.1.2.1 X.2.1 hG.P (gi t 290) 2 (gL_tx ha) rfl ((iI_nat _).trans (by rw [Int.toNat_of_nonneg hi.1])) hdg kk
theorem y_tld (X : xC t p s m args c cc ws own nL) (hG : G t u H) (ha : al t 290) {i : Int} (hi : 0 ≤ i ∧ i < u 1000 2 ∧ u 1000 2 < 2147483648) (hdg : decode cc pc = .ok (.baload, 1)) (kk : W p l e R s m args below meth c H locs cells slots Q (F0 m (pc + 1) ls (.int (iI (u 290 i)) :: rest))) : W p l e R s m args below meth c H locs cells slots Q (F0 m pc ls (.int (iI i) :: .ref (t.2.2.1 290) :: rest)) := by
  refine va_bald (D := t.1) (cl := vwCl) X.1.1 X.1.2.1 X.2.1 hG.P (gi t 290) 2 (gL_tx ha) rfl (iI_in ⟨hi.1, by omega⟩ (by omega)) hdg ?_
  rw [iI_cl ⟨by omega, by omega⟩, Int.toNat_of_nonneg hi.1]
  exact kk
theorem y_tcpy (X : xC t p s m args c cc ws own nL) (hG : G t u H) (hS : va_S (gA t) s.heap H locs) (ha : al t 290) {d : Int} (hl : ls.size = nL) {idx : Nat} (w1 : Cond.methodLink own idx arraycopyName ∈ ws) (w2 : Cond.native arraycopyName ∈ ws) (w3 : Cond.static arraycopyName ∈ ws) (w4 : Cond.initialized "java/lang/System" ∈ ws) (hx : txOk u) (hd : 0 ≤ d ∧ d + u 1000 2 ≤ u 1000 1 ∧ u 1000 1 < 2147483648) (hf : 1 ≤ R.frames) (hlo : 60 ≤ R.locals) (hdg : decode cc pc = .ok (.invokestatic idx, 3)) (hW : (rest.map fun v => v.category).sum ≤ 8)
    (kk : ∀ (H1 : Heap) (locs1 : List Loc), G t (upA u 38 (fun j => if d ≤ j ∧ j < d + u 1000 2 then u 290 (j - d) else u 38 j)) H1 → va_S (gA t) s.heap H1 locs1 → W p l e R s m args below meth c H1 locs1 cells slots Q (F0 m (pc + 3) ls rest)) : W p l e R s m args below meth c H locs cells slots Q (F0 m pc ls (.int (iI (u 1000 2)) :: .int (iI d) :: .ref (t.2.2.1 38) :: .int (iI 0) :: .ref (t.2.2.1 290) :: rest)) := by
  obtain ⟨hx0, hx1, hx2⟩ := hx
  have hrn : InR (u 1000 2) := ⟨by omega, by omega⟩
  have hrd : InR d := ⟨by omega, by omega⟩
  have h0 : ¬ iI 0 < 0 := by decide
  have hc0 : (iI 0).toNatClampNeg = 0 := by decide
  have hw : nativeFrameWords "java/lang/System" "arraycopy" 5 + 11 ≤ 52 := by decide
  have hnn : ∀ z : Int, InR z → 0 ≤ z → ¬ iI z < 0 := fun z hz h q => by
    have := (iI_lt (b := 0) hz (by decide)).mp q
    omega
  refine va_copyi (D := t.1) (cl := vwCl) (f := fun j => iI (u 290 (j : Int))) (g := fun j => iI (u 38 (j : Int))) X.1.1 X.1.2.1 (X.1.2.2.1.trans hl.symm) X.1.2.2.2.1 (X.1.2.2.2.2 _ w1) (X.1.2.2.2.2 _ w2) (X.1.2.2.2.2 _ w3) (X.1.2.2.2.2 _ w4) X.2.1 hG.P hG.D hS (gi t 290) (gi t 38) 2 2 (gL_tx ha) gL_sb rfl rfl rfl h0 (hnn d hrd hd.1) (hnn _ hrn hx0) (by rw [iI_cl hrn, hc0]; omega) (by rw [iI_cl hrn, iI_cl hrd]; omega) (fun i hi => ?_) hf (by omega) hdg (fun H1 locs1 hP _ hS1 => ?_)
  · rw [iI_cl hrn] at hi
    rw [hc0, Nat.zero_add]
    have hv := hx2 i hi
    have hxv := iI_t (x := u 290 (i : Int)) ⟨by omega, by omega⟩
    show (decide (-128 ≤ iI (u 290 (i : Int))) && decide (iI (u 290 (i : Int)) ≤ 127)) = true
    rw [Bool.and_eq_true, decide_eq_true_eq, decide_eq_true_eq]
    exact ⟨Int32.le_iff_toInt_le.mpr (by rw [hxv]; exact (by omega : (-128 : Int) ≤ u 290 (i : Int))), Int32.le_iff_toInt_le.mpr (by rw [hxv]; exact (by omega : u 290 (i : Int) ≤ (127 : Int)))⟩
  · refine kk H1 locs1 (hG.store (k := 38) al38 ⟨by decide, by decide⟩ hP rfl ?_ (fun a b ha => upA_k ha)) hS1
    unfold gE
    rw [if_neg (by decide), if_neg (by decide), if_neg (by decide), if_pos (by decide), upA_k (by decide), iI_cl hrn, iI_cl hrd, hc0]
    congr 4
    funext j
    rw [upA_s]
    unfold va_cpy
    by_cases h : d ≤ (j : Int) ∧ (j : Int) < d + u 1000 2
    · rw [if_pos h, if_pos ⟨by omega, by omega⟩, Nat.zero_add]
      congr 2
      omega
    · rw [if_neg h, if_neg (fun q => h ⟨by omega, by omega⟩)]
end DT
theorem char_n {x : Int} (h1 : 0 ≤ x) (h2 : x < 128) : narrow .char (.int (iI x)) = .int (iI x) := by
  have h4 := (pk_charN (q := x.toNat) (by omega)).1
  have h5 : iI x = nI x.toNat := by
    show _ = Int32.ofNat _
    rw [iI_nat, Int.toNat_of_nonneg h1]
  rw [h5]; exact h4
theorem s289 : sT 289 = 0 := by decide +kernel
set_option maxRecDepth 100000 in
set_option maxHeartbeats 8000000 in
theorem cd_J0_coder (l : Launch) (t : gP) (u : uS) (ha : al t 289) (hc : u 289 1 = 0) : xMi l yJ0_coder_7d493 wsJ0_coder_7d493 rJ0_coder_7d493 t [.ref (t.2.2.1 289)] u 0 u 0 0 := by
  refine x_ofWi (cc := cJ0_coder_7d493) (maxL := 1) (ret := .byte) (own := RJ0) (by decide) rfl rfl (Nat.le_of_ble_eq_true rfl) ?_
  intro p e s m args below meth c Q X hret H locs ls hG hS hl
  replace hl : lv_has ls 1 [(0, .ref (t.2.2.1 289))] := hl
  have iJ0 : ∀ w ∈ wsJ00, w ∈ wsJ0_coder_7d493 := by decide +kernel
  refine va_gets X.1.1 X.1.2.1 X.2.2.1.2.2.1.1 hS X.1.2.2.2.1 (X.1.2.2.2.2 _ (x_w 1 rfl)) (fun _ h9 => h9) dJ0_coder_7d493_0 ?_
  refine lv_if_eq (tgt := 13) X.1.1 X.1.2.1 dJ0_coder_7d493_3 (by decide) (fun c1 => absurd c1 (by decide)) (fun _ => ?_)
  refine lv_aload_n X.1.1 X.1.2.1 dJ0_coder_7d493_6 rfl (lv_at hl 0 rfl) ?_
  refine y_geti X hG 0 1 289 1 (inC := iJ0) rfl ha s289 ⟨by decide, by decide, by decide, rfl, rfl⟩ (x_w 2 rfl) dJ0_coder_7d493_7 ?_
  rw [hc]
  refine lv_goto (tgt := 14) X.1.1 X.1.2.1 dJ0_coder_7d493_10 (by decide) ?_
  exact hret _ _ _ _ dJ0_coder_7d493_14 (by decide) hG hS
set_option maxRecDepth 100000 in
set_option maxHeartbeats 8000000 in
theorem cd_J0_isLatin1 (l : Launch) (t : gP) (u : uS) (ha : al t 289) (hc : u 289 1 = 0) : xMi l yJ0_isLatin1_aae02 wsJ0_isLatin1_aae02 rJ0_coder_7d493 t [.ref (t.2.2.1 289)] u 1 u 0 0 := by
  refine x_ofWi (cc := cJ0_isLatin1_aae02) (maxL := 1) (ret := .boolean) (own := RJ0) (by decide) rfl rfl (Nat.le_of_ble_eq_true rfl) ?_
  intro p e s m args below meth c Q X hret H locs ls hG hS hl
  replace hl : lv_has ls 1 [(0, .ref (t.2.2.1 289))] := hl
  have iJ0 : ∀ w ∈ wsJ00, w ∈ wsJ0_isLatin1_aae02 := by decide +kernel
  refine va_gets X.1.1 X.1.2.1 X.2.2.1.2.2.1.1 hS X.1.2.2.2.1 (X.1.2.2.2.2 _ (x_w 1 rfl)) (fun _ h9 => h9) dJ0_isLatin1_aae02_0 ?_
  refine lv_if_eq (tgt := 17) X.1.1 X.1.2.1 dJ0_isLatin1_aae02_3 (by decide) (fun c1 => absurd c1 (by decide)) (fun _ => ?_)
  refine lv_aload_n X.1.1 X.1.2.1 dJ0_isLatin1_aae02_6 rfl (lv_at hl 0 rfl) ?_
  refine y_geti X hG 0 1 289 1 (inC := iJ0) rfl ha s289 ⟨by decide, by decide, by decide, rfl, rfl⟩ (x_w 2 rfl) dJ0_isLatin1_aae02_7 ?_
  rw [hc]
  refine lv_if_ne (tgt := 17) X.1.1 X.1.2.1 dJ0_isLatin1_aae02_10 (by decide) (fun c1 => absurd (by decide) c1) (fun _ => ?_)
  refine x_iconst X dJ0_isLatin1_aae02_13 ?_
  refine lv_goto (tgt := 18) X.1.1 X.1.2.1 dJ0_isLatin1_aae02_14 (by decide) ?_
  exact hret _ _ _ _ dJ0_isLatin1_aae02_18 (by decide) hG hS
def f_dlen (u : uS) : Option (Int × uS) := xgd (u 289 1 = 0 ∧ txOk u) <| some (u 1000 2, u)
def f_dchr (i : Int) (u : uS) : Option (Int × uS) := xgd (u 289 1 = 0 ∧ txOk u ∧ 0 ≤ i ∧ i < u 1000 2) <| some (u 290 i, u)
set_option maxRecDepth 100000 in
set_option maxHeartbeats 8000000 in
theorem cd_J0_length (l : Launch) (t : gP) (u : uS) (r : Int) (u' : uS) (h : f_dlen u = some (r, u')) (ha : al t 289 ∧ sT 289 = 0) (hb : al t 290) : xMi l yJ0_length_8abf5 wsJ0_length_8abf5 rJ0_length_8abf5 t [.ref (t.2.2.1 289)] u r u' 0 0 := by
  refine x_ofWi (cc := cJ0_length_8abf5) (maxL := 1) (ret := .int) (own := RJ0) (by decide) rfl rfl (Nat.le_of_ble_eq_true rfl) ?_
  intro p e s m args below meth c Q X hret H locs ls hG hS hl
  replace hl : lv_has ls 1 [(0, .ref (t.2.2.1 289))] := hl
  have iJ0 : ∀ w ∈ wsJ00, w ∈ wsJ0_length_8abf5 := by decide +kernel
  obtain ⟨⟨hc, hx⟩, h⟩ := xgd_of h
  cases h
  have hx0 := hx.1
  have hx1 := hx.2.1
  refine lv_aload_n X.1.1 X.1.2.1 dJ0_length_8abf5_0 rfl (lv_at hl 0 rfl) ?_
  refine y_getr X hG 0 0 289 1 (inC := iJ0) rfl ha.1 s289 ⟨by decide, by decide, by decide, rfl, by decide, by decide⟩ (x_w 1 rfl) dJ0_length_8abf5_1 ?_
  refine y_tlen X hG hb ⟨hx0, by omega⟩ dJ0_length_8abf5_4 ?_
  refine lv_aload_n X.1.1 X.1.2.1 dJ0_length_8abf5_5 rfl (lv_at hl 0 rfl) ?_
  refine y_callVi0 X hG hS (cd_J0_coder l t u ha.1 hc) (cwV 0 X.1.2.2.2.2 gJ0_length_8abf5_J0_coder_7d493 rfl rfl rfl hd_J0_coder_7d493 ⟨Nat.le_of_ble_eq_true rfl, Nat.le_of_ble_eq_true rfl⟩) ha.1 ha.2 rfl (by decide) (by rfl) hl.1 (Nat.le_of_ble_eq_true rfl) dJ0_length_8abf5_6 ⟨by decide, by decide⟩ rfl (fun H locs hG hS => ?_)
  refine x_ishr X ⟨by omega, by omega⟩ ⟨by decide, by decide⟩ dJ0_length_8abf5_9 ?_
  rw [show shrI (u 1000 2) 0 = u 1000 2 by unfold shrI; show _ / 1 = _; exact Int.ediv_one _]
  exact hret _ _ _ _ dJ0_length_8abf5_10 rfl hG hS
set_option maxRecDepth 100000 in
set_option maxHeartbeats 8000000 in
theorem cd_J1_charAt (l : Launch) (t : gP) (x1 : Int) (u : uS) (hb : al t 290) (hx : txOk u) (g2 : 0 ≤ x1 ∧ x1 < u 1000 2) : xMi l yJ1_charAt_3b067 wsJ1_charAt_3b067 rJ1_charAt_3b067 t [.ref (t.2.2.1 290), .int (iI x1)] u (u 290 x1) u 0 0 := by
  refine x_ofWi (cc := cJ1_charAt_3b067) (maxL := 2) (ret := .char) (own := RJ1) (by decide) rfl rfl (Nat.le_of_ble_eq_true rfl) ?_
  intro p e s m args below meth c Q X hret H locs ls hG hS hl
  replace hl : lv_has ls 2 [(0, .ref (t.2.2.1 290)), (1, .int (iI x1))] := hl
  obtain ⟨hx0, hx1, hx2⟩ := hx
  have hv := hx2 x1.toNat (by omega)
  rw [Int.toNat_of_nonneg g2.1] at hv
  refine lv_iload_n X.1.1 X.1.2.1 dJ1_charAt_3b067_0 rfl (lv_at hl 1 rfl) ?_
  refine lv_aload_n X.1.1 X.1.2.1 dJ1_charAt_3b067_1 rfl (lv_at hl 0 rfl) ?_
  refine y_tlen X hG hb ⟨hx0, by omega⟩ dJ1_charAt_3b067_2 ?_
  refine x_callSv0 X hG hS (c_J0_checkIndex_df160 l t x1 (u 1000 2) u ⟨g2.1, g2.2, by omega⟩) (va_cwS 2 X.1.2.2.2.2 gJ1_charAt_3b067_J0_checkIndex_df160 rfl rfl rfl hds_J0_checkIndex_df160 ⟨Nat.le_of_ble_eq_true rfl, Nat.le_of_ble_eq_true rfl⟩) (by rfl) hl.1 (Nat.le_of_ble_eq_true rfl) dJ1_charAt_3b067_3 ⟨by decide, by decide⟩ rfl (fun H locs hG hS => ?_)
  refine lv_aload_n X.1.1 X.1.2.1 dJ1_charAt_3b067_6 rfl (lv_at hl 0 rfl) ?_
  refine lv_iload_n X.1.1 X.1.2.1 dJ1_charAt_3b067_7 rfl (lv_at hl 1 rfl) ?_
  refine y_tld X hG hb ⟨g2.1, g2.2, by omega⟩ dJ1_charAt_3b067_8 ?_
  refine x_sipush X dJ1_charAt_3b067_9 (by decide) ?_
  refine x_and X (k := 8) (by decide) (by decide) dJ1_charAt_3b067_12 ?_
  rw [and255 _ hv.1 hv.2]
  refine lv_i2c X.1.1 X.1.2.1 dJ1_charAt_3b067_13 (i2c_k ⟨hv.1, by omega⟩) ?_
  exact hret _ _ _ _ dJ1_charAt_3b067_14 (char_n hv.1 hv.2) hG hS
set_option maxRecDepth 100000 in
set_option maxHeartbeats 8000000 in
theorem cd_J0_charAt (l : Launch) (t : gP) (x1 : Int) (u : uS) (r : Int) (u' : uS) (h : f_dchr x1 u = some (r, u')) (ha : al t 289 ∧ sT 289 = 0) (hb : al t 290) : xMi l yJ0_charAt_5068e wsJ0_charAt_5068e rJ0_charAt_5068e t [.ref (t.2.2.1 289), .int (iI x1)] u r u' 0 0 := by
  refine x_ofWi (cc := cJ0_charAt_5068e) (maxL := 2) (ret := .char) (own := RJ0) (by decide) rfl rfl (Nat.le_of_ble_eq_true rfl) ?_
  intro p e s m args below meth c Q X hret H locs ls hG hS hl
  replace hl : lv_has ls 2 [(0, .ref (t.2.2.1 289)), (1, .int (iI x1))] := hl
  have iJ0 : ∀ w ∈ wsJ00, w ∈ wsJ0_charAt_5068e := by decide +kernel
  obtain ⟨⟨hc, hx, g2⟩, h⟩ := xgd_of h
  cases h
  have hv := hx.2.2 x1.toNat (by omega)
  rw [Int.toNat_of_nonneg g2.1] at hv
  refine lv_aload_n X.1.1 X.1.2.1 dJ0_charAt_5068e_0 rfl (lv_at hl 0 rfl) ?_
  refine y_callVi0 X hG hS (cd_J0_isLatin1 l t u ha.1 hc) (cwV 0 X.1.2.2.2.2 gJ0_charAt_5068e_J0_isLatin1_aae02 rfl rfl rfl hd_J0_isLatin1_aae02 ⟨Nat.le_of_ble_eq_true rfl, Nat.le_of_ble_eq_true rfl⟩) ha.1 ha.2 rfl (by decide) (by rfl) hl.1 (Nat.le_of_ble_eq_true rfl) dJ0_charAt_5068e_1 ⟨by decide, by decide⟩ rfl (fun H locs hG hS => ?_)
  refine lv_if_eq (tgt := 16) X.1.1 X.1.2.1 dJ0_charAt_5068e_4 (by decide) (fun c1 => absurd c1 (by decide)) (fun _ => ?_)
  refine lv_aload_n X.1.1 X.1.2.1 dJ0_charAt_5068e_7 rfl (lv_at hl 0 rfl) ?_
  refine y_getr X hG 0 0 289 1 (inC := iJ0) rfl ha.1 s289 ⟨by decide, by decide, by decide, rfl, by decide, by decide⟩ (by decide +kernel) dJ0_charAt_5068e_8 ?_
  refine lv_iload_n X.1.1 X.1.2.1 dJ0_charAt_5068e_11 rfl (lv_at hl 1 rfl) ?_
  refine x_callSi0 X hG hS (cd_J1_charAt l t x1 u hb hx g2) (va_cwS 2 X.1.2.2.2.2 gJ0_charAt_5068e_J1_charAt_3b067 rfl rfl rfl hds_J1_charAt_3b067 ⟨Nat.le_of_ble_eq_true rfl, Nat.le_of_ble_eq_true rfl⟩) (by rfl) hl.1 (Nat.le_of_ble_eq_true rfl) dJ0_charAt_5068e_12 ⟨by decide, by decide⟩ rfl (fun H locs hG hS => ?_)
  exact hret _ _ _ _ dJ0_charAt_5068e_15 (char_n hv.1 hv.2) hG hS
