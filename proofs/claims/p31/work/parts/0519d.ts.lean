/-! a text made of the StringBuilder's bytes: readers that change nothing, Arrays.copyOfRange, String's constructor, toString -/
abbrev nF : Nat → Prop := fun _ => False
theorem x_ofW0 {l : Launch} {y : MethodName} {ws ws' : List Cond} {rm : Room} {t : gP} {As : List Value} {Pb : State → Prop} {mc ms : Nat} {cc : ByteArray} {maxL : Nat} {ret : Option FieldType} {Qc : Array Value → State → Outcome → State → Prop} {A : Nat → Prop} (hPb : ∀ U, Pb U → gS t U U.heap ∧ va_K t.1 vwCl (gT t) U ∧ t.2.2.2 ≤ U.heap.size) (hy : plainName y.cls = true) (hw : ws = Cond.code y cc maxL ret :: ws') (hL : (lg_sl As).length ≤ maxL)
    (body : ∀ p e s m below meth c, xC t p s m As.toArray c cc ws y.cls maxL → meth.sig.returnType = ret → meth.locks = false → meth.name = y.name → Pb s → ∀ ls, lv_has ls maxL (lv_args 0 As) → W p l e rm s m As.toArray below meth c s.heap [] 0 0 (MQ below Qc As.toArray s mc ms A) (F0 m 0 ls [])) :
    Met l y ws rm (va_Pc As Pb) Qc mc ms A := by
  refine Met.ofW (cc := cc) (maxL := maxL) (ret := ret) hy hw ?_
  intro p e s m args below meth c s₁ B hml hv
  obtain ⟨rfl, hB⟩ := hv
  obtain ⟨hB1, hB2, hB4⟩ := hPb s hB
  have hts := atoms_spec (ws := ws) B.pre
  have hown : s.vm.findClass y.cls = some m.cls := findClass_of_methodNamed B.named
  have hl := lv_entry As (n := maxL) hL
  rw [lg_entry_eq]
  exact body p e s m below meth c ⟨⟨B.exec, B.bytes, hml, hown, hts⟩, hB2, hB1, hB4⟩ B.returns B.notSynchronized (name_of_methodNamed B.named B.method).1 hB _ hl
theorem gB.pb {t : gP} {u : uS} : ∀ U, gB t u U → gS t U U.heap ∧ va_K t.1 vwCl (gT t) U ∧ t.2.2.2 ≤ U.heap.size := fun U h => ⟨h.1, h.2.1, h.2.2.2⟩
/-- cells that stand are a picture -/
theorem G.ofP {t : gP} {u : uS} {H0 H : Heap} (h : G t u H0) (hP : va_P t.1 vwCl (gL t u) H) : G t u H := ⟨fun k hk => hP _ _ (gL_at hk), h.2⟩
theorem arrV_cg {cA : ClassId} {n : Nat} {f g : Nat → Value} (h : ∀ j, j < n → f j = g j) : arrV cA n f = arrV cA n g := by
  unfold arrV
  congr 2
  funext j
  exact h j.val j.isLt
abbrev rJ5_getValue : Room := { frames := 0, cells := 0, slots := 0, locals := 0 }
set_option maxRecDepth 100000 in
set_option maxHeartbeats 8000000 in
theorem k_getValue (l : Launch) (t : gP) (u : uS) : Met l yJ5_getValue_6d5f1 wsJ5_getValue_6d5f1 rJ5_getValue (va_Pc [.ref (t.2.2.1 37)] (gB t u)) (va_Qr (fun (_ : Unit) => True) (fun _ a _ => a = t.2.2.1 38) nF) 0 0 nF := by
  refine x_ofW0 (t := t) (cc := cJ5_getValue_6d5f1) (maxL := 1) (ret := some (.array .byte)) gB.pb (by decide) rfl (Nat.le_of_ble_eq_true rfl) ?_
  intro p e s m below meth c X hr hlk hm hB ls hl
  replace X : xC t p s m _ c cJ5_getValue_6d5f1 wsJ5_getValue_6d5f1 RJ5 1 := X
  have hS : va_S nF s.heap s.heap [] := va_S.rf
  replace hl : lv_has ls 1 [(0, .ref (t.2.2.1 37))] := hl
  have iJ4 : ∀ w ∈ wsJ40, w ∈ wsJ5_getValue_6d5f1 := by decide +kernel
  refine lv_aload_n X.1.1 X.1.2.1 dJ5_getValue_6d5f1_0 rfl (lv_at hl 0 rfl) ?_
  refine x_getr X hB.2.2.1 1 0 37 1 (inC := iJ4) rfl (by decide) (by decide) ⟨by decide, by decide, by decide, rfl, by decide, by decide⟩ (x_w 1 rfl) dJ5_getValue_6d5f1_1 ?_
  exact W.aret X.1.1 X.1.2.1 hr (Or.inr ⟨_, rfl⟩) (Or.inr ⟨_, rfl⟩) (fun T hT hW => ⟨⟨(), _, rfl, trivial, rfl⟩, hS.F hT⟩) hS.2.2 dJ5_getValue_6d5f1_4 hlk
set_option maxRecDepth 100000 in
set_option maxHeartbeats 8000000 in
theorem k_length5 (l : Launch) (t : gP) (u : uS) : Met l yJ5_length_8abf5 wsJ5_length_8abf5 rJ5_getValue (va_Pc [.ref (t.2.2.1 37)] (gB t u)) (va_Qi (fun (r : Int32) (_ : Unit) => r = iI (u 37 3)) (fun _ _ => True) nF) 0 0 nF := by
  refine x_ofW0 (t := t) (cc := cJ5_length_8abf5) (maxL := 1) (ret := some .int) gB.pb (by decide) rfl (Nat.le_of_ble_eq_true rfl) ?_
  intro p e s m below meth c X hr hlk hm hB ls hl
  replace X : xC t p s m _ c cJ5_length_8abf5 wsJ5_length_8abf5 RJ5 1 := X
  have hS : va_S nF s.heap s.heap [] := va_S.rf
  replace hl : lv_has ls 1 [(0, .ref (t.2.2.1 37))] := hl
  have iJ4 : ∀ w ∈ wsJ40, w ∈ wsJ5_length_8abf5 := by decide +kernel
  refine lv_aload_n X.1.1 X.1.2.1 dJ5_length_8abf5_0 rfl (lv_at hl 0 rfl) ?_
  refine x_geti X hB.2.2.1 1 3 37 3 (inC := iJ4) rfl (by decide) (by decide) ⟨by decide, by decide, by decide, rfl, rfl⟩ (x_w 1 rfl) dJ5_length_8abf5_1 ?_
  exact W.zret X.1.1 X.1.2.1 hr rfl (fun T hT hW => ⟨⟨_, (), rfl, rfl, trivial⟩, hS.F hT⟩) hS.2.2 dJ5_length_8abf5_4 hlk
abbrev rJ4_lengthK : Room := { frames := 1, cells := 0, slots := 0, locals := 30 }
set_option maxRecDepth 100000 in
set_option maxHeartbeats 8000000 in
theorem k_length4 (l : Launch) (t : gP) (u : uS) : Met l yJ4_length_8abf5 wsJ4_length_8abf5 rJ4_lengthK (va_Pc [.ref (t.2.2.1 37)] (gB t u)) (va_Qi (fun (r : Int32) (_ : Unit) => r = iI (u 37 3)) (fun _ _ => True) nF) 0 0 nF := by
  refine x_ofW0 (t := t) (cc := cJ4_length_8abf5) (maxL := 1) (ret := some .int) gB.pb (by decide) rfl (Nat.le_of_ble_eq_true rfl) ?_
  intro p e s m below meth c X hr hlk hm hB ls hl
  replace X : xC t p s m _ c cJ4_length_8abf5 wsJ4_length_8abf5 RJ4 1 := X
  have hS : va_S nF s.heap s.heap [] := va_S.rf
  have hS2 : va_S (gA t) s.heap s.heap [] := va_S.rf
  replace hl : lv_has ls 1 [(0, .ref (t.2.2.1 37))] := hl
  refine lv_aload_n X.1.1 X.1.2.1 dJ4_length_8abf5_0 rfl (lv_at hl 0 rfl) ?_
  refine va_calli (va_runSU (As := []) (rest := []) (X.2.1.1 1 (RJ4, TJ4, 4) rfl).2 X.1 (k_length5 l t u) (va_cwSU 0 X.1.2.2.2.2 gJ4_length_8abf5_J5_length_8abf5_s343 rfl rfl rfl ⟨by decide, hd_J5_length_8abf5.2.2.2⟩ ⟨Nat.le_of_ble_eq_true rfl, Nat.le_of_ble_eq_true rfl⟩) ⟨x_blind, x_sbrecv X hB.2.2.1, x_pre X hB.2.2.1 hS2⟩ rfl rfl hl.1 rfl (lv_room (Nat.le_of_ble_eq_true rfl)) dJ4_length_8abf5_1 ⟨by decide, by decide⟩) hS (fun q _ h => h) (fun q h => h) (fun r2 u2 U H1 locs1 hU hvm hw hB2 hz1 hk1 hS1 => ?_)
  subst hw
  exact W.zret X.1.1 X.1.2.1 hr rfl (fun T hT hW => ⟨⟨_, (), rfl, rfl, trivial⟩, hS1.F hT⟩) hS1.2.2 dJ4_length_8abf5_4 hlk
set_option maxRecDepth 100000 in
set_option maxHeartbeats 8000000 in
theorem k_isLatin1 (l : Launch) (t : gP) (u : uS) (hc : u 37 1 = 0) : Met l yJ5_isLatin1_aae02 wsJ5_isLatin1_aae02 rJ5_getValue (va_Pc [.ref (t.2.2.1 37)] (gB t u)) (va_Qi (fun (r : Int32) (_ : Unit) => r = iI 1) (fun _ _ => True) nF) 0 0 nF := by
  refine x_ofW0 (t := t) (cc := cJ5_isLatin1_aae02) (maxL := 1) (ret := some .boolean) gB.pb (by decide) rfl (Nat.le_of_ble_eq_true rfl) ?_
  intro p e s m below meth c X hr hlk hm hB ls hl
  replace X : xC t p s m _ c cJ5_isLatin1_aae02 wsJ5_isLatin1_aae02 RJ5 1 := X
  have hS : va_S nF s.heap s.heap [] := va_S.rf
  have hS2 : va_S (gA t) s.heap s.heap [] := va_S.rf
  replace hl : lv_has ls 1 [(0, .ref (t.2.2.1 37))] := hl
  have iJ4 : ∀ w ∈ wsJ40, w ∈ wsJ5_isLatin1_aae02 := by decide +kernel
  refine va_gets X.1.1 X.1.2.1 X.2.2.1.2.2.1.1 hS2 X.1.2.2.2.1 (X.1.2.2.2.2 _ (x_w 1 rfl)) (fun _ h9 => h9) dJ5_isLatin1_aae02_0 ?_
  refine lv_if_eq (tgt := 17) X.1.1 X.1.2.1 dJ5_isLatin1_aae02_3 (by decide) (fun c1 => absurd c1 (by decide)) (fun _ => ?_)
  refine lv_aload_n X.1.1 X.1.2.1 dJ5_isLatin1_aae02_6 rfl (lv_at hl 0 rfl) ?_
  refine x_geti X hB.2.2.1 1 1 37 1 (inC := iJ4) rfl (by decide) (by decide) ⟨by decide, by decide, by decide, rfl, rfl⟩ (x_w 2 rfl) dJ5_isLatin1_aae02_7 ?_
  rw [hc]
  refine lv_if_ne (tgt := 17) X.1.1 X.1.2.1 dJ5_isLatin1_aae02_10 (by decide) (fun c1 => absurd (by decide) c1) (fun _ => ?_)
  refine x_iconst X dJ5_isLatin1_aae02_13 ?_
  refine lv_goto (tgt := 18) X.1.1 X.1.2.1 dJ5_isLatin1_aae02_14 (by decide) ?_
  exact W.zret X.1.1 X.1.2.1 hr (by decide) (fun T hT hW => ⟨⟨_, (), rfl, rfl, trivial⟩, hS.F hT⟩) hS.2.2 dJ5_isLatin1_aae02_18 hlk
/-- the bytes that the text gets -/
def tsC (t : gP) (u : uS) (n : Nat) : Cell := vp_cell (t.2.1 102) (n, .inl (fun j => if j < n then iI (u 38 (j : Int)) else 0))
def gBz (t : gP) (u : uS) (sz : Nat) : State → Prop := fun U => gB t u U ∧ U.heap.size = sz
theorem gBz.calling {t : gP} {u : uS} {sz : Nat} (a : Array Value) (U : State) (g : JFrame) (mk : MethodId) (h : gBz t u sz U) : gBz t u sz (U.calling g mk a) := ⟨h.1.calling a U g mk, h.2⟩
theorem z_blind {t : gP} {As : List Value} {u : uS} {sz : Nat} : FrameBlind (va_Pc As (gBz t u sz)) := fun a U g mk q => ⟨q.1, q.2.calling a U g mk⟩
abbrev rJ7_checkLength : Room := { frames := 0, cells := 0, slots := 0, locals := 0 }
set_option maxRecDepth 100000 in
set_option maxHeartbeats 8000000 in
theorem k_checkLength (l : Launch) (t : gP) (u : uS) (n : Int) (hn : 0 ≤ n ∧ n < 2147483648) : Met l yJ7_checkLength_df160 wsJ7_checkLength_df160 rJ7_checkLength (va_Pc [.int (iI 0), .int (iI n)] (gB t u)) (va_Qv (fun (_ : Unit) => True) (fun _ _ => True) nF) 0 0 nF := by
  refine x_ofW0 (t := t) (cc := cJ7_checkLength_df160) (maxL := 2) (ret := none) gB.pb (by decide) rfl (Nat.le_of_ble_eq_true rfl) ?_
  intro p e s m below meth c X hr hlk hm hB ls hl
  replace X : xC t p s m _ c cJ7_checkLength_df160 wsJ7_checkLength_df160 RJ7 2 := X
  have hS : va_S nF s.heap s.heap [] := va_S.rf
  replace hl : lv_has ls 2 [(0, .int (iI 0)), (1, .int (iI n))] := hl
  refine lv_iload_n X.1.1 X.1.2.1 dJ7_checkLength_df160_0 rfl (lv_at hl 1 rfl) ?_
  refine lv_iload_n X.1.1 X.1.2.1 dJ7_checkLength_df160_1 rfl (lv_at hl 0 rfl) ?_
  refine x_icmp_ge (tgt := 37) X ⟨by omega, by omega⟩ ⟨by decide, by decide⟩ dJ7_checkLength_df160_2 (by decide) (fun _ => ?_) (fun q => absurd hn.1 q)
  exact W.vret X.1.1 X.1.2.1 hr (fun T hT hW => ⟨⟨(), rfl, trivial, trivial⟩, hS.F hT⟩) hS.2.2 dJ7_checkLength_df160_37 hlk
theorem hdk_checkLength : yJ7_checkLength_df160.cls ≠ "java/lang/invoke/MethodHandle" ∧ yJ7_checkLength_df160.cls ≠ "java/lang/invoke/VarHandle" ∧ (parseMethodDescriptor yJ7_checkLength_df160.desc).map (fun d => d.parameters.length) = some 2 := by decide +kernel
theorem byte_fit {x : Int} (h : -128 ≤ x ∧ x < 128) : fits .byte (.int (iI x)) = true := by
  have hxv := iI_t (x := x) ⟨by omega, by omega⟩
  show (decide (-128 ≤ iI x) && decide (iI x ≤ 127)) = true
  rw [Bool.and_eq_true, decide_eq_true_eq, decide_eq_true_eq]
  exact ⟨Int32.le_iff_toInt_le.mpr (by rw [hxv]; exact (by omega : (-128 : Int) ≤ x)), Int32.le_iff_toInt_le.mpr (by rw [hxv]; exact (by omega : x ≤ (127 : Int)))⟩
abbrev zF (t : gP) (sz : Nat) : Nat → Prop := fun q => sz ≤ q ∨ q = t.2.2.1 38
def w38 (t : gP) (u : uS) : va_W := [(t.2.2.1 38, .inl (t.2.1 102, ((u 1000 1).toNat, .inl (fun j => iI (u 38 (j : Int))))))]
theorem w38_P {t : gP} {u : uS} {H : Heap} (hG : G t u H) : va_P t.1 vwCl (w38 t u) H := fun k q hq => by
  have hk : k = 0 := by
    have := (List.getElem?_eq_some_iff.mp hq).1
    unfold w38 at this
    simp only [List.length_singleton] at this; omega
  subst hk
  cases hq
  exact hG.P (gi t 38) _ gL_sb
theorem w38_D {t : gP} {u : uS} {sz : Nat} : va_D (zF t sz) (w38 t u) := by
  refine ⟨fun i j p q hp hq _ => ?_, fun k q hq => ?_⟩
  · have h1 := (List.getElem?_eq_some_iff.mp hp).1
    have h2 := (List.getElem?_eq_some_iff.mp hq).1
    unfold w38 at h1 h2
    simp only [List.length_singleton] at h1 h2; omega
  · have hk : k = 0 := by
      have := (List.getElem?_eq_some_iff.mp hq).1
      unfold w38 at this
      simp only [List.length_singleton] at this; omega
    subst hk
    cases hq
    exact Or.inr rfl
abbrev tsQ (t : gP) (u : uS) (n sz : Nat) : Array Value → State → Outcome → State → Prop := va_Qr (fun (_ : Unit) => True) (fun _ a U => (sz ≤ a ∧ va_at t.1 vwCl (gad t 38, gE t u 38) U.heap) ∧ U.heap[a]? = some (tsC t u n)) (zF t sz)
abbrev rJ7_copyOfRangeByte : Room := { frames := 1, cells := 1, slots := 600, locals := 60 }
set_option maxRecDepth 100000 in
set_option maxHeartbeats 8000000 in
theorem k_copyOfRangeByte (l : Launch) (t : gP) (u : uS) (n sz : Nat) (h0 : sbOk u) (hn : (n : Int) ≤ u 1000 1 ∧ n ≤ 600) : Met l yJ7_copyOfRangeByte_39247 wsJ7_copyOfRangeByte_39247 rJ7_copyOfRangeByte (va_Pc [.ref (t.2.2.1 38), .int (iI 0), .int (iI (n : Int))] (gBz t u sz)) (tsQ t u n sz) 1 600 (zF t sz) := by
  refine x_ofW0 (t := t) (cc := cJ7_copyOfRangeByte_39247) (maxL := 5) (ret := some (.array .byte)) (fun U h => gB.pb U h.1) (by decide) rfl (Nat.le_of_ble_eq_true rfl) ?_
  intro p e s m below meth c X hr hlk hm hB ls hl
  obtain ⟨hB, hsz⟩ := hB
  subst hsz
  replace X : xC t p s m _ c cJ7_copyOfRangeByte_39247 wsJ7_copyOfRangeByte_39247 RJ7 5 := X
  have hG := hB.2.2.1
  have hS2 : va_S (gA t) s.heap s.heap [] := va_S.rf
  have hS : va_S (zF t s.heap.size) s.heap s.heap [] := va_S.rf
  replace hl : lv_has ls 5 [(0, .ref (t.2.2.1 38)), (1, .int (iI 0)), (2, .int (iI (n : Int)))] := hl
  generalize ([.ref (t.2.2.1 38), .int (iI 0), .int (iI (n : Int))] : List Value).toArray = args at X ⊢
  obtain ⟨h0a, h0b, h0c⟩ := h0
  have hx : InR (n : Int) := ⟨by omega, by omega⟩
  refine lv_iload_n X.1.1 X.1.2.1 dJ7_copyOfRangeByte_39247_0 rfl (lv_at hl 1 rfl) ?_
  refine lv_iload_n X.1.1 X.1.2.1 dJ7_copyOfRangeByte_39247_1 rfl (lv_at hl 2 rfl) ?_
  refine va_callv (va_runS (As := [.int (iI 0), .int (iI (n : Int))]) (rest := []) X.1 (k_checkLength l t u n ⟨by omega, by omega⟩) (va_cwS 2 X.1.2.2.2.2 gJ7_copyOfRangeByte_39247_J7_checkLength_df160 rfl rfl rfl hdk_checkLength ⟨Nat.le_of_ble_eq_true rfl, Nat.le_of_ble_eq_true rfl⟩) ⟨x_blind, x_pre X hG hS2⟩ rfl rfl hl.1 rfl (lv_room (Nat.le_of_ble_eq_true rfl)) dJ7_copyOfRangeByte_39247_2 ⟨by decide, by decide⟩) hS (fun q _ h => h.elim) (fun q h => h.elim) (fun u2 U H1 locs1 hU hvm hw hB2 hz1 hk1 hS1 => ?_)
  have hG1 : G t u H1 := hG.ofP (hG.P.kept (fun k x hx => hk1 x.1 ((hG.P k x hx).lt) (fun h => h)))
  refine lv_iload_n X.1.1 X.1.2.1 dJ7_copyOfRangeByte_39247_5 rfl (lv_at hl 2 rfl) ?_
  refine lv_iload_n X.1.1 X.1.2.1 dJ7_copyOfRangeByte_39247_6 rfl (lv_at hl 1 rfl) ?_
  refine x_isub X dJ7_copyOfRangeByte_39247_7 ?_
  rw [show (n : Int) - 0 = n by omega]
  refine lv_istore_n (lv' := [(3, .int (iI (n : Int))), (0, .ref (t.2.2.1 38)), (1, .int (iI 0)), (2, .int (iI (n : Int)))]) X.1.1 X.1.2.1 dJ7_copyOfRangeByte_39247_8 rfl hl (by decide) rfl (fun ls hl => ?_)
  refine lv_iload_n X.1.1 X.1.2.1 dJ7_copyOfRangeByte_39247_9 rfl (lv_at hl 0 rfl) ?_
  refine va_newa (D := t.1) (cl := vwCl) (atype := .byte) (ty := .byte) (ws := w38 t u) (N' := n) (a0 := (n, .inl (fun _ => 0))) (A := zF t s.heap.size) X.1.1 X.1.2.1 (X.1.2.2.2.2 _ (x_w 1 rfl)) rfl X.2.1 (w38_P hG1) w38_D hS1 (fun q hq => Or.inl hq) (fun cA => rfl) (fun q => by have := (iI_lt (b := 0) hx (by decide)).mp q; omega) ((iI_cl hx).trans (by omega)) (by show n * 1 ≤ _; omega) (by decide) (by show 0 + n ≤ 600; omega) dJ7_copyOfRangeByte_39247_10 (fun q cA H2 hK hP hD hS3 => ?_)
  have hcA : cA = t.2.1 102 := by
    have q1 := (hK.2 7 (cA, .byte) rfl).2
    have q2 := (hK.2 2 (t.2.1 102, .byte) rfl).2
    exact Option.some.inj (Eq.trans (Eq.symm q1) q2)
  subst hcA
  refine lv_astore (lv' := [(4, .ref q), (3, .int (iI (n : Int))), (0, .ref (t.2.2.1 38)), (1, .int (iI 0)), (2, .int (iI (n : Int)))]) X.1.1 X.1.2.1 dJ7_copyOfRangeByte_39247_12 hl (by decide) rfl (fun ls hl => ?_)
  refine lv_aload_n X.1.1 X.1.2.1 dJ7_copyOfRangeByte_39247_14 rfl (lv_at hl 2 rfl) ?_
  refine lv_iload_n X.1.1 X.1.2.1 dJ7_copyOfRangeByte_39247_15 rfl (lv_at hl 3 rfl) ?_
  refine lv_aload X.1.1 X.1.2.1 dJ7_copyOfRangeByte_39247_16 (lv_at hl 0 rfl) ?_
  refine x_iconst X dJ7_copyOfRangeByte_39247_18 ?_
  refine lv_aload_n X.1.1 X.1.2.1 dJ7_copyOfRangeByte_39247_19 rfl (lv_at hl 2 rfl) ?_
  have e38 : (w38 t u ++ [(q, .inl (t.2.1 102, (n, .inl (fun _ => 0))))])[0]? = some (t.2.2.1 38, .inl (t.2.1 102, (u 1000 1).toNat, .inl (fun j => iI (u 38 (j : Int))))) := rfl
  have eq : (w38 t u ++ [(q, .inl (t.2.1 102, (n, .inl (fun _ => 0))))])[1]? = some (q, (.inl (t.2.1 102, (n, .inl (fun _ => 0))) : va_E)) := rfl
  refine va_alen (D := t.1) (cl := vwCl) X.1.1 X.1.2.1 X.2.1 hP 0 2 e38 rfl ((iI_nat _).trans (by rw [Int.toNat_of_nonneg h0a])) dJ7_copyOfRangeByte_39247_20 ?_
  refine lv_iload_n X.1.1 X.1.2.1 dJ7_copyOfRangeByte_39247_21 rfl (lv_at hl 3 rfl) ?_
  refine x_isub X dJ7_copyOfRangeByte_39247_22 ?_
  rw [show u 1000 1 - 0 = u 1000 1 by omega]
  refine lv_iload_n X.1.1 X.1.2.1 dJ7_copyOfRangeByte_39247_23 rfl (lv_at hl 1 rfl) ?_
  refine x_mmin (R := rJ7_copyOfRangeByte) X ⟨by omega, by omega⟩ hx hl.1 (x_w 2 rfl) (x_w 3 rfl) (x_w 4 rfl) (x_w 5 rfl) (by decide) (by decide) dJ7_copyOfRangeByte_39247_24 (Nat.le_of_ble_eq_true rfl) ⟨by decide, by show 0 + n ≤ 600; omega⟩ ?_
  have hmin : minI (u 1000 1) n = n := by unfold minI; split <;> omega
  rw [hmin]
  have hz : ¬ iI 0 < 0 := by decide
  have hc0 : (iI 0).toNatClampNeg = 0 := by decide
  have hw9 : nativeFrameWords "java/lang/System" "arraycopy" 5 + 11 ≤ 52 := by decide
  refine va_copyi (D := t.1) (cl := vwCl) (f := fun j => iI (u 38 (j : Int))) (g := fun _ => 0) (ty := .byte) X.1.1 X.1.2.1 (X.1.2.2.1.trans hl.1.symm) X.1.2.2.2.1 (X.1.2.2.2.2 _ (x_w 6 rfl)) (X.1.2.2.2.2 _ (x_w 7 rfl)) (X.1.2.2.2.2 _ (x_w 8 rfl)) (X.1.2.2.2.2 _ (x_w 9 rfl)) X.2.1 hP hD hS3 0 1 2 2 e38 eq rfl rfl rfl hz hz (fun q => by have := (iI_lt (b := 0) hx (by decide)).mp q; omega) (by rw [iI_cl hx, hc0]; omega) (by rw [iI_cl hx, hc0]; omega) (fun i hi => ?_) (by decide) (by show _ + (nativeFrameWords "java/lang/System" "arraycopy" 5 + 11) ≤ 60; simp only [List.map_nil, List.sum_nil]; omega) dJ7_copyOfRangeByte_39247_27 (fun H3 locs3 hP2 hD2 hS4 => ?_)
  · rw [iI_cl hx] at hi
    rw [hc0, Nat.zero_add]
    exact byte_fit (h0c i (by omega))
  · refine lv_aload X.1.1 X.1.2.1 dJ7_copyOfRangeByte_39247_30 (lv_at hl 0 rfl) ?_
    refine W.widen (k := 1) (n := 600) (by decide) (by show 0 + n ≤ 600; omega) ?_
    have hq : s.heap.size ≤ q := by
      rcases hD.2 1 _ eq with h | h
      · exact h
      · have := hD.1 0 1 _ _ e38 eq h.symm
        omega
    have hcell : H3[q]? = some (tsC t u n) := by
      have h9 := hP2 1 _ rfl
      have hf : va_cpy (fun j : Nat => iI (u 38 (j : Int))) (fun _ => (0 : Int32)) (iI 0).toNatClampNeg (iI 0).toNatClampNeg (iI (n : Int)).toNatClampNeg = fun j : Nat => if j < n then iI (u 38 (j : Int)) else 0 := by
        rw [iI_cl hx, hc0]
        funext j
        unfold va_cpy
        by_cases hj : j < n
        · rw [if_pos ⟨Nat.zero_le _, by omega⟩, if_pos hj, Nat.zero_add, Nat.sub_zero]
        · rw [if_neg (fun q => hj (by omega)), if_neg hj]
      rw [hf] at h9
      exact h9
    have h38 : va_at t.1 vwCl (gad t 38, gE t u 38) H3 := by
      have h9 := hP2 0 _ rfl
      have e9 := gL_sb (t := t) (u := u)
      rw [gL_at al38] at e9
      rw [Option.some.inj e9]
      exact h9
    exact W.aret X.1.1 X.1.2.1 hr (Or.inr ⟨_, rfl⟩) (Or.inr ⟨_, rfl⟩) (fun T hT hW => ⟨⟨(), q, rfl, trivial, ⟨hq, (by rw [hT]; exact h38)⟩, (by rw [hT]; exact hcell)⟩, hS4.F hT⟩) hS4.2.2 dJ7_copyOfRangeByte_39247_32 hlk
theorem hdk_copyOfRangeByte : yJ7_copyOfRangeByte_39247.cls ≠ "java/lang/invoke/MethodHandle" ∧ yJ7_copyOfRangeByte_39247.cls ≠ "java/lang/invoke/VarHandle" ∧ (parseMethodDescriptor yJ7_copyOfRangeByte_39247.desc).map (fun d => d.parameters.length) = some 3 := by decide +kernel
abbrev rJ7_copyOfRange : Room := { frames := 2, cells := 1, slots := 600, locals := 90 }
set_option maxRecDepth 100000 in
set_option maxHeartbeats 8000000 in
theorem k_copyOfRange (l : Launch) (t : gP) (u : uS) (n sz : Nat) (h0 : sbOk u) (hn : (n : Int) ≤ u 1000 1 ∧ n ≤ 600) : Met l yJ7_copyOfRange_39247 wsJ7_copyOfRange_39247 rJ7_copyOfRange (va_Pc [.ref (t.2.2.1 38), .int (iI 0), .int (iI (n : Int))] (gBz t u sz)) (tsQ t u n sz) 1 600 (zF t sz) := by
  refine x_ofW0 (t := t) (cc := cJ7_copyOfRange_39247) (maxL := 3) (ret := some (.array .byte)) (fun U h => gB.pb U h.1) (by decide) rfl (Nat.le_of_ble_eq_true rfl) ?_
  intro p e s m below meth c X hr hlk hm hB ls hl
  have hBz := hB
  obtain ⟨hB, hsz⟩ := hB
  subst hsz
  replace X : xC t p s m _ c cJ7_copyOfRange_39247 wsJ7_copyOfRange_39247 RJ7 3 := X
  have hG := hB.2.2.1
  have hS : va_S (zF t s.heap.size) s.heap s.heap [] := va_S.rf
  replace hl : lv_has ls 3 [(0, .ref (t.2.2.1 38)), (1, .int (iI 0)), (2, .int (iI (n : Int)))] := hl
  generalize hargs : ([.ref (t.2.2.1 38), .int (iI 0), .int (iI (n : Int))] : List Value).toArray = args at X ⊢
  obtain ⟨h0a, h0b, h0c⟩ := id h0
  have hx : InR (n : Int) := ⟨by omega, by omega⟩
  have hx1 : InR (u 1000 1) := ⟨by omega, by omega⟩
  refine lv_iload_n X.1.1 X.1.2.1 dJ7_copyOfRange_39247_0 rfl (lv_at hl 1 rfl) ?_
  refine x_if_ne (tgt := 10) X ⟨by decide, by decide⟩ dJ7_copyOfRange_39247_1 (by decide) (fun q => absurd rfl q) (fun _ => ?_)
  refine lv_iload_n X.1.1 X.1.2.1 dJ7_copyOfRange_39247_4 rfl (lv_at hl 2 rfl) ?_
  refine lv_aload_n X.1.1 X.1.2.1 dJ7_copyOfRange_39247_5 rfl (lv_at hl 0 rfl) ?_
  refine x_sblen X hG ⟨h0a, by omega⟩ dJ7_copyOfRange_39247_6 ?_
  refine x_icmp_eq (tgt := 17) X hx hx1 dJ7_copyOfRange_39247_7 (by decide) (fun ceq => ?_) (fun _ => ?_)
  · refine lv_aload_n X.1.1 X.1.2.1 dJ7_copyOfRange_39247_17 rfl (lv_at hl 0 rfl) ?_
    have hnm : s.vm.findClass "[B" = some (t.2.1 102) := (X.2.1.2 2 (t.2.1 102, .byte) rfl).2
    refine va_clone (D := t.1) (cl := vwCl) (A := zF t s.heap.size) (x := ((u 1000 1).toNat, .inl (fun j => iI (u 38 (j : Int))))) X.1.1 X.1.2.1 (X.1.2.2.1.trans hl.1.symm) X.1.2.2.2.1 (X.1.2.2.2.2 _ (x_w 1 rfl)) (X.1.2.2.2.2 _ (x_w 2 rfl)) (X.1.2.2.2.2 _ (x_w 3 rfl)) (X.1.2.2.2.2 _ (x_w 4 rfl)) (X.1.2.2.2.2 _ (x_w 5 rfl)) X.2.2.1.cl X.2.1 (w38_P hG) w38_D hS (fun q hq => Or.inl hq) 0 2 rfl rfl hnm (fun i v hv => ?_) (by decide) (by decide) (by decide) (by show 0 + (u 1000 1).toNat ≤ 600; omega) dJ7_copyOfRange_39247_18 (fun q H1 hK hP hD hS1 => ?_)
    · rw [vp_cell_i] at hv
      by_cases hi : i < (u 1000 1).toNat
      · rw [arrV_read _ _ hi] at hv
        cases hv
        exact byte_fit (h0c i hi)
      · rw [Array.getElem?_eq_none (by rw [arrV_size]; omega)] at hv
        cases hv
    · have eq : (w38 t u ++ [(q, .inl (t.2.1 102, ((u 1000 1).toNat, .inl (fun j => iI (u 38 (j : Int))))))])[1]? = some (q, (.inl (t.2.1 102, ((u 1000 1).toNat, .inl (fun j => iI (u 38 (j : Int))))) : va_E)) := rfl
      refine va_castA (D := t.1) (cl := vwCl) X.1.1 X.1.2.1 X.1.2.2.2.1 (X.1.2.2.2.2 _ (x_w 6 rfl)) hP 1 eq hnm dJ7_copyOfRange_39247_21 ?_
      refine W.widen (k := 1) (n := 600) (by decide) (by show 0 + (u 1000 1).toNat ≤ 600; omega) ?_
      have hq : s.heap.size ≤ q := by
        rcases hD.2 1 _ eq with h | h
        · exact h
        · have := hD.1 0 1 _ _ rfl eq h.symm
          omega
      have hcell : H1[q]? = some (tsC t u n) := by
        have h9 : H1[q]? = some (vp_cell (t.2.1 102) ((u 1000 1).toNat, .inl (fun j => iI (u 38 (j : Int))))) := hP 1 _ eq
        rw [h9]
        unfold tsC
        rw [vp_cell_i, vp_cell_i, show (u 1000 1).toNat = n by omega]
        congr 1
        refine arrV_cg (fun j hj => ?_)
        rw [if_pos hj]
      have h38 : va_at t.1 vwCl (gad t 38, gE t u 38) H1 := by
        have h9 := hP 0 _ rfl
        have e9 := gL_sb (t := t) (u := u)
        rw [gL_at al38] at e9
        rw [Option.some.inj e9]
        exact h9
      exact W.aret X.1.1 X.1.2.1 hr (Or.inr ⟨_, rfl⟩) (Or.inr ⟨_, rfl⟩) (fun T hT hW => ⟨⟨(), q, rfl, trivial, ⟨hq, (by rw [hT]; exact h38)⟩, (by rw [hT]; exact hcell)⟩, hS1.F hT⟩) hS1.2.2 dJ7_copyOfRange_39247_24 hlk
  · refine lv_aload_n X.1.1 X.1.2.1 dJ7_copyOfRange_39247_10 rfl (lv_at hl 0 rfl) ?_
    refine lv_iload_n X.1.1 X.1.2.1 dJ7_copyOfRange_39247_11 rfl (lv_at hl 1 rfl) ?_
    refine lv_iload_n X.1.1 X.1.2.1 dJ7_copyOfRange_39247_12 rfl (lv_at hl 2 rfl) ?_
    have hS2 : va_S (gA t) s.heap s.heap [] := va_S.rf
    refine va_callr (va_runS (As := [.ref (t.2.2.1 38), .int (iI 0), .int (iI (n : Int))]) (rest := []) X.1 (k_copyOfRangeByte l t u n s.heap.size h0 hn) (va_cwS 3 X.1.2.2.2.2 gJ7_copyOfRange_39247_J7_copyOfRangeByte_39247 rfl rfl rfl hdk_copyOfRangeByte ⟨Nat.le_of_ble_eq_true rfl, Nat.le_of_ble_eq_true rfl⟩) ⟨z_blind, fun U hU hW => ⟨rfl, (x_pre X hG hS2 (As := [.ref (t.2.2.1 38), .int (iI 0), .int (iI (n : Int))]) U hU hW).2, by rw [hU]⟩⟩ rfl rfl hl.1 rfl (lv_room (Nat.le_of_ble_eq_true rfl)) dJ7_copyOfRange_39247_13 ⟨by decide, by decide⟩) hS (fun q _ h => h) (fun q h => h) (fun u2 q U H1 locs1 hU hvm hw hB2 hz1 hk1 hS1 => ?_)
    obtain ⟨⟨hq, h38⟩, hcell⟩ := hB2
    rw [hU] at h38 hcell
    exact W.aret X.1.1 X.1.2.1 hr (Or.inr ⟨_, rfl⟩) (Or.inr ⟨_, rfl⟩) (fun T hT hW => ⟨⟨(), q, rfl, trivial, ⟨hq, (by rw [hT]; exact h38)⟩, (by rw [hT]; exact hcell)⟩, hS1.F hT⟩) hS1.2.2 dJ7_copyOfRange_39247_16 hlk
theorem hdk_copyOfRange : yJ7_copyOfRange_39247.cls ≠ "java/lang/invoke/MethodHandle" ∧ yJ7_copyOfRange_39247.cls ≠ "java/lang/invoke/VarHandle" ∧ (parseMethodDescriptor yJ7_copyOfRange_39247.desc).map (fun d => d.parameters.length) = some 3 := by decide +kernel
