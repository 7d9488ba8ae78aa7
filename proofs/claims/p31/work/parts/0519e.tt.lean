/-! String's constructors out of a StringBuilder; toString -/
/-- a call that makes the text (cells 289, 290) -/
abbrev xQta (t : gP) (u' : uS) : Array Value → State → Outcome → State → Prop := va_Qr (fun (u2 : uS) => u2 = u') (fun u2 a U => ∃ t', ag 39 289 291 t t' ∧ (al t' 289 ∧ al t' 290) ∧ a = t'.2.2.1 289 ∧ G t' u2 U.heap) (gA t)
def xMta (l : Launch) (y : MethodName) (ws : List Cond) (rm : Room) (t : gP) (As : List Value) (u : uS) (u' : uS) (mc ms : Nat) : Prop := Met l y ws rm (va_Pc As (gB t u)) (xQta t u') mc ms (gA t)
theorem y_callVta {p : Program} {l : Launch} {e : Env} {R : Room} {s : State} {m : MethodId} {args : Array Value} {below : List Frame} {meth : Method} {c : Code} {H : Heap} {locs : List Loc} {cells slots : Nat} {Q : State → Prop} {cc : ByteArray} {pc : Nat} {ls : Array Slot} {rest st0 : List Value} {t : gP} {u : uS} {ws : List Cond} {own : String} {nL : Nat} (X : xC t p s m args c cc ws own nL) (hG : G t u H) (hS : va_S (gA t) s.heap H locs) {y : MethodName} {ws2 : List Cond} {rm : Room} {As : List Value} {u' : uS} {mc ms n idx maxL : Nat} {bytes : ByteArray} {ret : Option FieldType}
    (hM : xMta l y ws2 rm t (.ref (t.2.2.1 37) :: As) u u' mc ms) (cw : CallW R s args own RJ4 idx y bytes maxL ret ws2 rm mc ms n) (hn : As.length = n) (hl : ls.size = nL) (hW : (rest.map fun v => v.category).sum ≤ 8) (hdg : decode cc pc = .ok (.invokevirtual idx, 3)) (hf : cells + mc ≤ R.cells ∧ slots + ms ≤ R.slots) (hst : st0 = As.reverse ++ .ref (t.2.2.1 37) :: rest)
    (kk : ∀ (t' : gP) (H1 : Heap) (locs1 : List Loc), ag 39 289 291 t t' → al t' 289 ∧ al t' 290 → G t' u' H1 → va_S (gA t') s.heap H1 locs1 → W p l e R s m args below meth c H1 locs1 (cells + mc) (slots + ms) Q (F0 m (pc + 3) ls (.ref (t'.2.2.1 289) :: rest))) : W p l e R s m args below meth c H locs cells slots Q (F0 m pc ls st0) := by
  refine va_callr (va_runV (As := As) (rest := rest) X.1 hM cw ⟨x_blind, x_sbrecv X hG, x_pre X hG hS⟩ rfl hn hl hst (lv_room hW) hdg hf) hS (fun q _ h => h) (fun q h => h) (fun u2 a U H1 locs1 hU hvm hw hB hz1 hk1 hS1 => ?_)
  subst hw
  obtain ⟨t', hag, hal, rfl, hB⟩ := hB
  exact kk t' H1 locs1 hag hal (by rw [← hU]; exact hB) (by rw [gA_ag hag]; exact hS1)
theorem x_ofWta {l : Launch} {y : MethodName} {ws ws' : List Cond} {rm : Room} {t : gP} {As : List Value} {u u' : uS} {mc ms : Nat} {cc : ByteArray} {maxL : Nat} {own : String} {rt : FieldType} (hrt : (∃ nm, rt = .object nm) ∨ ∃ e, rt = .array e) (hy : plainName y.cls = true) (hw : ws = Cond.code y cc maxL (some rt) :: ws') (ho : y.cls = own) (hL : (lg_sl As).length ≤ maxL)
    (body : ∀ p e s m args below meth c (Q : State → Prop), xC t p s m args c cc ws own maxL → (∀ (t' : gP) (H : Heap) (locs : List Loc) (ls : Array Slot) (pc k n : Nat), ag 39 289 291 t t' → k ≤ mc → n ≤ ms → decode cc pc = .ok (.areturn, 1) → al t' 289 ∧ al t' 290 → G t' u' H → va_S (gA t') s.heap H locs → W p l e rm s m args below meth c H locs k n Q (F0 m pc ls [.ref (t'.2.2.1 289)])) → xG p l e rm s m args below meth c t Q maxL 0 0 0 u (lv_args 0 As) []) : xMta l y ws rm t As u u' mc ms := by
  refine x_ofW (cc := cc) (maxL := maxL) (ret := (some rt)) hy hw hL ?_
  intro p e s m below meth c X hr hlk hG hS ls hl
  rw [ho] at X
  refine body p e s m _ below meth c _ X (fun t' H locs ls pc k n hag hk hnn hd hal hG hS => W.widen (k := mc) (n := ms) hk hnn ?_) _ _ ls hG hS hl
  rw [gA_ag hag] at hS
  exact W.aret X.1.1 X.1.2.1 hr hrt (Or.inr ⟨_, rfl⟩) (fun T hT hW => ⟨⟨u', _, rfl, rfl, t', hag, hal, rfl, (by rw [hT]; exact hG)⟩, hS.F hT⟩) hS.2.2 hd hlk
theorem hdk_getValue : yJ5_getValue_6d5f1.cls ≠ "java/lang/invoke/MethodHandle" ∧ yJ5_getValue_6d5f1.cls ≠ "java/lang/invoke/VarHandle" ∧ (parseMethodDescriptor yJ5_getValue_6d5f1.desc).map (fun d => d.parameters.length) = some 0 := by decide +kernel
theorem hdk_isLatin1 : yJ5_isLatin1_aae02.cls ≠ "java/lang/invoke/MethodHandle" ∧ yJ5_isLatin1_aae02.cls ≠ "java/lang/invoke/VarHandle" ∧ (parseMethodDescriptor yJ5_isLatin1_aae02.desc).map (fun d => d.parameters.length) = some 0 := by decide +kernel
theorem hdk_length : "java/lang/AbstractStringBuilder" ≠ "java/lang/invoke/MethodHandle" ∧ "java/lang/AbstractStringBuilder" ≠ "java/lang/invoke/VarHandle" ∧ (parseMethodDescriptor "()I").map (fun d => d.parameters.length) = some 0 := by decide +kernel
/-- the state as the text is made: the text's object at q, the rest's picture -/
def tsW (t : gP) (u : uS) (q : Nat) (E : List Value) : va_W := gL t u ++ [(q, .inr (0, E))]
def tsB (t : gP) (u : uS) (q : Nat) : State → Prop := fun U => (gS t U U.heap ∧ va_K t.1 vwCl (gT t) U ∧ t.2.2.2 ≤ U.heap.size) ∧ G t u U.heap ∧ va_P t.1 vwCl (tsW t u q [.null, .int 0, .int 0, .int 0]) U.heap ∧ va_D (gA t) (tsW t u q [.null, .int 0, .int 0, .int 0])
theorem tsB.calling {t : gP} {u : uS} {q : Nat} (a : Array Value) (U : State) (g : JFrame) (mk : MethodId) (h : tsB t u q U) : tsB t u q (U.calling g mk a) :=
  ⟨⟨h.1.1.calling, va_K.moved (u := U) (U := U.calling g mk a) (Vm.Alike.refl U.vm) h.1.2.1, h.1.2.2⟩, h.2⟩
theorem ts_blind {t : gP} {As : List Value} {u : uS} {q : Nat} : FrameBlind (va_Pc As (tsB t u q)) := fun a U g mk h => ⟨h.1, h.2.calling a U g mk⟩
/-- once it is made -/
def tsW2 (t : gP) (u : uS) (q a n : Nat) : va_W := gL t u ++ [(q, .inr (0, [.ref a, .int 0, .int 0, .int 0])), (a, .inl (t.2.1 102, (n, .inl (fun j => if j < n then iI (u 38 (j : Int)) else 0))))]
abbrev tsV (t : gP) (u : uS) (q n : Nat) : Array Value → State → Outcome → State → Prop := va_Qv (fun (_ : Nat) => True) (fun a U => va_P t.1 vwCl (tsW2 t u q a n) U.heap ∧ va_D (gA t) (tsW2 t u q a n)) (gA t)
theorem va_D_app {A : Nat → Prop} {ws : va_W} {a : Nat} {e : va_E} (hD : va_D A ws) (h : ∀ (k : Nat) (x : Nat × va_E), ws[k]? = some x → x.1 ≠ a) (ha : A a) : va_D A (ws ++ [(a, e)]) := by
  have hat : ∀ (p : Nat) (z : Nat × va_E), (ws ++ [(a, e)])[p]? = some z → (p < ws.length ∧ ws[p]? = some z) ∨ (p = ws.length ∧ z = (a, e)) := fun p z hz => by
    by_cases hp : p < ws.length
    · rw [List.getElem?_append_left hp] at hz
      exact Or.inl ⟨hp, hz⟩
    · rw [List.getElem?_append_right (by omega)] at hz
      have h8 := (List.getElem?_eq_some_iff.mp hz).1
      have h9 : p = ws.length := by simp only [List.length_singleton] at h8; omega
      subst h9
      rw [Nat.sub_self] at hz
      exact Or.inr ⟨rfl, (Option.some.inj hz).symm⟩
  refine ⟨fun i j p q hp hq hpq => ?_, fun k z hz => ?_⟩
  · rcases hat i p hp with ⟨hi, hp⟩ | ⟨hi, rfl⟩
    · rcases hat j q hq with ⟨hj, hq⟩ | ⟨hj, rfl⟩
      · exact hD.1 i j p q hp hq hpq
      · exact absurd hpq (h i p hp)
    · rcases hat j q hq with ⟨hj, hq⟩ | ⟨hj, rfl⟩
      · exact absurd hpq.symm (h j q hq)
      · omega
  · rcases hat k z hz with ⟨-, hz⟩ | ⟨-, rfl⟩
    · exact hD.2 k z hz
    · exact ha
theorem ts_pg {t : gP} {u : uS} {q : Nat} {E : List Value} {H : Heap} (hP : va_P t.1 vwCl (tsW t u q E) H) : va_P t.1 vwCl (gL t u) H := fun k x hx => hP k x (by
  unfold tsW
  rw [List.getElem?_append_left (List.getElem?_eq_some_iff.mp hx).1]; exact hx)
theorem va_P_app {D : va_G} {cl : List vw_C} {ws : va_W} {x : Nat × va_E} {H : Heap} (hP : va_P D cl ws H) (hx : va_at D cl x H) : va_P D cl (ws ++ [x]) H := fun p z hz => by
  by_cases hp : p < ws.length
  · rw [List.getElem?_append_left hp] at hz
    exact hP p z hz
  · rw [List.getElem?_append_right (by omega)] at hz
    have h8 := (List.getElem?_eq_some_iff.mp hz).1
    have h9 : p = ws.length := by simp only [List.length_singleton] at h8; omega
    subst h9
    rw [Nat.sub_self] at hz
    rw [← Option.some.inj hz]; exact hx
theorem ts_set {w : va_W} {x y : Nat × va_E} : (w ++ [x]).set w.length y = w ++ [y] := by
  rw [List.set_append_right _ _ (Nat.le_refl _), Nat.sub_self]; rfl
theorem ts_set2 {w : va_W} {x y z : Nat × va_E} : ((w ++ [x]) ++ [z]).set w.length y = w ++ [y, z] := by
  rw [List.append_assoc, List.set_append_right _ _ (Nat.le_refl _), Nat.sub_self]; rfl
abbrev rJ0_initdb : Room := { frames := 3, cells := 1, slots := 600, locals := 120 }
set_option maxRecDepth 100000 in
set_option maxHeartbeats 16000000 in
theorem k_initdb (l : Launch) (t : gP) (u : uS) (q n : Nat) (h0 : sbOk u) (hc : u 37 1 = 0) (hn : u 37 3 = (n : Int) ∧ (n : Int) ≤ u 1000 1 ∧ n ≤ 600) : Met l yJ0_init_db425 wsJ0_init_db425 rJ0_initdb (va_Pc [.ref q, .ref (t.2.2.1 37), .null] (tsB t u q)) (tsV t u q n) 1 600 (gA t) := by
  refine x_ofW0 (t := t) (A := gA t) (cc := cJ0_init_db425) (maxL := 5) (ret := none) (fun U h => h.1) (by decide) rfl (Nat.le_of_ble_eq_true rfl) ?_
  intro p e s m below meth c X hr hlk hm hB ls hl
  obtain ⟨hB1, hGs, hP, hD⟩ := hB
  replace X : xC t p s m _ c cJ0_init_db425 wsJ0_init_db425 RJ0 5 := X
  replace hm : meth.name = "<init>" := hm
  have hS : va_S (gA t) s.heap s.heap [] := va_S.rf
  replace hl : lv_has ls 5 [(0, .ref q), (1, .ref (t.2.2.1 37)), (2, .null)] := hl
  have iJ0 : ∀ w ∈ wsJ00, w ∈ wsJ0_init_db425 := by decide +kernel
  generalize ([.ref q, .ref (t.2.2.1 37), .null] : List Value).toArray = args at X ⊢
  refine lv_aload_n X.1.1 X.1.2.1 dJ0_init_db425_0 rfl (lv_at hl 0 rfl) ?_
  refine x_cobj X (x_w 1 rfl) (x_w 2 rfl) (x_w 3 rfl) hl.1 dJ0_init_db425_1 (by decide) (by decide) (by decide) ?_
  refine lv_aload_n X.1.1 X.1.2.1 dJ0_init_db425_4 rfl (lv_at hl 1 rfl) ?_
  refine va_callr (va_runU (As := []) (rest := []) X.1 (k_getValue l t u) (va_cwU 0 X.1.2.2.2.2 gJ0_init_db425_J5_getValue_6d5f1_u552J4 rfl rfl rfl rfl hdk_getValue ⟨Nat.le_of_ble_eq_true rfl, Nat.le_of_ble_eq_true rfl⟩) ⟨x_blind, x_sbrecv X hGs, x_pre X hGs hS⟩ rfl rfl hl.1 rfl (lv_room (Nat.le_of_ble_eq_true rfl)) dJ0_init_db425_5 ⟨by decide, by decide⟩) hS (fun z _ h => h.elim) (fun z h => h.elim) (fun u2 ra U H1 locs1 hU hvm hw hB2 hz1 hk1 hS1 => ?_)
  replace hB2 : ra = t.2.2.1 38 := hB2
  subst hB2
  have hP1 := hP.kept (fun k x hx => hk1 x.1 ((hP k x hx).lt) (fun h => h))
  have hG1 := hGs.ofP (ts_pg hP1)
  refine lv_astore_n (lv' := [(3, .ref (t.2.2.1 38)), (0, .ref q), (1, .ref (t.2.2.1 37)), (2, .null)]) X.1.1 X.1.2.1 dJ0_init_db425_8 rfl hl (by decide) rfl (fun ls hl => ?_)
  refine lv_aload_n X.1.1 X.1.2.1 dJ0_init_db425_9 rfl (lv_at hl 2 rfl) ?_
  refine va_calli (va_runU (As := []) (rest := []) X.1 (k_length4 l t u) (va_cwO 0 X.1.2.2.2.2 gJ0_init_db425_J4_length_8abf5_u549J4 rfl rfl rfl (x_w 25 rfl) hdk_length ⟨Nat.le_of_ble_eq_true rfl, Nat.le_of_ble_eq_true rfl⟩) ⟨x_blind, x_sbrecv X hG1, x_pre X hG1 hS1⟩ rfl rfl hl.1 rfl (lv_room (Nat.le_of_ble_eq_true rfl)) dJ0_init_db425_10 ⟨by decide, by decide⟩) hS1 (fun z _ h => h.elim) (fun z h => h.elim) (fun r2 u3 U2 H2 locs2 hU2 hvm2 hw2 hB3 hz2 hk2 hS2 => ?_)
  subst hw2
  rw [hn.1]
  have hP2 := hP1.kept (fun k x hx => hk2 x.1 ((hP1 k x hx).lt) (fun h => h))
  have hG2 := hGs.ofP (ts_pg hP2)
  refine lv_istore (lv' := [(4, .int (iI (n : Int))), (3, .ref (t.2.2.1 38)), (0, .ref q), (1, .ref (t.2.2.1 37)), (2, .null)]) X.1.1 X.1.2.1 dJ0_init_db425_13 hl (by decide) rfl (fun ls hl => ?_)
  refine lv_aload_n X.1.1 X.1.2.1 dJ0_init_db425_15 rfl (lv_at hl 3 rfl) ?_
  refine va_calli (va_runU (As := []) (rest := []) X.1 (k_isLatin1 l t u hc) (va_cwU 0 X.1.2.2.2.2 gJ0_init_db425_J5_isLatin1_aae02_u1047J4 rfl rfl rfl rfl hdk_isLatin1 ⟨Nat.le_of_ble_eq_true rfl, Nat.le_of_ble_eq_true rfl⟩) ⟨x_blind, x_sbrecv X hG2, x_pre X hG2 hS2⟩ rfl rfl hl.1 rfl (lv_room (Nat.le_of_ble_eq_true rfl)) dJ0_init_db425_16 ⟨by decide, by decide⟩) hS2 (fun z _ h => h.elim) (fun z h => h.elim) (fun r3 u4 U3 H3 locs3 hU3 hvm3 hw3 hB4 hz3 hk3 hS3 => ?_)
  subst hw3
  have hP3 := hP2.kept (fun k x hx => hk3 x.1 ((hP2 k x hx).lt) (fun h => h))
  refine x_if_eq (tgt := 41) X ⟨by decide, by decide⟩ dJ0_init_db425_19 (by decide) (fun c1 => absurd c1 (by decide)) (fun _ => ?_)
  refine lv_aload_n X.1.1 X.1.2.1 dJ0_init_db425_22 rfl (lv_at hl 2 rfl) ?_
  refine x_iconst X dJ0_init_db425_23 ?_
  have eq : (tsW t u q [.null, .int 0, .int 0, .int 0])[(gL t u).length]? = some (q, .inr (0, [.null, .int 0, .int 0, .int 0])) := by
    unfold tsW
    rw [List.getElem?_append_right (Nat.le_refl _), Nat.sub_self]; rfl
  refine va_putF (D := t.1) (cl := vwCl) (C := RJ0) (T := TJ0) (N := 4) X.1.1 X.1.2.1 X.1.2.2.2.2 iJ0 tyJ0 tyJ0_ok nmJ0 X.1.2.2.2.1 X.2.1 hP3 hD hS3 (gL t u).length eq rfl 1 (by decide) (X.1.2.2.2.2 _ (x_w 4 rfl)) (fun _ h9 => h9) rfl hm rfl (ty := .byte) (by decide +kernel) (by decide) (by decide) (Nat.le_of_ble_eq_true rfl) dJ0_init_db425_24 (fun H4 locs4 hP4 hD4 hS4 => ?_)
  replace hP4 : va_P t.1 vwCl (tsW t u q [.null, .int 0, .int 0, .int 0]) H4 := by
    unfold tsW at hP4 ⊢
    rw [ts_set] at hP4
    exact hP4
  have hG4 := hGs.ofP (ts_pg hP4)
  refine lv_aload_n X.1.1 X.1.2.1 dJ0_init_db425_27 rfl (lv_at hl 2 rfl) ?_
  refine lv_aload_n X.1.1 X.1.2.1 dJ0_init_db425_28 rfl (lv_at hl 1 rfl) ?_
  refine x_iconst X dJ0_init_db425_29 ?_
  refine lv_iload X.1.1 X.1.2.1 dJ0_init_db425_30 (lv_at hl 0 rfl) ?_
  have hb4 : t.2.2.2 ≤ H4.size := Nat.le_trans X.2.2.2 hS4.1
  have hz4 : ∀ z, zF t H4.size z → gA t z := fun z h => by
    rcases h with h | h
    · exact Nat.le_trans hb4 h
    · rw [h]; exact hG4.2.2.1 38 al38
  refine va_callr (va_runS (As := [.ref (t.2.2.1 38), .int (iI 0), .int (iI (n : Int))]) (rest := [.ref q]) X.1 (k_copyOfRange l t u n H4.size h0 hn.2) (va_cwS 3 X.1.2.2.2.2 gJ0_init_db425_J7_copyOfRange_39247 rfl rfl rfl hdk_copyOfRange ⟨Nat.le_of_ble_eq_true rfl, Nat.le_of_ble_eq_true rfl⟩) ⟨z_blind, fun U hU hW => ⟨rfl, (x_pre X hG4 hS4 (As := [.ref (t.2.2.1 38), .int (iI 0), .int (iI (n : Int))]) U hU hW).2, by rw [hU]⟩⟩ rfl rfl hl.1 rfl (lv_room (Nat.le_of_ble_eq_true rfl)) dJ0_init_db425_32 ⟨by decide, by decide⟩) hS4 (fun z _ h => hz4 z h) hz4 (fun u5 a U5 H5 locs5 hU5 hvm5 hw5 hB5 hz5 hk5 hS5 => ?_)
  obtain ⟨⟨hqa, h38⟩, hcell⟩ := hB5
  rw [hU5] at h38 hcell
  have hP5 : va_P t.1 vwCl (tsW t u q [.null, .int 0, .int 0, .int 0]) H5 := fun k x hx => by
    have h9 := hP4 k x hx
    by_cases h38x : x.1 = t.2.2.1 38
    · have e38 : (tsW t u q [.null, .int 0, .int 0, .int 0])[gi t 38]? = some (gad t 38, gE t u 38) := by
        unfold tsW
        rw [List.getElem?_append_left (gi_lt al38)]; exact gL_at al38
      have hk : k = gi t 38 := hD.1 k (gi t 38) _ _ hx e38 h38x
      subst hk
      rw [← Option.some.inj (e38.symm.trans hx)]
      exact h38
    · exact h9.kept (hk5 x.1 h9.lt (fun h => by
        rcases h with h | h
        · exact absurd h9.lt (by omega)
        · exact h38x h))
  have hP6 := va_P_app (x := (a, .inl (t.2.1 102, (n, .inl (fun j => if j < n then iI (u 38 (j : Int)) else 0))))) hP5 hcell
  have hD6 := va_D_app (a := a) (e := .inl (t.2.1 102, (n, .inl (fun j => if j < n then iI (u 38 (j : Int)) else 0)))) hD (fun k x hx he => by
    have h9 := (hP4 k x hx).lt
    omega) (Nat.le_trans hb4 hqa)
  have eq6 : (tsW t u q [.null, .int 0, .int 0, .int 0] ++ [(a, .inl (t.2.1 102, (n, .inl (fun j => if j < n then iI (u 38 (j : Int)) else 0))))])[(gL t u).length]? = some (q, .inr (0, [.null, .int 0, .int 0, .int 0])) := by
    rw [List.getElem?_append_left (by unfold tsW; rw [List.length_append]; exact Nat.lt_succ_self _)]; exact eq
  refine va_putF (D := t.1) (cl := vwCl) (C := RJ0) (T := TJ0) (N := 4) X.1.1 X.1.2.1 X.1.2.2.2.2 iJ0 tyJ0 tyJ0_ok nmJ0 X.1.2.2.2.1 X.2.1 hP6 hD6 hS5 (gL t u).length eq6 rfl 0 (by decide) (X.1.2.2.2.2 _ (x_w 5 rfl)) (fun _ h9 => h9) rfl hm rfl (ty := .array .byte) (by decide +kernel) rfl rfl (Nat.le_of_ble_eq_true rfl) dJ0_init_db425_35 (fun H7 locs7 hP7 hD7 hS7 => ?_)
  refine lv_goto (tgt := 97) X.1.1 X.1.2.1 dJ0_init_db425_38 (by decide) ?_
  have hP8 : va_P t.1 vwCl (tsW2 t u q a n) H7 := by
    unfold tsW at hP7
    rw [ts_set2] at hP7
    exact hP7
  have hD8 : va_D (gA t) (tsW2 t u q a n) := by
    unfold tsW at hD7
    rw [ts_set2] at hD7
    exact hD7
  exact W.vret X.1.1 X.1.2.1 hr (fun T hT hW => ⟨⟨a, rfl, trivial, (by rw [hT]; exact hP8), hD8⟩, hS7.F hT⟩) hS7.2.2 dJ0_init_db425_97 hlk
theorem hdk_initdb : yJ0_init_db425.cls ≠ "java/lang/invoke/MethodHandle" ∧ yJ0_init_db425.cls ≠ "java/lang/invoke/VarHandle" ∧ (parseMethodDescriptor yJ0_init_db425.desc).map (fun d => d.parameters.length) = some 2 := by decide +kernel
abbrev rJ0_init81 : Room := { frames := 4, cells := 1, slots := 600, locals := 150 }
set_option maxRecDepth 100000 in
set_option maxHeartbeats 16000000 in
theorem k_init81 (l : Launch) (t : gP) (u : uS) (q n : Nat) (h0 : sbOk u) (hc : u 37 1 = 0) (hn : u 37 3 = (n : Int) ∧ (n : Int) ≤ u 1000 1 ∧ n ≤ 600) : Met l yJ0_init_81219 wsJ0_init_81219 rJ0_init81 (va_Pc [.ref q, .ref (t.2.2.1 37)] (tsB t u q)) (tsV t u q n) 1 600 (gA t) := by
  refine x_ofW0 (t := t) (A := gA t) (cc := cJ0_init_81219) (maxL := 2) (ret := none) (fun U h => h.1) (by decide) rfl (Nat.le_of_ble_eq_true rfl) ?_
  intro p e s m below meth c X hr hlk hm hB ls hl
  replace X : xC t p s m _ c cJ0_init_81219 wsJ0_init_81219 RJ0 2 := X
  have hS : va_S (gA t) s.heap s.heap [] := va_S.rf
  replace hl : lv_has ls 2 [(0, .ref q), (1, .ref (t.2.2.1 37))] := hl
  generalize ([.ref q, .ref (t.2.2.1 37)] : List Value).toArray = args at X ⊢
  refine lv_aload_n X.1.1 X.1.2.1 dJ0_init_81219_0 rfl (lv_at hl 0 rfl) ?_
  refine lv_aload_n X.1.1 X.1.2.1 dJ0_init_81219_1 rfl (lv_at hl 1 rfl) ?_
  refine lv_null X.1.1 X.1.2.1 dJ0_init_81219_2 ?_
  refine va_callv (va_runI (As := [.ref (t.2.2.1 37), .null]) (rest := []) X.1 (k_initdb l t u q n h0 hc hn) (x_cwI 2 X.1.2.2.2.2 gJ0_init_81219_J0_init_db425 rfl rfl rfl (x_w 1 rfl) (x_w 3 rfl) (x_w 2 rfl) rfl hdk_initdb ⟨Nat.le_of_ble_eq_true rfl, Nat.le_of_ble_eq_true rfl⟩) ⟨ts_blind, fun U hU hW => ⟨rfl, ⟨X.2.2.1.to hS hU hW, va_K.moved hW.alike X.2.1, by rw [hU]; exact X.2.2.2⟩, by rw [hU]; exact hB.2⟩⟩ rfl rfl hl.1 rfl (lv_room (Nat.le_of_ble_eq_true rfl)) dJ0_init_81219_3 ⟨by decide, by decide⟩) hS (fun z _ h => h) (fun z h => h) (fun a U H1 locs1 hU hvm hw hB2 hz1 hk1 hS1 => ?_)
  rw [hU] at hB2
  exact W.vret X.1.1 X.1.2.1 hr (fun T hT hW => ⟨⟨a, rfl, trivial, (by show va_P _ _ _ T.heap ∧ _; rw [hT]; exact hB2)⟩, hS1.F hT⟩) hS1.2.2 dJ0_init_81219_6 hlk
theorem hdk_init81 : yJ0_init_81219.cls ≠ "java/lang/invoke/MethodHandle" ∧ yJ0_init_81219.cls ≠ "java/lang/invoke/VarHandle" ∧ (parseMethodDescriptor yJ0_init_81219.desc).map (fun d => d.parameters.length) = some 1 := by decide +kernel
def tsU (u : uS) : uS := fun a i => if a = 1000 ∧ i = 2 then u 37 3 else if a = 289 then 0 else if a = 290 then (if i < u 37 3 then u 38 i else 0) else u a i
def f_toString (u : uS) : Option (Int × uS) := xgd (mkOk u ∧ sbOk u ∧ u 37 1 = 0 ∧ 0 ≤ u 37 3 ∧ u 37 3 ≤ u 1000 1 ∧ u 37 3 ≤ 600) <| xlet (tsU u) fun u2 => some (289, u2)
/-- the text's cells are named by nothing that must be there -/
theorem gC_txt {t : gP} {u : uS} {a : Nat → Nat} (hC : gC t u) : gC (tkill t 289 291) u ∧ gC (tsetn (tkill t 289 291) 289 2 a) (tsU u) := by
  have hM : NM = 358 := rfl
  have e1 : ∀ i, al (tkill t 289 291) i ↔ al t i ∧ ¬ (289 ≤ i ∧ i < 291) := fun i => tkill_al (by omega)
  have hs : ∀ j, j < 2 → sT (289 + j) ≠ 999 := by decide +kernel
  have hs2 : ∀ i, 289 ≤ i → i < 291 → sT i ≠ 15 ∧ sT i ≠ 16 ∧ sT i ≠ 106 ∧ sT i ≠ 107 := fun i h1 h2 => by
    have : ∀ j, j < 2 → sT (289 + j) ≠ 15 ∧ sT (289 + j) ≠ 16 ∧ sT (289 + j) ≠ 106 ∧ sT (289 + j) ≠ 107 := by decide +kernel
    have h3 := this (i - 289) (by omega)
    rwa [Nat.add_sub_cancel' h1] at h3
  have e2 : ∀ i, al (tsetn (tkill t 289 291) 289 2 a) i ↔ al (tkill t 289 291) i ∨ (289 ≤ i ∧ i < 289 + 2) := fun i => tsetn_al ⟨by omega, by omega⟩ hs
  have h1 : gC (tkill t 289 291) u := by
    refine ⟨fun k hk h => ?_, fun h => ?_, fun k hk h j j0 j1 hj => ?_⟩
    · have h3 := (e1 k).mp hk
      have h4 := sT_16 k (al_lt h3.1) h
      exact (e1 _).mpr ⟨hC.1 k h3.1 h, by omega⟩
    · have h3 := (e1 264).mp h
      obtain ⟨a1, a2, a3, a4, a5, a6⟩ := hC.2.1 h3.1
      exact ⟨(e1 _).mpr ⟨a1, by omega⟩, (e1 _).mpr ⟨a2, by omega⟩, (e1 _).mpr ⟨a3, by omega⟩, (e1 _).mpr ⟨a4, by omega⟩, (e1 _).mpr ⟨a5, by omega⟩, (e1 _).mpr ⟨a6, by omega⟩⟩
    · have h3 := (e1 k).mp hk
      have h4 := hC.2.2 k h3.1 h j j0 j1 hj
      refine ⟨(e1 _).mpr ⟨h4.1, fun q => ?_⟩, h4.2⟩
      have h5 := hs2 _ q.1 q.2
      have h6 := h4.2
      split at h6
      · exact h5.2.1 h6
      · exact h5.1 h6
  refine ⟨h1, fun k hk h => ?_, fun h => ?_, fun k hk h j j0 j1 hj => ?_⟩
  · rcases (e2 k).mp hk with h3 | h3
    · exact (e2 _).mpr (Or.inl (h1.1 k h3 h))
    · exact absurd h (hs2 k h3.1 (by omega)).2.1
  · rcases (e2 264).mp h with h3 | h3
    · obtain ⟨a1, a2, a3, a4, a5, a6⟩ := h1.2.1 h3
      exact ⟨(e2 _).mpr (Or.inl a1), (e2 _).mpr (Or.inl a2), (e2 _).mpr (Or.inl a3), (e2 _).mpr (Or.inl a4), (e2 _).mpr (Or.inl a5), (e2 _).mpr (Or.inl a6)⟩
    · omega
  · rcases (e2 k).mp hk with h3 | h3
    · have hkl := al_lt h3
      have hk9 : ¬ (289 ≤ k ∧ k < 291) := ((e1 k).mp h3).2
      have e : tsU u k j = u k j := by
        unfold tsU
        rw [if_neg (by omega), if_neg (by omega), if_neg (by omega)]
      rw [e] at hj ⊢
      have h4 := h1.2.2 k h3 h j j0 j1 hj
      exact ⟨(e2 _).mpr (Or.inl h4.1), h4.2⟩
    · have h5 := hs2 k h3.1 (by omega)
      rcases h with h | h
      · exact absurd h h5.2.2.1
      · exact absurd h h5.2.2.2
abbrev rJ4_toString : Room := { frames := 5, cells := 2, slots := 604, locals := 180 }
set_option maxRecDepth 100000 in
set_option maxHeartbeats 16000000 in
theorem c_toString (l : Launch) (t : gP) (u : uS) (r : Int) (u' : uS) (h : f_toString u = some (r, u')) : xMta l yJ4_toString_0e30d wsJ4_toString_0e30d rJ4_toString t [.ref (t.2.2.1 37)] u u' 2 604 := by
  refine x_ofWta (cc := cJ4_toString_0e30d) (maxL := 1) (rt := .object "java/lang/String") (own := RJ4) (Or.inl ⟨_, rfl⟩) (by decide) rfl rfl (Nat.le_of_ble_eq_true rfl) ?_
  intro p e s m args below meth c Q X hret H locs ls hG hS hl
  replace hl : lv_has ls 1 [(0, .ref (t.2.2.1 37))] := hl
  unfold f_toString at h
  obtain ⟨⟨hm, h0, hc, hn0, hn1, hn2⟩, h⟩ := xgd_of h
  obtain ⟨u2, eu2, h⟩ := xlet_of h
  cases h
  have hM : NM = 358 := rfl
  have hC := gC_txt (a := fun _ => 0) hG.2.2.2
  have hG1 := hG.kill (lo := 289) (hi := 291) (by omega) hm hC.1
  have iJ0 : ∀ w ∈ wsJ00, w ∈ wsJ4_toString_0e30d := by decide +kernel
  have hA : ∀ q, s.heap.size ≤ q → gA t q := fun q hq => Nat.le_trans X.2.2.2 hq
  have X1 : xC (tkill t 289 291) p s m args c cJ4_toString_0e30d wsJ4_toString_0e30d RJ4 1 := X.ag (b := 39) (lo := 289) (hi := 291) ⟨rfl, rfl, rfl, fun k h1 h2 h3 => by
    unfold tkill
    show (if _ then _ else _) = _
    rw [if_neg (by omega)]⟩ (by decide)
  refine x_cnew X hG1.P hG1.D hS hA tyJ0 tyJ0_ok iJ0 (x_w 1 rfl) (x_w 2 rfl) (x_w 3 rfl) (ci := 0) rfl [.null, .int 0, .int 0, .int 0] (by decide +kernel) (by decide) (by decide) dJ4_toString_0e30d_0 (fun q H1 hP hD hS1 => ?_)
  refine lv_dup X.1.1 X.1.2.1 dJ4_toString_0e30d_3 rfl ?_
  refine lv_aload_n X.1.1 X.1.2.1 dJ4_toString_0e30d_4 rfl (lv_at hl 0 rfl) ?_
  have hG2 : G (tkill t 289 291) u H1 := hG1.ofP (ts_pg (E := [.null, .int 0, .int 0, .int 0]) (q := q) hP)
  have e37 : (tkill t 289 291).2.2.1 37 = t.2.2.1 37 := tkill_o (by decide)
  rw [← e37]
  refine va_callv (va_runI (As := [.ref ((tkill t 289 291).2.2.1 37)]) (rest := [.ref q]) X.1 (k_init81 l (tkill t 289 291) u q (u 37 3).toNat h0 hc ⟨(Int.toNat_of_nonneg hn0).symm, by omega, by omega⟩) (x_cwI 1 X.1.2.2.2.2 gJ4_toString_0e30d_J0_init_81219 rfl rfl rfl (x_w 4 rfl) (x_w 3 rfl) (x_w 5 rfl) rfl hdk_init81 ⟨Nat.le_of_ble_eq_true rfl, Nat.le_of_ble_eq_true rfl⟩) ⟨ts_blind, fun U hU hW => ⟨rfl, ⟨X1.2.2.1.to hS1 hU hW, va_K.moved hW.alike X1.2.1, by rw [hU]; exact Nat.le_trans X1.2.2.2 hS1.1⟩, by rw [hU]; exact hG2, by rw [hU]; exact hP, hD⟩⟩ rfl rfl hl.1 rfl (lv_room (Nat.le_of_ble_eq_true rfl)) dJ4_toString_0e30d_5 ⟨by decide, by decide⟩) hS1 (fun z _ h => h) (fun z h => h) (fun a U H3 locs3 hU hvm hw hB2 hz1 hk1 hS3 => ?_)
  obtain ⟨hP3, hD3⟩ := hB2
  rw [hU] at hP3
  have hs9 : ∀ j, j < 2 → sT (289 + j) ≠ 999 := by decide +kernel
  have hd9 : ∀ j, j < 2 → ¬ al (tkill t 289 291) (289 + j) := fun j hj h => ((tkill_al (by omega)).mp h).2 ⟨by omega, by omega⟩
  have hE0 : gE (tsetn (tkill t 289 291) 289 2 (fun j => if j = 0 then q else a)) (tsU u) 289 = .inr (0, [.ref a, .int 0, .int 0, .int 0]) := by
    unfold gE gO
    have e1 : sT 289 = 0 := by decide +kernel
    have e2 : fN 0 = 4 := by decide +kernel
    rw [e1, if_pos (by decide), e2]
    have hv0 : gV (tsetn (tkill t 289 291) 289 2 (fun j => if j = 0 then q else a)) (tsU u) 289 0 = .ref a := by
      unfold gV
      rw [e1, if_neg (by decide), if_neg (by decide)]
      have := tsetn_n (t := tkill t 289 291) (k0 := 289) (n := 2) (a := fun j => if j = 0 then q else a) (i := 1) (by decide)
      exact congrArg Value.ref this
    have hv : ∀ j, 0 < j → j < 4 → gV (tsetn (tkill t 289 291) 289 2 (fun j => if j = 0 then q else a)) (tsU u) 289 j = .int 0 := fun j h1 h2 => by
      have h3 : ∀ j, j < 4 → 0 < j → fC 0 j = 0 := by decide +kernel
      unfold gV
      rw [e1, if_pos (h3 j h2 h1)]
      unfold tsU
      rw [if_neg (by omega), if_pos rfl]
      rfl
    show Sum.inr (0, [_, _, _, _]) = _
    rw [hv0, hv 1 (by decide) (by decide), hv 2 (by decide) (by decide), hv 3 (by decide) (by decide)]
  have hE1 : gE (tsetn (tkill t 289 291) 289 2 (fun j => if j = 0 then q else a)) (tsU u) 290 = .inl (t.2.1 102, ((u 37 3).toNat, .inl (fun j => if j < (u 37 3).toNat then iI (u 38 (j : Int)) else 0))) := by
    unfold gE
    have e1 : sT 290 = 108 := by decide +kernel
    rw [e1, if_neg (by decide), if_neg (by decide), if_neg (by decide), if_neg (by decide), if_pos rfl]
    have e2 : tsU u 1000 2 = u 37 3 := if_pos ⟨rfl, rfl⟩
    have e3 : (fun j : Nat => iI (tsU u 290 (j : Int))) = fun j : Nat => if j < (u 37 3).toNat then iI (u 38 (j : Int)) else 0 := by
      funext j
      unfold tsU
      rw [if_neg (by omega), if_neg (by omega), if_pos rfl]
      by_cases hj : j < (u 37 3).toNat
      · rw [if_pos hj, if_pos (by omega)]
      · rw [if_neg hj, if_neg (by omega)]; rfl
    rw [e2, e3]
    rfl
  have hG5 := hG1.makeL (k0 := 289) (n := 2) (a := fun j => if j = 0 then q else a) (u' := tsU u) (L := [(q, .inr (0, [.ref a, .int 0, .int 0, .int 0])), (a, .inl (t.2.1 102, ((u 37 3).toNat, .inl (fun j => if j < (u 37 3).toNat then iI (u 38 (j : Int)) else 0))))]) ⟨by omega, by omega⟩ hs9 hd9 (fun h => by omega) (fun _ h => hd9 0 (by decide) h) hm hP3 hD3 (fun j hj => by
      have hj2 : j = 0 ∨ j = 1 := by omega
      rcases hj2 with rfl | rfl
      · show some _ = some _
        rw [hE0]; rfl
      · show some _ = some _
        rw [hE1]; rfl) (fun i hi hal j => by
      have hil := al_lt hal
      unfold tsU
      rw [if_neg (by omega), if_neg (by omega), if_neg (by omega)]) ⟨by unfold tsU; rw [if_neg (by decide), if_neg (by decide), if_neg (by decide)], Or.inl ⟨by decide, by decide⟩, Or.inr (Or.inr (by unfold tsU; rw [if_neg (by decide), if_neg (by decide), if_neg (by decide)]))⟩ (gC_txt (a := fun j => if j = 0 then q else a) hG.2.2.2).2
  have hag : ag 39 289 291 t (tsetn (tkill t 289 291) 289 2 (fun j => if j = 0 then q else a)) := ⟨rfl, rfl, rfl, fun k h1 h2 h3 => by
    unfold tsetn tkill
    show (if _ then _ else _) = _
    rw [if_neg (by omega), if_neg (by omega)]
    show (if _ then _ else _) = _
    rw [if_neg (by omega)]⟩
  have hq : (tsetn (tkill t 289 291) 289 2 (fun j => if j = 0 then q else a)).2.2.1 289 = q := tsetn_n (i := 0) (by decide)
  have hal : al (tsetn (tkill t 289 291) 289 2 (fun j => if j = 0 then q else a)) 289 ∧ al (tsetn (tkill t 289 291) 289 2 (fun j => if j = 0 then q else a)) 290 := ⟨(tsetn_al ⟨by omega, by omega⟩ hs9).mpr (Or.inr ⟨by omega, by omega⟩), (tsetn_al ⟨by omega, by omega⟩ hs9).mpr (Or.inr ⟨by omega, by omega⟩)⟩
  rw [eu2] at hret
  have h9 := hret (tsetn (tkill t 289 291) 289 2 (fun j => if j = 0 then q else a)) H3 locs3 ls _ _ _ hag (by decide : 0 + 1 + 1 ≤ 2) (by decide : 0 + 4 + 600 ≤ 604) dJ4_toString_0e30d_8 hal hG5 hS3
  rw [hq] at h9
  exact h9
theorem hd_toString : yJ4_toString_0e30d.cls = RJ4 ∧ yJ4_toString_0e30d.cls ≠ "java/lang/invoke/MethodHandle" ∧ yJ4_toString_0e30d.cls ≠ "java/lang/invoke/VarHandle" ∧ (parseMethodDescriptor yJ4_toString_0e30d.desc).map (fun d => d.parameters.length) = some 0 := by decide +kernel
