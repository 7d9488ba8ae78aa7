/-! X, part p: constructors that make objects (DRAFT) -/
section CB2
variable {p : Program} {l : Launch} {e : Env} {R : Room} {s : State} {m : MethodId} {args : Array Value} {below : List Frame} {meth : Method} {c : Code} {H : Heap} {locs : List Loc} {cells slots mc ms : Nat} {Q : State → Prop}
variable {cc : ByteArray} {pc : Nat} {ls : Array Slot} {rest st0 : List Value} {t : gP} {ws : List Cond} {own : String} {nL : Nat} {a : Array Value} {A : Nat → Prop}
theorem x_cnew (X : xC t p s m args c cc ws own nL) {w : va_W} (hP : va_P t.1 vwCl w H) (hD : va_D A w) (hS : va_S A s.heap H locs) (hA : ∀ q, s.heap.size ≤ q → A q) {C : String} {T : u_T} {N ci idx : Nat} (ty0 : Nat → FieldType) (hty : ∀ k, k < N → parseFieldDescriptor (T k).2.2.1 = some (ty0 k)) (inC : ∀ w ∈ u_ws C T N, w ∈ ws) (w1 : Cond.classLink own idx C ∈ ws) (w2 : Cond.instantiable C N ∈ ws) (w3 : Cond.initialized C ∈ ws) (hc : vwCl[ci]? = some (C, T, N)) (fs : List Value) (hfs : ∀ j, j < N → defaultValue (ty0 j) = vp_V fs j) (hcells : cells + 1 ≤ R.cells) (hslots : slots + N ≤ R.slots) (hdg : decode cc pc = .ok (.new idx, 3))
    (kk : ∀ (q : Nat) (H1 : Heap), va_P t.1 vwCl (w ++ [(q, .inr (ci, fs))]) H1 → va_D A (w ++ [(q, .inr (ci, fs))]) → va_S A s.heap H1 locs → W p l e R s m args below meth c H1 locs (cells + 1) (slots + N) Q (F0 m (pc + 3) ls (.ref q :: rest))) : W p l e R s m args below meth c H locs cells slots Q (F0 m pc ls rest) :=
  va_new (D := t.1) (cl := vwCl) X.1.1 X.1.2.1 X.1.2.2.2.2 inC ty0 hty X.1.2.2.2.1 (X.1.2.2.2.2 _ w1) (X.1.2.2.2.2 _ w2) (X.1.2.2.2.2 _ w3) X.2.1 hP hD hS hA hc hfs hcells hslots hdg kk
end CB2
abbrev rX1_init : Room := { frames := 2, cells := 7, slots := 2019, locals := 60 }
set_option maxRecDepth 100000 in
set_option maxHeartbeats 8000000 in
theorem c_X1_init (l : Launch) (t : gP) (a : Nat) : cM l yX1_init wsX1_init rX1_init t [.ref a] [(a, .inr (5, [.int 0, .null, .null, .null, .int 0, .int 0]))] (fun (as : Nat → Nat) => [(a, .inr (5, [.int (-1), .ref (as 0), .ref (as 5), .ref (as 6), .int 0, .int 0])), (as 0, .inr (12, [.int 0, .ref (as 1), .ref (as 2), .ref (as 3), .ref (as 4)])), (as 1, .inl (t.2.1 100, (500, .inl (fun _ => 0)))), (as 2, .inl (t.2.1 100, (500, .inl (fun _ => 0)))), (as 3, .inl (t.2.1 100, (500, .inl (fun _ => 0)))), (as 4, .inl (t.2.1 100, (500, .inl (fun _ => 0)))), (as 5, .inl (t.2.1 100, (9, .inl (fun _ => 0)))), (as 6, .inl (t.2.1 100, (5, .inl (fun _ => 0))))]) 7 2019 := by
  refine x_ofC (cc := cX1_init) (maxL := 1) (own := RX1) (by decide) rfl rfl (Nat.le_of_ble_eq_true rfl) ?_
  intro p e s m args below meth c Q X hm hP hD hAg hS hret ls hl
  have hA : ∀ q, s.heap.size ≤ q → va_A [(a, .inr (5, [.int 0, .null, .null, .null, .int 0, .int 0]))] s.heap.size q := fun q hq => Or.inr hq
  replace hl : lv_has ls 1 [(0, .ref a)] := hl
  generalize va_A [(a, .inr (5, [.int 0, .null, .null, .null, .int 0, .int 0]))] s.heap.size = A at hD hAg hS hret hA
  have iX8 : ∀ w ∈ wsX80, w ∈ wsX1_init := by decide +kernel
  have iX1 : ∀ w ∈ wsX10, w ∈ wsX1_init := by decide +kernel
  refine lv_aload_n X.1.1 X.1.2.1 dX1_init_0 rfl (lv_at hl 0 rfl) ?_
  refine x_cobj X (x_w 1 rfl) (x_w 2 rfl) (x_w 3 rfl) hl.1 dX1_init_1 (by decide) (by decide) (by decide) ?_
  refine lv_aload_n X.1.1 X.1.2.1 dX1_init_4 rfl (lv_at hl 0 rfl) ?_
  refine x_iconst X dX1_init_5 ?_
  refine x_cput X hP hD hS tyX1 tyX1_ok nmX1 iX1 rfl 0 (by decide) (x_w 4 rfl) rfl rfl (ty := .int) (by decide +kernel) (by decide) (by decide) dX1_init_6 (fun H locs hP hD hS => ?_)
  refine lv_aload_n X.1.1 X.1.2.1 dX1_init_9 rfl (lv_at hl 0 rfl) ?_
  refine x_cnew X hP hD hS hA tyX8 tyX8_ok iX8 (x_w 5 rfl) (x_w 6 rfl) (x_w 7 rfl) (ci := 12) rfl [.int 0, .null, .null, .null, .null] (by decide +kernel) (by decide) (by decide) dX1_init_10 (fun q0 H hP hD hS => ?_)
  refine lv_dup X.1.1 X.1.2.1 dX1_init_13 rfl ?_
  refine x_kc (w := [(a, .inr (5, [.int (-1), .null, .null, .null, .int 0, .int 0]))]) hP hD hS hA (va_runIN (As := []) (rest := [.ref q0, .ref a]) X.1 (c_X8_init l t q0 _) ⟨va_cnB 0 X.1.2.2.2.2 gX1_init_X8_init_n17 rfl rfl rfl (X.2.2.1.1 (RX1, 17, yX8_init, "TriggerNetwork") (x_m 6 rfl)) (X.1.2.2.2.2 _ (x_w 7 rfl)) hd_X8_init ⟨Nat.le_of_ble_eq_true rfl, Nat.le_of_ble_eq_true rfl⟩, rfl, X.1.2.2.2.2 _ (x_w 12 rfl)⟩ ⟨c_blind, x_cpre X hP hD hS hAg⟩ rfl rfl hl.1 rfl (lv_room (Nat.le_of_ble_eq_true rfl)) dX1_init_14 ⟨by decide, by decide⟩) (fun as H locs hP hD hS => ?_)
  refine x_cputF X hm hP hD hS tyX1 tyX1_ok nmX1 iX1 rfl 1 (by decide) (x_w 8 rfl) rfl rfl (ty := .object "TriggerNetwork$Tokens") (by decide +kernel) rfl rfl (Nat.le_of_ble_eq_true rfl) dX1_init_17 (fun H locs hP hD hS => ?_)
  refine lv_aload_n X.1.1 X.1.2.1 dX1_init_20 rfl (lv_at hl 0 rfl) ?_
  refine x_bipush X dX1_init_21 (by decide) ?_
  refine x_cnewi (N' := 9) X hP hD hS hA (x_w 9 rfl) ⟨rfl, by decide⟩ (by decide) (by decide) dX1_init_23 (fun q1 H hP hD hS => ?_)
  refine x_cputF X hm hP hD hS tyX1 tyX1_ok nmX1 iX1 rfl 2 (by decide) (x_w 10 rfl) rfl rfl (ty := .array .int) (by decide +kernel) rfl rfl (Nat.le_of_ble_eq_true rfl) dX1_init_25 (fun H locs hP hD hS => ?_)
  refine lv_aload_n X.1.1 X.1.2.1 dX1_init_28 rfl (lv_at hl 0 rfl) ?_
  refine x_iconst X dX1_init_29 ?_
  refine x_cnewi (N' := 5) X hP hD hS hA (x_w 9 rfl) ⟨rfl, by decide⟩ (by decide) (by decide) dX1_init_30 (fun q2 H hP hD hS => ?_)
  refine x_cputF X hm hP hD hS tyX1 tyX1_ok nmX1 iX1 rfl 3 (by decide) (x_w 11 rfl) rfl rfl (ty := .array .int) (by decide +kernel) rfl rfl (Nat.le_of_ble_eq_true rfl) dX1_init_32 (fun H locs hP hD hS => ?_)
  exact hret (fun i => [q0, as 0, as 1, as 2, as 3, q1, q2].getD i 0) _ _ _ _ _ _ (by decide) (by decide) dX1_init_35 hP hD hS
theorem hd_X1_init : yX1_init.cls ≠ "java/lang/invoke/MethodHandle" ∧ yX1_init.cls ≠ "java/lang/invoke/VarHandle" ∧ (parseMethodDescriptor yX1_init.desc).map (fun d => d.parameters.length) = some 0 := by decide +kernel
abbrev rX2_init : Room := { frames := 1, cells := 0, slots := 0, locals := 30 }
set_option maxRecDepth 100000 in
set_option maxHeartbeats 8000000 in
theorem c_X2_init (l : Launch) (t : gP) (a : Nat) : cM l yX2_init wsX2_init rX2_init t [.ref a] [(a, .inr (6, [.int 0, .int 0, .int 0, .int 0, .int 0]))] (fun (_ : Unit) => [(a, .inr (6, [.int 0, .int 0, .int 0, .int 0, .int 0]))]) 0 0 := by
  refine x_ofC (cc := cX2_init) (maxL := 1) (own := RX2) (by decide) rfl rfl (Nat.le_of_ble_eq_true rfl) ?_
  intro p e s m args below meth c Q X hm hP hD hAg hS hret ls hl
  replace hl : lv_has ls 1 [(0, .ref a)] := hl
  refine lv_aload_n X.1.1 X.1.2.1 dX2_init_0 rfl (lv_at hl 0 rfl) ?_
  refine x_cobj X (x_w 1 rfl) (x_w 2 rfl) (x_w 3 rfl) hl.1 dX2_init_1 (by decide) (by decide) (by decide) ?_
  exact hret () _ _ _ _ _ _ (by decide) (by decide) dX2_init_4 hP hD hS
theorem hd_X2_init : yX2_init.cls ≠ "java/lang/invoke/MethodHandle" ∧ yX2_init.cls ≠ "java/lang/invoke/VarHandle" ∧ (parseMethodDescriptor yX2_init.desc).map (fun d => d.parameters.length) = some 0 := by decide +kernel
abbrev rX2_placeC : Room := { frames := 0, cells := 0, slots := 0, locals := 0 }
set_option maxRecDepth 100000 in
set_option maxHeartbeats 8000000 in
/-- place, over its own object alone -/
theorem k_X2_place (l : Launch) (t : gP) (a : Nat) (x1 x2 x3 x4 x5 : Int) (v1 v2 v3 v4 v5 : Value) : cM l yX2_place wsX2_place rX2_placeC t [.ref a, .int (iI x1), .int (iI x2), .int (iI x3), .int (iI x4), .int (iI x5)] [(a, .inr (6, [v1, v2, v3, v4, v5]))] (fun (_ : Unit) => [(a, .inr (6, [.int (iI x1), .int (iI x2), .int (iI x3), .int (iI x4), .int (iI x5)]))]) 0 0 := by
  refine x_ofC (cc := cX2_place) (maxL := 6) (own := RX2) (by decide) rfl rfl (Nat.le_of_ble_eq_true rfl) ?_
  intro p e s m args below meth c Q X hm hP hD hAg hS hret ls hl
  replace hl : lv_has ls 6 [(0, .ref a), (1, .int (iI x1)), (2, .int (iI x2)), (3, .int (iI x3)), (4, .int (iI x4)), (5, .int (iI x5))] := hl
  generalize va_A [(a, .inr (6, [v1, v2, v3, v4, v5]))] s.heap.size = A at hD hAg hS hret
  have iX2 : ∀ w ∈ wsX20, w ∈ wsX2_place := by decide +kernel
  refine lv_aload_n X.1.1 X.1.2.1 dX2_place_0 rfl (lv_at hl 0 rfl) ?_
  refine lv_iload_n X.1.1 X.1.2.1 dX2_place_1 rfl (lv_at hl 1 rfl) ?_
  refine x_cput X hP hD hS tyX2 tyX2_ok nmX2 iX2 rfl 0 (by decide) (x_w 1 rfl) rfl rfl (ty := .int) rfl rfl (Nat.le_of_ble_eq_true rfl) dX2_place_2 (fun H locs hP hD hS => ?_)
  refine lv_aload_n X.1.1 X.1.2.1 dX2_place_5 rfl (lv_at hl 0 rfl) ?_
  refine lv_iload_n X.1.1 X.1.2.1 dX2_place_6 rfl (lv_at hl 2 rfl) ?_
  refine x_cput X hP hD hS tyX2 tyX2_ok nmX2 iX2 rfl 1 (by decide) (x_w 2 rfl) rfl rfl (ty := .int) rfl rfl (Nat.le_of_ble_eq_true rfl) dX2_place_7 (fun H locs hP hD hS => ?_)
  refine lv_aload_n X.1.1 X.1.2.1 dX2_place_10 rfl (lv_at hl 0 rfl) ?_
  refine lv_iload_n X.1.1 X.1.2.1 dX2_place_11 rfl (lv_at hl 3 rfl) ?_
  refine x_cput X hP hD hS tyX2 tyX2_ok nmX2 iX2 rfl 2 (by decide) (x_w 3 rfl) rfl rfl (ty := .int) rfl rfl (Nat.le_of_ble_eq_true rfl) dX2_place_12 (fun H locs hP hD hS => ?_)
  refine lv_aload_n X.1.1 X.1.2.1 dX2_place_15 rfl (lv_at hl 0 rfl) ?_
  refine lv_iload X.1.1 X.1.2.1 dX2_place_16 (lv_at hl 4 rfl) ?_
  refine x_cput X hP hD hS tyX2 tyX2_ok nmX2 iX2 rfl 3 (by decide) (x_w 4 rfl) rfl rfl (ty := .int) rfl rfl (Nat.le_of_ble_eq_true rfl) dX2_place_18 (fun H locs hP hD hS => ?_)
  refine lv_aload_n X.1.1 X.1.2.1 dX2_place_21 rfl (lv_at hl 0 rfl) ?_
  refine lv_iload X.1.1 X.1.2.1 dX2_place_22 (lv_at hl 5 rfl) ?_
  refine x_cput X hP hD hS tyX2 tyX2_ok nmX2 iX2 rfl 4 (by decide) (x_w 5 rfl) rfl rfl (ty := .int) rfl rfl (Nat.le_of_ble_eq_true rfl) dX2_place_24 (fun H locs hP hD hS => ?_)
  exact hret () _ _ _ _ _ _ (by decide) (by decide) dX2_place_27 hP hD hS
/-! calls that show the callee all of the list -/
section CB3
variable {p : Program} {l : Launch} {e : Env} {R : Room} {s : State} {m : MethodId} {args : Array Value} {below : List Frame} {meth : Method} {c : Code} {H : Heap} {locs : List Loc} {cells slots mc ms : Nat} {Q : State → Prop}
variable {cc : ByteArray} {pc : Nat} {ls : Array Slot} {rest st0 : List Value} {t : gP} {ws : List Cond} {own : String} {nL : Nat} {a : Array Value} {A : Nat → Prop}
theorem x_ka {w : va_W} {S : Type} {post : S → va_W} (hD : va_D A w) (hS : va_S A s.heap H locs) (hA : ∀ q, s.heap.size ≤ q → A q)
    (hr : va_Run p l e R s m args below meth c H locs cells slots mc ms (F0 m pc ls st0) rest (cQ t w H.size post a) (va_A w H.size))
    (kk : ∀ (as : S) (H1 : Heap) (locs1 : List Loc), va_P t.1 vwCl (post as) H1 → va_D A (post as) → va_S A s.heap H1 locs1 → W p l e R s m args below meth c H1 locs1 (cells + mc) (slots + ms) Q (F0 m (pc + 3) ls rest)) : W p l e R s m args below meth c H locs cells slots Q (F0 m pc ls st0) := by
  have hF : ∀ q, va_A w H.size q → A q := fun q hq => by
    rcases hq with ⟨k, e2, hk⟩ | hq
    · exact hD.2 _ _ hk
    · exact hA q (Nat.le_trans hS.1 hq)
  refine va_callv hr hS (fun q _ hq => hF q hq) hF (fun as U H1 locs1 hU hvm hw hB hz1 hk1 hS1 => ?_)
  obtain ⟨hP1, hD1⟩ := hB
  rw [hU] at hP1
  exact kk as H1 locs1 hP1 ⟨hD1.1, fun k z hk => hF _ (hD1.2 k z hk)⟩ hS1
theorem x_cpreA (X : xC t p s m args c cc ws own nL) {w : va_W} (hP : va_P t.1 vwCl w H) (hD : va_D A w) (hS : va_S A s.heap H locs) (hAg : ∀ q, A q → gA t q) {As : List Value} : ∀ U : State, U.heap = H → s.WarmedH U.vm → va_Pc As (cB t w H.size) As.toArray U := fun U hU hW => by
  have hS2 : va_S (gA t) s.heap H locs := ⟨hS.1, fun q h1 h2 => hS.2.1 q h1 (fun h3 => h2 (hAg q h3)), fun l hl => hAg _ (hS.2.2 l hl)⟩
  refine ⟨rfl, X.2.2.1.to hS2 hU hW, va_K.moved hW.alike X.2.1, ⟨fun k z hz => ?_, hD.1, fun k z hz => hAg _ (hD.2 _ _ hz)⟩, by rw [hU], Nat.le_trans X.2.2.2 hS.1⟩
  rw [hU]; exact hP _ _ hz
/-- a field of the object at place i of the list -/
theorem x_cputk (X : xC t p s m args c cc ws own nL) {w : va_W} {q ci i : Nat} {fs : List Value} (hi : w[i]? = some (q, .inr (ci, fs))) (hP : va_P t.1 vwCl w H) (hD : va_D A w) (hS : va_S A s.heap H locs) {C : String} {T : u_T} {N idx : Nat} (ty0 : Nat → FieldType) (hty : ∀ k, k < N → parseFieldDescriptor (T k).2.2.1 = some (ty0 k)) (hnm : ∀ a, a < N → ∀ b, b < N → a ≠ b → (T a).2.1 ≠ (T b).2.1) (inC : ∀ w ∈ u_ws C T N, w ∈ ws) (hc : vwCl[ci]? = some (C, T, N)) (j : Nat) (hj : j < N) (hw : Cond.fieldLink own idx (T j).1 (T j).2.1 (T j).2.2.1 ∈ ws) (hfin : (T j).2.2.2 = false) {ty : FieldType} {v : Value} (hd : parseFieldDescriptor (T j).2.2.1 = some ty) (hn : narrow ty v = v) (hfit : fits ty v = true) (hl : j < fs.length) (hdg : decode cc pc = .ok (.putfield idx, 3))
    (kk : ∀ (H1 : Heap) (locs1 : List Loc), va_P t.1 vwCl (w.set i (q, .inr (ci, fs.set j v))) H1 → va_D A (w.set i (q, .inr (ci, fs.set j v))) → va_S A s.heap H1 locs1 → W p l e R s m args below meth c H1 locs1 cells slots Q (F0 m (pc + 3) ls rest)) : W p l e R s m args below meth c H locs cells slots Q (F0 m pc ls (v :: .ref q :: rest)) :=
  va_put (D := t.1) (cl := vwCl) (C := C) (T := T) (N := N) X.1.1 X.1.2.1 X.1.2.2.2.2 inC ty0 hty hnm X.1.2.2.2.1 X.2.1 hP hD hS i hi hc j hj (X.1.2.2.2.2 _ hw) (fun _ h9 => h9) hfin hd hn hfit hl hdg (fun H1 locs1 hP1 hD1 hS1 => kk H1 locs1 hP1 hD1 hS1)
end CB3
section CB4
variable {p : Program} {l : Launch} {e : Env} {R : Room} {s : State} {m : MethodId} {args : Array Value} {below : List Frame} {meth : Method} {c : Code} {H : Heap} {locs : List Loc} {cells slots : Nat} {Q : State → Prop}
variable {cc : ByteArray} {pc : Nat} {ls : Array Slot} {rest : List Value} {t : gP} {ws : List Cond} {own : String} {nL : Nat}
/-- a field read, of the object at place i -/
theorem x_cgetk (X : xC t p s m args c cc ws own nL) {w : va_W} {q ci i : Nat} {fs : List Value} (hi : w[i]? = some (q, .inr (ci, fs))) (hP : va_P t.1 vwCl w H) {C : String} {T : u_T} {N idx : Nat} (inC : ∀ w ∈ u_ws C T N, w ∈ ws) (hc : vwCl[ci]? = some (C, T, N)) (j : Nat) (hj : j < N) (hw : Cond.fieldLink own idx (T j).1 (T j).2.1 (T j).2.2.1 ∈ ws) {v : Value} (hv : fs[j]? = some v) (hdg : decode cc pc = .ok (.getfield idx, 3))
    (kk : W p l e R s m args below meth c H locs cells slots Q (F0 m (pc + 3) ls (v :: rest))) : W p l e R s m args below meth c H locs cells slots Q (F0 m pc ls (.ref q :: rest)) :=
  va_get (D := t.1) (cl := vwCl) (C := C) (T := T) (N := N) X.1.1 X.1.2.1 X.1.2.2.2.2 inC X.1.2.2.2.1 X.2.1 hP i hi hc j hj (X.1.2.2.2.2 _ hw) (fun _ h9 => h9) hv hdg kk
end CB4
theorem set_at {w : va_W} {i : Nat} {y z : Nat × va_E} (h : w[i]? = some y) : (w.set i z)[i]? = some z := by
  have h1 := (List.getElem?_eq_some_iff.mp h).1
  rw [List.getElem?_set_self h1]
set_option maxRecDepth 100000 in
set_option maxHeartbeats 8000000 in
/-- place, its object being at place i of a list -/
theorem k2_X2_place (l : Launch) (t : gP) (a i : Nat) (w : va_W) (x1 x2 x3 x4 x5 : Int) (v1 v2 v3 v4 v5 : Value) (hi : w[i]? = some (a, .inr (6, [v1, v2, v3, v4, v5]))) : cM l yX2_place wsX2_place rX2_placeC t [.ref a, .int (iI x1), .int (iI x2), .int (iI x3), .int (iI x4), .int (iI x5)] w (fun (_ : Unit) => w.set i (a, .inr (6, [.int (iI x1), .int (iI x2), .int (iI x3), .int (iI x4), .int (iI x5)]))) 0 0 := by
  refine x_ofC (cc := cX2_place) (maxL := 6) (own := RX2) (by decide) rfl rfl (Nat.le_of_ble_eq_true rfl) ?_
  intro p e s m args below meth c Q X hm hP hD hAg hS hret ls hl
  replace hl : lv_has ls 6 [(0, .ref a), (1, .int (iI x1)), (2, .int (iI x2)), (3, .int (iI x3)), (4, .int (iI x4)), (5, .int (iI x5))] := hl
  generalize va_A w s.heap.size = A at hD hAg hS hret
  have iX2 : ∀ w ∈ wsX20, w ∈ wsX2_place := by decide +kernel
  refine lv_aload_n X.1.1 X.1.2.1 dX2_place_0 rfl (lv_at hl 0 rfl) ?_
  refine lv_iload_n X.1.1 X.1.2.1 dX2_place_1 rfl (lv_at hl 1 rfl) ?_
  refine x_cputk X hi hP hD hS tyX2 tyX2_ok nmX2 iX2 rfl 0 (by decide) (x_w 1 rfl) rfl rfl (ty := .int) rfl rfl (Nat.le_of_ble_eq_true rfl) dX2_place_2 (fun H locs hP hD hS => ?_)
  refine lv_aload_n X.1.1 X.1.2.1 dX2_place_5 rfl (lv_at hl 0 rfl) ?_
  refine lv_iload_n X.1.1 X.1.2.1 dX2_place_6 rfl (lv_at hl 2 rfl) ?_
  refine x_cputk X (set_at hi) hP hD hS tyX2 tyX2_ok nmX2 iX2 rfl 1 (by decide) (x_w 2 rfl) rfl rfl (ty := .int) rfl rfl (Nat.le_of_ble_eq_true rfl) dX2_place_7 (fun H locs hP hD hS => ?_)
  rw [List.set_set] at hP hD
  refine lv_aload_n X.1.1 X.1.2.1 dX2_place_10 rfl (lv_at hl 0 rfl) ?_
  refine lv_iload_n X.1.1 X.1.2.1 dX2_place_11 rfl (lv_at hl 3 rfl) ?_
  refine x_cputk X (set_at hi) hP hD hS tyX2 tyX2_ok nmX2 iX2 rfl 2 (by decide) (x_w 3 rfl) rfl rfl (ty := .int) rfl rfl (Nat.le_of_ble_eq_true rfl) dX2_place_12 (fun H locs hP hD hS => ?_)
  rw [List.set_set] at hP hD
  refine lv_aload_n X.1.1 X.1.2.1 dX2_place_15 rfl (lv_at hl 0 rfl) ?_
  refine lv_iload X.1.1 X.1.2.1 dX2_place_16 (lv_at hl 4 rfl) ?_
  refine x_cputk X (set_at hi) hP hD hS tyX2 tyX2_ok nmX2 iX2 rfl 3 (by decide) (x_w 4 rfl) rfl rfl (ty := .int) rfl rfl (Nat.le_of_ble_eq_true rfl) dX2_place_18 (fun H locs hP hD hS => ?_)
  rw [List.set_set] at hP hD
  refine lv_aload_n X.1.1 X.1.2.1 dX2_place_21 rfl (lv_at hl 0 rfl) ?_
  refine lv_iload X.1.1 X.1.2.1 dX2_place_22 (lv_at hl 5 rfl) ?_
  refine x_cputk X (set_at hi) hP hD hS tyX2 tyX2_ok nmX2 iX2 rfl 4 (by decide) (x_w 5 rfl) rfl rfl (ty := .int) rfl rfl (Nat.le_of_ble_eq_true rfl) dX2_place_24 (fun H locs hP hD hS => ?_)
  rw [List.set_set] at hP hD
  exact hret () _ _ _ _ _ _ (by decide) (by decide) dX2_place_27 hP hD hS
