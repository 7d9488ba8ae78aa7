/-! the constructor of the law's Net: rows of places and of picks, of booleans -/
theorem gS.ao {t : gP} {U : State} {H : Heap} (h : gS t U H) : va_AO "TriggerNetwork$Situation" U ∧ va_AO "TriggerNetworkLaw$Place" U ∧ va_AO "TriggerNetworkLaw$Pick" U := by
  obtain ⟨-, -, -, -, -, -, -, -, -, -, -, h12⟩ := h
  exact ⟨h12.1, h12.2.1, h12.2.2.1⟩
theorem gS.cl {t : gP} {U : State} {H : Heap} (h : gS t U H) : va_Nw (.castable "[B" "java/lang/Cloneable") U := by
  obtain ⟨-, -, -, -, -, -, -, -, -, -, -, h12⟩ := h
  exact h12.2.2.2
theorem gS.nf {t : gP} {U : State} {H : Heap} (h : gS t U H) : ∀ q ∈ gNf, va_Nw (.fieldLinkNest q.1 q.2.1 q.2.2.1 q.2.2.2.1 q.2.2.2.2.1 q.2.2.2.2.2) U := by
  obtain ⟨-, -, -, -, -, -, -, -, -, -, h11, -⟩ := h
  exact h11
section CN6
variable {p : Program} {l : Launch} {e : Env} {R : Room} {s : State} {m : MethodId} {args : Array Value} {below : List Frame} {meth : Method} {c : Code} {H : Heap} {locs : List Loc} {cells slots mc ms : Nat} {Q : State → Prop}
variable {cc : ByteArray} {pc : Nat} {ls : Array Slot} {rest st0 : List Value} {t : gP} {ws : List Cond} {own : String} {nL : Nat} {a : Array Value} {A : Nat → Prop}
theorem x_cnewP (X : xC t p s m args c cc ws own nL) {w : va_W} (hP : va_P t.1 vwCl w H) (hD : va_D A w) (hS : va_S A s.heap H locs) (hA : ∀ q, s.heap.size ≤ q → A q) {n : Int} {N' idx : Nat} (hw : Cond.classLink own idx RX12 ∈ ws) (hN : n = (N' : Int) ∧ N' < 100000) (hcells : cells + 1 ≤ R.cells) (hslots : slots + N' ≤ R.slots) (hdg : decode cc pc = .ok (.anewarray idx, 3))
    (kk : ∀ (q : Nat) (H1 : Heap), va_P t.1 vwCl (w ++ [(q, .inl (t.2.1 106, (N', .inr (.inr (.inr (.inr (fun _ => none)))))))]) H1 → va_D A (w ++ [(q, .inl (t.2.1 106, (N', .inr (.inr (.inr (.inr (fun _ => none)))))))]) → va_S A s.heap H1 locs → W p l e R s m args below meth c H1 locs (cells + 1) (slots + N') Q (F0 m (pc + 3) ls (.ref q :: rest))) : W p l e R s m args below meth c H locs cells slots Q (F0 m pc ls (.int (iI n) :: rest)) := by
  have hx : InR n := ⟨by omega, by omega⟩
  refine va_newq (D := t.1) (cl := vwCl) (N' := N') X.1.1 X.1.2.1 X.1.2.2.2.1 (X.1.2.2.2.2 _ hw) X.2.2.1.ao.2.1 X.2.1 hP hD hS hA (fun q => by have := (iI_lt (b := 0) hx (by decide)).mp q; omega) ((iI_cl hx).trans (by omega)) (by omega) hcells hslots hdg (fun q cA H1 hK hP1 hD1 hS1 => ?_)
  have hcA : cA = t.2.1 106 := by
    have q1 := (hK.2 7 (cA, .object "TriggerNetworkLaw$Place") rfl).2
    have q2 := (hK.2 5 (t.2.1 106, .object "TriggerNetworkLaw$Place") rfl).2
    obtain ⟨_, _, _, _, _, h1⟩ := q1
    obtain ⟨_, _, _, _, _, h2⟩ := q2
    exact Option.some.inj (Eq.trans (Eq.symm h1) h2)
  subst hcA
  exact kk q H1 hP1 hD1 hS1
theorem x_cnewK (X : xC t p s m args c cc ws own nL) {w : va_W} (hP : va_P t.1 vwCl w H) (hD : va_D A w) (hS : va_S A s.heap H locs) (hA : ∀ q, s.heap.size ≤ q → A q) {n : Int} {N' idx : Nat} (hw : Cond.classLink own idx RX11 ∈ ws) (hN : n = (N' : Int) ∧ N' < 100000) (hcells : cells + 1 ≤ R.cells) (hslots : slots + N' ≤ R.slots) (hdg : decode cc pc = .ok (.anewarray idx, 3))
    (kk : ∀ (q : Nat) (H1 : Heap), va_P t.1 vwCl (w ++ [(q, .inl (t.2.1 107, (N', .inr (.inr (.inr (.inr (fun _ => none)))))))]) H1 → va_D A (w ++ [(q, .inl (t.2.1 107, (N', .inr (.inr (.inr (.inr (fun _ => none)))))))]) → va_S A s.heap H1 locs → W p l e R s m args below meth c H1 locs (cells + 1) (slots + N') Q (F0 m (pc + 3) ls (.ref q :: rest))) : W p l e R s m args below meth c H locs cells slots Q (F0 m pc ls (.int (iI n) :: rest)) := by
  have hx : InR n := ⟨by omega, by omega⟩
  refine va_newq (D := t.1) (cl := vwCl) (N' := N') X.1.1 X.1.2.1 X.1.2.2.2.1 (X.1.2.2.2.2 _ hw) X.2.2.1.ao.2.2 X.2.1 hP hD hS hA (fun q => by have := (iI_lt (b := 0) hx (by decide)).mp q; omega) ((iI_cl hx).trans (by omega)) (by omega) hcells hslots hdg (fun q cA H1 hK hP1 hD1 hS1 => ?_)
  have hcA : cA = t.2.1 107 := by
    have q1 := (hK.2 7 (cA, .object "TriggerNetworkLaw$Pick") rfl).2
    have q2 := (hK.2 6 (t.2.1 107, .object "TriggerNetworkLaw$Pick") rfl).2
    obtain ⟨_, _, _, _, _, h1⟩ := q1
    obtain ⟨_, _, _, _, _, h2⟩ := q2
    exact Option.some.inj (Eq.trans (Eq.symm h1) h2)
  subst hcA
  exact kk q H1 hP1 hD1 hS1
end CN6
abbrev rX10_init : Room := { frames := 1, cells := 6, slots := 124, locals := 30 }
set_option maxRecDepth 100000 in
set_option maxHeartbeats 8000000 in
theorem c_X10_init (l : Launch) (t : gP) (a : Nat) : cM l yX10_init wsX10_init rX10_init t [.ref a] [(a, .inr (14, [.null, .null, .null, .null, .null, .null, .int 0, .int 0, .int 0, .int 0, .int 0, .int 0, .int 0, .int 0, .int 0, .int 0, .int 0, .int 0, .int 0, .int 0, .int 0, .int 0, .int 0, .int 0]))] (fun (as : Nat → Nat) => [(a, .inr (14, [.ref (as 0), .ref (as 1), .ref (as 2), .ref (as 3), .ref (as 4), .ref (as 5), .int 0, .int 0, .int 0, .int 0, .int 0, .int 0, .int 0, .int 0, .int 0, .int 0, .int 0, .int 0, .int 0, .int 0, .int 0, .int 0, .int 0, .int 0])), (as 0, .inl (t.2.1 106, (8, .inr (.inr (.inr (.inr (fun _ => none))))))), (as 1, .inl (t.2.1 107, (60, .inr (.inr (.inr (.inr (fun _ => none))))))), (as 2, .inl (t.2.1 101, (20, .inl (fun _ => 0)))), (as 3, .inl (t.2.1 100, (20, .inl (fun _ => 0)))), (as 4, .inl (t.2.1 100, (8, .inl (fun _ => 0)))), (as 5, .inl (t.2.1 100, (8, .inl (fun _ => 0))))]) 6 124 := by
  refine x_ofC (cc := cX10_init) (maxL := 1) (own := RX10) (by decide) rfl rfl (Nat.le_of_ble_eq_true rfl) ?_
  intro p e s m args below meth c Q X hm hP hD hAg hS hret ls hl
  have hA : ∀ q, s.heap.size ≤ q → va_A [(a, .inr (14, [.null, .null, .null, .null, .null, .null, .int 0, .int 0, .int 0, .int 0, .int 0, .int 0, .int 0, .int 0, .int 0, .int 0, .int 0, .int 0, .int 0, .int 0, .int 0, .int 0, .int 0, .int 0]))] s.heap.size q := fun q hq => Or.inr hq
  replace hl : lv_has ls 1 [(0, .ref a)] := hl
  generalize va_A [(a, .inr (14, [.null, .null, .null, .null, .null, .null, .int 0, .int 0, .int 0, .int 0, .int 0, .int 0, .int 0, .int 0, .int 0, .int 0, .int 0, .int 0, .int 0, .int 0, .int 0, .int 0, .int 0, .int 0]))] s.heap.size = A at hD hAg hS hret hA
  refine lv_aload_n X.1.1 X.1.2.1 dX10_init_0 rfl (lv_at hl 0 rfl) ?_
  refine x_cobj X (x_w 1 rfl) (x_w 2 rfl) (x_w 3 rfl) hl.1 dX10_init_1 (by decide) (by decide) (by decide) ?_
  refine lv_aload_n X.1.1 X.1.2.1 dX10_init_4 rfl (lv_at hl 0 rfl) ?_
  refine x_bipush X dX10_init_5 (by decide) ?_
  refine x_cnewP (N' := 8) X hP hD hS hA (x_w 4 rfl) ⟨rfl, by decide⟩ (by decide) (by decide) dX10_init_7 (fun q0 H hP hD hS => ?_)
  refine x_cputF X hm hP hD hS tyX10 tyX10_ok nmX10 (by decide +kernel) rfl 0 (by decide) (x_w 5 rfl) rfl rfl (ty := .array (.object "TriggerNetworkLaw$Place")) (by decide +kernel) rfl rfl (Nat.le_of_ble_eq_true rfl) dX10_init_10 (fun H locs hP hD hS => ?_)
  refine lv_aload_n X.1.1 X.1.2.1 dX10_init_13 rfl (lv_at hl 0 rfl) ?_
  refine x_bipush X dX10_init_14 (by decide) ?_
  refine x_cnewK (N' := 60) X hP hD hS hA (x_w 6 rfl) ⟨rfl, by decide⟩ (by decide) (by decide) dX10_init_16 (fun q1 H hP hD hS => ?_)
  refine x_cputF X hm hP hD hS tyX10 tyX10_ok nmX10 (by decide +kernel) rfl 1 (by decide) (x_w 7 rfl) rfl rfl (ty := .array (.object "TriggerNetworkLaw$Pick")) (by decide +kernel) rfl rfl (Nat.le_of_ble_eq_true rfl) dX10_init_19 (fun H locs hP hD hS => ?_)
  refine lv_aload_n X.1.1 X.1.2.1 dX10_init_22 rfl (lv_at hl 0 rfl) ?_
  refine x_bipush X dX10_init_23 (by decide) ?_
  refine x_cnewz (N' := 20) X hP hD hS hA (x_w 8 rfl) ⟨rfl, by decide⟩ (by decide) (by decide) dX10_init_25 (fun q2 H hP hD hS => ?_)
  refine x_cputF X hm hP hD hS tyX10 tyX10_ok nmX10 (by decide +kernel) rfl 2 (by decide) (x_w 9 rfl) rfl rfl (ty := .array .boolean) (by decide +kernel) rfl rfl (Nat.le_of_ble_eq_true rfl) dX10_init_27 (fun H locs hP hD hS => ?_)
  refine lv_aload_n X.1.1 X.1.2.1 dX10_init_30 rfl (lv_at hl 0 rfl) ?_
  refine x_bipush X dX10_init_31 (by decide) ?_
  refine x_cnewi (N' := 20) X hP hD hS hA (x_w 10 rfl) ⟨rfl, by decide⟩ (by decide) (by decide) dX10_init_33 (fun q3 H hP hD hS => ?_)
  refine x_cputF X hm hP hD hS tyX10 tyX10_ok nmX10 (by decide +kernel) rfl 3 (by decide) (x_w 11 rfl) rfl rfl (ty := .array .int) (by decide +kernel) rfl rfl (Nat.le_of_ble_eq_true rfl) dX10_init_35 (fun H locs hP hD hS => ?_)
  refine lv_aload_n X.1.1 X.1.2.1 dX10_init_38 rfl (lv_at hl 0 rfl) ?_
  refine x_bipush X dX10_init_39 (by decide) ?_
  refine x_cnewi (N' := 8) X hP hD hS hA (x_w 10 rfl) ⟨rfl, by decide⟩ (by decide) (by decide) dX10_init_41 (fun q4 H hP hD hS => ?_)
  refine x_cputF X hm hP hD hS tyX10 tyX10_ok nmX10 (by decide +kernel) rfl 4 (by decide) (x_w 12 rfl) rfl rfl (ty := .array .int) (by decide +kernel) rfl rfl (Nat.le_of_ble_eq_true rfl) dX10_init_43 (fun H locs hP hD hS => ?_)
  refine lv_aload_n X.1.1 X.1.2.1 dX10_init_46 rfl (lv_at hl 0 rfl) ?_
  refine x_bipush X dX10_init_47 (by decide) ?_
  refine x_cnewi (N' := 8) X hP hD hS hA (x_w 10 rfl) ⟨rfl, by decide⟩ (by decide) (by decide) dX10_init_49 (fun q5 H hP hD hS => ?_)
  refine x_cputF X hm hP hD hS tyX10 tyX10_ok nmX10 (by decide +kernel) rfl 5 (by decide) (x_w 13 rfl) rfl rfl (ty := .array .int) (by decide +kernel) rfl rfl (Nat.le_of_ble_eq_true rfl) dX10_init_51 (fun H locs hP hD hS => ?_)
  exact hret (fun i => [q0, q1, q2, q3, q4, q5].getD i 0) _ _ _ _ _ _ (by decide) (by decide) dX10_init_54 hP hD hS
theorem hd_X10_init : yX10_init.cls ≠ "java/lang/invoke/MethodHandle" ∧ yX10_init.cls ≠ "java/lang/invoke/VarHandle" ∧ (parseMethodDescriptor yX10_init.desc).map (fun d => d.parameters.length) = some 0 := by decide +kernel
