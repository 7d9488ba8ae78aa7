/-! X, part o: straight constructors -/
abbrev rX0_init : Room := { frames := 1, cells := 1, slots := 60, locals := 30 }
set_option maxRecDepth 100000 in
set_option maxHeartbeats 8000000 in
theorem c_X0_init (l : Launch) (t : gP) (a : Nat) : cM l yX0_init wsX0_init rX0_init t [.ref a] [(a, .inr (4, [.null, .int 0]))] (fun (as : Nat → Nat) => [(a, .inr (4, [.ref (as 0), .int 0])), (as 0, .inl (t.2.1 100, (60, .inl (fun _ => 0))))]) 1 60 := by
  refine x_ofC (cc := cX0_init) (maxL := 1) (own := RX0) (by decide) rfl rfl (Nat.le_of_ble_eq_true rfl) ?_
  intro p e s m args below meth c Q X hm hP hD hAg hS hret ls hl
  have hA : ∀ q, s.heap.size ≤ q → va_A [(a, .inr (4, [.null, .int 0]))] s.heap.size q := fun q hq => Or.inr hq
  replace hl : lv_has ls 1 [(0, .ref a)] := hl
  generalize va_A [(a, .inr (4, [.null, .int 0]))] s.heap.size = A at hD hAg hS hret hA
  refine lv_aload_n X.1.1 X.1.2.1 dX0_init_0 rfl (lv_at hl 0 rfl) ?_
  refine x_cobj X (x_w 1 rfl) (x_w 2 rfl) (x_w 3 rfl) hl.1 dX0_init_1 (by decide) (by decide) (by decide) ?_
  refine lv_aload_n X.1.1 X.1.2.1 dX0_init_4 rfl (lv_at hl 0 rfl) ?_
  refine x_bipush X dX0_init_5 (by decide) ?_
  refine x_cnewi (N' := 60) X hP hD hS hA (x_w 4 rfl) ⟨rfl, by decide⟩ (by decide) (by decide) dX0_init_7 (fun q0 H hP hD hS => ?_)
  refine x_cputF X hm hP hD hS tyX0 tyX0_ok nmX0 (by decide +kernel) rfl 0 (by decide) (x_w 5 rfl) rfl rfl (ty := .array .int) (by decide +kernel) rfl rfl (Nat.le_of_ble_eq_true rfl) dX0_init_9 (fun H locs hP hD hS => ?_)
  exact hret (fun i => [q0].getD i 0) _ _ _ _ _ _ (by decide) (by decide) dX0_init_12 hP hD hS
theorem hd_X0_init : yX0_init.cls ≠ "java/lang/invoke/MethodHandle" ∧ yX0_init.cls ≠ "java/lang/invoke/VarHandle" ∧ (parseMethodDescriptor yX0_init.desc).map (fun d => d.parameters.length) = some 0 := by decide +kernel
abbrev rX3_init : Room := { frames := 1, cells := 2, slots := 120, locals := 30 }
set_option maxRecDepth 100000 in
set_option maxHeartbeats 8000000 in
theorem c_X3_init (l : Launch) (t : gP) (a : Nat) : cM l yX3_init wsX3_init rX3_init t [.ref a] [(a, .inr (7, [.int 0, .int 0, .int 0, .int 0, .null, .null]))] (fun (as : Nat → Nat) => [(a, .inr (7, [.int 0, .int 0, .int 0, .int 0, .ref (as 0), .ref (as 1)])), (as 0, .inl (t.2.1 100, (60, .inl (fun _ => 0)))), (as 1, .inl (t.2.1 100, (60, .inl (fun _ => 0))))]) 2 120 := by
  refine x_ofC (cc := cX3_init) (maxL := 1) (own := RX3) (by decide) rfl rfl (Nat.le_of_ble_eq_true rfl) ?_
  intro p e s m args below meth c Q X hm hP hD hAg hS hret ls hl
  have hA : ∀ q, s.heap.size ≤ q → va_A [(a, .inr (7, [.int 0, .int 0, .int 0, .int 0, .null, .null]))] s.heap.size q := fun q hq => Or.inr hq
  replace hl : lv_has ls 1 [(0, .ref a)] := hl
  generalize va_A [(a, .inr (7, [.int 0, .int 0, .int 0, .int 0, .null, .null]))] s.heap.size = A at hD hAg hS hret hA
  refine lv_aload_n X.1.1 X.1.2.1 dX3_init_0 rfl (lv_at hl 0 rfl) ?_
  refine x_cobj X (x_w 1 rfl) (x_w 2 rfl) (x_w 3 rfl) hl.1 dX3_init_1 (by decide) (by decide) (by decide) ?_
  refine lv_aload_n X.1.1 X.1.2.1 dX3_init_4 rfl (lv_at hl 0 rfl) ?_
  refine x_bipush X dX3_init_5 (by decide) ?_
  refine x_cnewi (N' := 60) X hP hD hS hA (x_w 4 rfl) ⟨rfl, by decide⟩ (by decide) (by decide) dX3_init_7 (fun q0 H hP hD hS => ?_)
  refine x_cputF X hm hP hD hS tyX3 tyX3_ok nmX3 (by decide +kernel) rfl 4 (by decide) (x_w 5 rfl) rfl rfl (ty := .array .int) (by decide +kernel) rfl rfl (Nat.le_of_ble_eq_true rfl) dX3_init_9 (fun H locs hP hD hS => ?_)
  refine lv_aload_n X.1.1 X.1.2.1 dX3_init_12 rfl (lv_at hl 0 rfl) ?_
  refine x_bipush X dX3_init_13 (by decide) ?_
  refine x_cnewi (N' := 60) X hP hD hS hA (x_w 4 rfl) ⟨rfl, by decide⟩ (by decide) (by decide) dX3_init_15 (fun q1 H hP hD hS => ?_)
  refine x_cputF X hm hP hD hS tyX3 tyX3_ok nmX3 (by decide +kernel) rfl 5 (by decide) (x_w 6 rfl) rfl rfl (ty := .array .int) (by decide +kernel) rfl rfl (Nat.le_of_ble_eq_true rfl) dX3_init_17 (fun H locs hP hD hS => ?_)
  exact hret (fun i => [q0, q1].getD i 0) _ _ _ _ _ _ (by decide) (by decide) dX3_init_20 hP hD hS
theorem hd_X3_init : yX3_init.cls ≠ "java/lang/invoke/MethodHandle" ∧ yX3_init.cls ≠ "java/lang/invoke/VarHandle" ∧ (parseMethodDescriptor yX3_init.desc).map (fun d => d.parameters.length) = some 0 := by decide +kernel
abbrev rX6_init : Room := { frames := 1, cells := 2, slots := 16, locals := 30 }
set_option maxRecDepth 100000 in
set_option maxHeartbeats 8000000 in
theorem c_X6_init (l : Launch) (t : gP) (a : Nat) : cM l yX6_init wsX6_init rX6_init t [.ref a] [(a, .inr (10, [.int 0, .null, .null]))] (fun (as : Nat → Nat) => [(a, .inr (10, [.int 0, .ref (as 0), .ref (as 1)])), (as 0, .inl (t.2.1 100, (8, .inl (fun _ => 0)))), (as 1, .inl (t.2.1 100, (8, .inl (fun _ => 0))))]) 2 16 := by
  refine x_ofC (cc := cX6_init) (maxL := 1) (own := RX6) (by decide) rfl rfl (Nat.le_of_ble_eq_true rfl) ?_
  intro p e s m args below meth c Q X hm hP hD hAg hS hret ls hl
  have hA : ∀ q, s.heap.size ≤ q → va_A [(a, .inr (10, [.int 0, .null, .null]))] s.heap.size q := fun q hq => Or.inr hq
  replace hl : lv_has ls 1 [(0, .ref a)] := hl
  generalize va_A [(a, .inr (10, [.int 0, .null, .null]))] s.heap.size = A at hD hAg hS hret hA
  refine lv_aload_n X.1.1 X.1.2.1 dX6_init_0 rfl (lv_at hl 0 rfl) ?_
  refine x_cobj X (x_w 1 rfl) (x_w 2 rfl) (x_w 3 rfl) hl.1 dX6_init_1 (by decide) (by decide) (by decide) ?_
  refine lv_aload_n X.1.1 X.1.2.1 dX6_init_4 rfl (lv_at hl 0 rfl) ?_
  refine x_bipush X dX6_init_5 (by decide) ?_
  refine x_cnewi (N' := 8) X hP hD hS hA (x_w 4 rfl) ⟨rfl, by decide⟩ (by decide) (by decide) dX6_init_7 (fun q0 H hP hD hS => ?_)
  refine x_cputF X hm hP hD hS tyX6 tyX6_ok nmX6 (by decide +kernel) rfl 1 (by decide) (x_w 5 rfl) rfl rfl (ty := .array .int) (by decide +kernel) rfl rfl (Nat.le_of_ble_eq_true rfl) dX6_init_9 (fun H locs hP hD hS => ?_)
  refine lv_aload_n X.1.1 X.1.2.1 dX6_init_12 rfl (lv_at hl 0 rfl) ?_
  refine x_bipush X dX6_init_13 (by decide) ?_
  refine x_cnewi (N' := 8) X hP hD hS hA (x_w 4 rfl) ⟨rfl, by decide⟩ (by decide) (by decide) dX6_init_15 (fun q1 H hP hD hS => ?_)
  refine x_cputF X hm hP hD hS tyX6 tyX6_ok nmX6 (by decide +kernel) rfl 2 (by decide) (x_w 6 rfl) rfl rfl (ty := .array .int) (by decide +kernel) rfl rfl (Nat.le_of_ble_eq_true rfl) dX6_init_17 (fun H locs hP hD hS => ?_)
  exact hret (fun i => [q0, q1].getD i 0) _ _ _ _ _ _ (by decide) (by decide) dX6_init_20 hP hD hS
theorem hd_X6_init : yX6_init.cls ≠ "java/lang/invoke/MethodHandle" ∧ yX6_init.cls ≠ "java/lang/invoke/VarHandle" ∧ (parseMethodDescriptor yX6_init.desc).map (fun d => d.parameters.length) = some 0 := by decide +kernel
abbrev rX7_init : Room := { frames := 1, cells := 14, slots := 1180, locals := 30 }
set_option maxRecDepth 100000 in
set_option maxHeartbeats 8000000 in
theorem c_X7_init (l : Launch) (t : gP) (a : Nat) : cM l yX7_init wsX7_init rX7_init t [.ref a] [(a, .inr (11, [.int 0, .int 0, .int 0, .null, .null, .null, .null, .null, .null, .null, .null, .null, .null, .null, .null, .null, .null]))] (fun (as : Nat → Nat) => [(a, .inr (11, [.int 0, .int 0, .int 0, .ref (as 0), .ref (as 1), .ref (as 2), .ref (as 3), .ref (as 4), .ref (as 5), .ref (as 6), .ref (as 7), .ref (as 8), .ref (as 9), .ref (as 10), .ref (as 11), .ref (as 12), .ref (as 13)])), (as 0, .inl (t.2.1 100, (8, .inl (fun _ => 0)))), (as 1, .inl (t.2.1 100, (792, .inl (fun _ => 0)))), (as 2, .inl (t.2.1 100, (8, .inl (fun _ => 0)))), (as 3, .inl (t.2.1 100, (8, .inl (fun _ => 0)))), (as 4, .inl (t.2.1 100, (8, .inl (fun _ => 0)))), (as 5, .inl (t.2.1 100, (8, .inl (fun _ => 0)))), (as 6, .inl (t.2.1 100, (8, .inl (fun _ => 0)))), (as 7, .inl (t.2.1 100, (60, .inl (fun _ => 0)))), (as 8, .inl (t.2.1 100, (60, .inl (fun _ => 0)))), (as 9, .inl (t.2.1 100, (60, .inl (fun _ => 0)))), (as 10, .inl (t.2.1 100, (60, .inl (fun _ => 0)))), (as 11, .inl (t.2.1 100, (60, .inl (fun _ => 0)))), (as 12, .inl (t.2.1 100, (20, .inl (fun _ => 0)))), (as 13, .inl (t.2.1 100, (20, .inl (fun _ => 0))))]) 14 1180 := by
  refine x_ofC (cc := cX7_init) (maxL := 1) (own := RX7) (by decide) rfl rfl (Nat.le_of_ble_eq_true rfl) ?_
  intro p e s m args below meth c Q X hm hP hD hAg hS hret ls hl
  have hA : ∀ q, s.heap.size ≤ q → va_A [(a, .inr (11, [.int 0, .int 0, .int 0, .null, .null, .null, .null, .null, .null, .null, .null, .null, .null, .null, .null, .null, .null]))] s.heap.size q := fun q hq => Or.inr hq
  replace hl : lv_has ls 1 [(0, .ref a)] := hl
  generalize va_A [(a, .inr (11, [.int 0, .int 0, .int 0, .null, .null, .null, .null, .null, .null, .null, .null, .null, .null, .null, .null, .null, .null]))] s.heap.size = A at hD hAg hS hret hA
  refine lv_aload_n X.1.1 X.1.2.1 dX7_init_0 rfl (lv_at hl 0 rfl) ?_
  refine x_cobj X (x_w 1 rfl) (x_w 2 rfl) (x_w 3 rfl) hl.1 dX7_init_1 (by decide) (by decide) (by decide) ?_
  refine lv_aload_n X.1.1 X.1.2.1 dX7_init_4 rfl (lv_at hl 0 rfl) ?_
  refine x_bipush X dX7_init_5 (by decide) ?_
  refine x_cnewi (N' := 8) X hP hD hS hA (x_w 4 rfl) ⟨rfl, by decide⟩ (by decide) (by decide) dX7_init_7 (fun q0 H hP hD hS => ?_)
  refine x_cputF X hm hP hD hS tyX7 tyX7_ok nmX7 (by decide +kernel) rfl 3 (by decide) (x_w 5 rfl) rfl rfl (ty := .array .int) (by decide +kernel) rfl rfl (Nat.le_of_ble_eq_true rfl) dX7_init_9 (fun H locs hP hD hS => ?_)
  refine lv_aload_n X.1.1 X.1.2.1 dX7_init_12 rfl (lv_at hl 0 rfl) ?_
  refine x_sipush X dX7_init_13 (by decide) ?_
  refine x_cnewi (N' := 792) X hP hD hS hA (x_w 4 rfl) ⟨rfl, by decide⟩ (by decide) (by decide) dX7_init_16 (fun q1 H hP hD hS => ?_)
  refine x_cputF X hm hP hD hS tyX7 tyX7_ok nmX7 (by decide +kernel) rfl 4 (by decide) (x_w 6 rfl) rfl rfl (ty := .array .int) (by decide +kernel) rfl rfl (Nat.le_of_ble_eq_true rfl) dX7_init_18 (fun H locs hP hD hS => ?_)
  refine lv_aload_n X.1.1 X.1.2.1 dX7_init_21 rfl (lv_at hl 0 rfl) ?_
  refine x_bipush X dX7_init_22 (by decide) ?_
  refine x_cnewi (N' := 8) X hP hD hS hA (x_w 4 rfl) ⟨rfl, by decide⟩ (by decide) (by decide) dX7_init_24 (fun q2 H hP hD hS => ?_)
  refine x_cputF X hm hP hD hS tyX7 tyX7_ok nmX7 (by decide +kernel) rfl 5 (by decide) (x_w 7 rfl) rfl rfl (ty := .array .int) (by decide +kernel) rfl rfl (Nat.le_of_ble_eq_true rfl) dX7_init_26 (fun H locs hP hD hS => ?_)
  refine lv_aload_n X.1.1 X.1.2.1 dX7_init_29 rfl (lv_at hl 0 rfl) ?_
  refine x_bipush X dX7_init_30 (by decide) ?_
  refine x_cnewi (N' := 8) X hP hD hS hA (x_w 4 rfl) ⟨rfl, by decide⟩ (by decide) (by decide) dX7_init_32 (fun q3 H hP hD hS => ?_)
  refine x_cputF X hm hP hD hS tyX7 tyX7_ok nmX7 (by decide +kernel) rfl 6 (by decide) (x_w 8 rfl) rfl rfl (ty := .array .int) (by decide +kernel) rfl rfl (Nat.le_of_ble_eq_true rfl) dX7_init_34 (fun H locs hP hD hS => ?_)
  refine lv_aload_n X.1.1 X.1.2.1 dX7_init_37 rfl (lv_at hl 0 rfl) ?_
  refine x_bipush X dX7_init_38 (by decide) ?_
  refine x_cnewi (N' := 8) X hP hD hS hA (x_w 4 rfl) ⟨rfl, by decide⟩ (by decide) (by decide) dX7_init_40 (fun q4 H hP hD hS => ?_)
  refine x_cputF X hm hP hD hS tyX7 tyX7_ok nmX7 (by decide +kernel) rfl 7 (by decide) (x_w 9 rfl) rfl rfl (ty := .array .int) (by decide +kernel) rfl rfl (Nat.le_of_ble_eq_true rfl) dX7_init_42 (fun H locs hP hD hS => ?_)
  refine lv_aload_n X.1.1 X.1.2.1 dX7_init_45 rfl (lv_at hl 0 rfl) ?_
  refine x_bipush X dX7_init_46 (by decide) ?_
  refine x_cnewi (N' := 8) X hP hD hS hA (x_w 4 rfl) ⟨rfl, by decide⟩ (by decide) (by decide) dX7_init_48 (fun q5 H hP hD hS => ?_)
  refine x_cputF X hm hP hD hS tyX7 tyX7_ok nmX7 (by decide +kernel) rfl 8 (by decide) (x_w 10 rfl) rfl rfl (ty := .array .int) (by decide +kernel) rfl rfl (Nat.le_of_ble_eq_true rfl) dX7_init_50 (fun H locs hP hD hS => ?_)
  refine lv_aload_n X.1.1 X.1.2.1 dX7_init_53 rfl (lv_at hl 0 rfl) ?_
  refine x_bipush X dX7_init_54 (by decide) ?_
  refine x_cnewi (N' := 8) X hP hD hS hA (x_w 4 rfl) ⟨rfl, by decide⟩ (by decide) (by decide) dX7_init_56 (fun q6 H hP hD hS => ?_)
  refine x_cputF X hm hP hD hS tyX7 tyX7_ok nmX7 (by decide +kernel) rfl 9 (by decide) (x_w 11 rfl) rfl rfl (ty := .array .int) (by decide +kernel) rfl rfl (Nat.le_of_ble_eq_true rfl) dX7_init_58 (fun H locs hP hD hS => ?_)
  refine lv_aload_n X.1.1 X.1.2.1 dX7_init_61 rfl (lv_at hl 0 rfl) ?_
  refine x_bipush X dX7_init_62 (by decide) ?_
  refine x_cnewi (N' := 60) X hP hD hS hA (x_w 4 rfl) ⟨rfl, by decide⟩ (by decide) (by decide) dX7_init_64 (fun q7 H hP hD hS => ?_)
  refine x_cputF X hm hP hD hS tyX7 tyX7_ok nmX7 (by decide +kernel) rfl 10 (by decide) (x_w 12 rfl) rfl rfl (ty := .array .int) (by decide +kernel) rfl rfl (Nat.le_of_ble_eq_true rfl) dX7_init_66 (fun H locs hP hD hS => ?_)
  refine lv_aload_n X.1.1 X.1.2.1 dX7_init_69 rfl (lv_at hl 0 rfl) ?_
  refine x_bipush X dX7_init_70 (by decide) ?_
  refine x_cnewi (N' := 60) X hP hD hS hA (x_w 4 rfl) ⟨rfl, by decide⟩ (by decide) (by decide) dX7_init_72 (fun q8 H hP hD hS => ?_)
  refine x_cputF X hm hP hD hS tyX7 tyX7_ok nmX7 (by decide +kernel) rfl 11 (by decide) (x_w 13 rfl) rfl rfl (ty := .array .int) (by decide +kernel) rfl rfl (Nat.le_of_ble_eq_true rfl) dX7_init_74 (fun H locs hP hD hS => ?_)
  refine lv_aload_n X.1.1 X.1.2.1 dX7_init_77 rfl (lv_at hl 0 rfl) ?_
  refine x_bipush X dX7_init_78 (by decide) ?_
  refine x_cnewi (N' := 60) X hP hD hS hA (x_w 4 rfl) ⟨rfl, by decide⟩ (by decide) (by decide) dX7_init_80 (fun q9 H hP hD hS => ?_)
  refine x_cputF X hm hP hD hS tyX7 tyX7_ok nmX7 (by decide +kernel) rfl 12 (by decide) (x_w 14 rfl) rfl rfl (ty := .array .int) (by decide +kernel) rfl rfl (Nat.le_of_ble_eq_true rfl) dX7_init_82 (fun H locs hP hD hS => ?_)
  refine lv_aload_n X.1.1 X.1.2.1 dX7_init_85 rfl (lv_at hl 0 rfl) ?_
  refine x_bipush X dX7_init_86 (by decide) ?_
  refine x_cnewi (N' := 60) X hP hD hS hA (x_w 4 rfl) ⟨rfl, by decide⟩ (by decide) (by decide) dX7_init_88 (fun q10 H hP hD hS => ?_)
  refine x_cputF X hm hP hD hS tyX7 tyX7_ok nmX7 (by decide +kernel) rfl 13 (by decide) (x_w 15 rfl) rfl rfl (ty := .array .int) (by decide +kernel) rfl rfl (Nat.le_of_ble_eq_true rfl) dX7_init_90 (fun H locs hP hD hS => ?_)
  refine lv_aload_n X.1.1 X.1.2.1 dX7_init_93 rfl (lv_at hl 0 rfl) ?_
  refine x_bipush X dX7_init_94 (by decide) ?_
  refine x_cnewi (N' := 60) X hP hD hS hA (x_w 4 rfl) ⟨rfl, by decide⟩ (by decide) (by decide) dX7_init_96 (fun q11 H hP hD hS => ?_)
  refine x_cputF X hm hP hD hS tyX7 tyX7_ok nmX7 (by decide +kernel) rfl 14 (by decide) (x_w 16 rfl) rfl rfl (ty := .array .int) (by decide +kernel) rfl rfl (Nat.le_of_ble_eq_true rfl) dX7_init_98 (fun H locs hP hD hS => ?_)
  refine lv_aload_n X.1.1 X.1.2.1 dX7_init_101 rfl (lv_at hl 0 rfl) ?_
  refine x_bipush X dX7_init_102 (by decide) ?_
  refine x_cnewi (N' := 20) X hP hD hS hA (x_w 4 rfl) ⟨rfl, by decide⟩ (by decide) (by decide) dX7_init_104 (fun q12 H hP hD hS => ?_)
  refine x_cputF X hm hP hD hS tyX7 tyX7_ok nmX7 (by decide +kernel) rfl 15 (by decide) (x_w 17 rfl) rfl rfl (ty := .array .int) (by decide +kernel) rfl rfl (Nat.le_of_ble_eq_true rfl) dX7_init_106 (fun H locs hP hD hS => ?_)
  refine lv_aload_n X.1.1 X.1.2.1 dX7_init_109 rfl (lv_at hl 0 rfl) ?_
  refine x_bipush X dX7_init_110 (by decide) ?_
  refine x_cnewi (N' := 20) X hP hD hS hA (x_w 4 rfl) ⟨rfl, by decide⟩ (by decide) (by decide) dX7_init_112 (fun q13 H hP hD hS => ?_)
  refine x_cputF X hm hP hD hS tyX7 tyX7_ok nmX7 (by decide +kernel) rfl 16 (by decide) (x_w 18 rfl) rfl rfl (ty := .array .int) (by decide +kernel) rfl rfl (Nat.le_of_ble_eq_true rfl) dX7_init_114 (fun H locs hP hD hS => ?_)
  exact hret (fun i => [q0, q1, q2, q3, q4, q5, q6, q7, q8, q9, q10, q11, q12, q13].getD i 0) _ _ _ _ _ _ (by decide) (by decide) dX7_init_117 hP hD hS
theorem hd_X7_init : yX7_init.cls ≠ "java/lang/invoke/MethodHandle" ∧ yX7_init.cls ≠ "java/lang/invoke/VarHandle" ∧ (parseMethodDescriptor yX7_init.desc).map (fun d => d.parameters.length) = some 0 := by decide +kernel
abbrev rX8_init : Room := { frames := 1, cells := 4, slots := 2000, locals := 30 }
set_option maxRecDepth 100000 in
set_option maxHeartbeats 8000000 in
theorem c_X8_init (l : Launch) (t : gP) (a : Nat) : cM l yX8_init wsX8_init rX8_init t [.ref a] [(a, .inr (12, [.int 0, .null, .null, .null, .null]))] (fun (as : Nat → Nat) => [(a, .inr (12, [.int 0, .ref (as 0), .ref (as 1), .ref (as 2), .ref (as 3)])), (as 0, .inl (t.2.1 100, (500, .inl (fun _ => 0)))), (as 1, .inl (t.2.1 100, (500, .inl (fun _ => 0)))), (as 2, .inl (t.2.1 100, (500, .inl (fun _ => 0)))), (as 3, .inl (t.2.1 100, (500, .inl (fun _ => 0))))]) 4 2000 := by
  refine x_ofC (cc := cX8_init) (maxL := 1) (own := RX8) (by decide) rfl rfl (Nat.le_of_ble_eq_true rfl) ?_
  intro p e s m args below meth c Q X hm hP hD hAg hS hret ls hl
  have hA : ∀ q, s.heap.size ≤ q → va_A [(a, .inr (12, [.int 0, .null, .null, .null, .null]))] s.heap.size q := fun q hq => Or.inr hq
  replace hl : lv_has ls 1 [(0, .ref a)] := hl
  generalize va_A [(a, .inr (12, [.int 0, .null, .null, .null, .null]))] s.heap.size = A at hD hAg hS hret hA
  refine lv_aload_n X.1.1 X.1.2.1 dX8_init_0 rfl (lv_at hl 0 rfl) ?_
  refine x_cobj X (x_w 1 rfl) (x_w 2 rfl) (x_w 3 rfl) hl.1 dX8_init_1 (by decide) (by decide) (by decide) ?_
  refine lv_aload_n X.1.1 X.1.2.1 dX8_init_4 rfl (lv_at hl 0 rfl) ?_
  refine x_sipush X dX8_init_5 (by decide) ?_
  refine x_cnewi (N' := 500) X hP hD hS hA (x_w 4 rfl) ⟨rfl, by decide⟩ (by decide) (by decide) dX8_init_8 (fun q0 H hP hD hS => ?_)
  refine x_cputF X hm hP hD hS tyX8 tyX8_ok nmX8 (by decide +kernel) rfl 1 (by decide) (x_w 5 rfl) rfl rfl (ty := .array .int) (by decide +kernel) rfl rfl (Nat.le_of_ble_eq_true rfl) dX8_init_10 (fun H locs hP hD hS => ?_)
  refine lv_aload_n X.1.1 X.1.2.1 dX8_init_13 rfl (lv_at hl 0 rfl) ?_
  refine x_sipush X dX8_init_14 (by decide) ?_
  refine x_cnewi (N' := 500) X hP hD hS hA (x_w 4 rfl) ⟨rfl, by decide⟩ (by decide) (by decide) dX8_init_17 (fun q1 H hP hD hS => ?_)
  refine x_cputF X hm hP hD hS tyX8 tyX8_ok nmX8 (by decide +kernel) rfl 2 (by decide) (x_w 6 rfl) rfl rfl (ty := .array .int) (by decide +kernel) rfl rfl (Nat.le_of_ble_eq_true rfl) dX8_init_19 (fun H locs hP hD hS => ?_)
  refine lv_aload_n X.1.1 X.1.2.1 dX8_init_22 rfl (lv_at hl 0 rfl) ?_
  refine x_sipush X dX8_init_23 (by decide) ?_
  refine x_cnewi (N' := 500) X hP hD hS hA (x_w 4 rfl) ⟨rfl, by decide⟩ (by decide) (by decide) dX8_init_26 (fun q2 H hP hD hS => ?_)
  refine x_cputF X hm hP hD hS tyX8 tyX8_ok nmX8 (by decide +kernel) rfl 3 (by decide) (x_w 7 rfl) rfl rfl (ty := .array .int) (by decide +kernel) rfl rfl (Nat.le_of_ble_eq_true rfl) dX8_init_28 (fun H locs hP hD hS => ?_)
  refine lv_aload_n X.1.1 X.1.2.1 dX8_init_31 rfl (lv_at hl 0 rfl) ?_
  refine x_sipush X dX8_init_32 (by decide) ?_
  refine x_cnewi (N' := 500) X hP hD hS hA (x_w 4 rfl) ⟨rfl, by decide⟩ (by decide) (by decide) dX8_init_35 (fun q3 H hP hD hS => ?_)
  refine x_cputF X hm hP hD hS tyX8 tyX8_ok nmX8 (by decide +kernel) rfl 4 (by decide) (x_w 8 rfl) rfl rfl (ty := .array .int) (by decide +kernel) rfl rfl (Nat.le_of_ble_eq_true rfl) dX8_init_37 (fun H locs hP hD hS => ?_)
  exact hret (fun i => [q0, q1, q2, q3].getD i 0) _ _ _ _ _ _ (by decide) (by decide) dX8_init_40 hP hD hS
theorem hd_X8_init : yX8_init.cls ≠ "java/lang/invoke/MethodHandle" ∧ yX8_init.cls ≠ "java/lang/invoke/VarHandle" ∧ (parseMethodDescriptor yX8_init.desc).map (fun d => d.parameters.length) = some 0 := by decide +kernel
abbrev rX11_init : Room := { frames := 1, cells := 0, slots := 0, locals := 30 }
set_option maxRecDepth 100000 in
set_option maxHeartbeats 8000000 in
theorem c_X11_init (l : Launch) (t : gP) (a : Nat) : cM l yX11_init wsX11_init rX11_init t [.ref a] [(a, .inr (15, [.int 0, .int 0, .int 0, .int 0, .int 0]))] (fun (as : Nat → Nat) => [(a, .inr (15, [.int 0, .int 0, .int 0, .int (-1), .int 0]))]) 0 0 := by
  refine x_ofC (cc := cX11_init) (maxL := 1) (own := RX11) (by decide) rfl rfl (Nat.le_of_ble_eq_true rfl) ?_
  intro p e s m args below meth c Q X hm hP hD hAg hS hret ls hl
  have hA : ∀ q, s.heap.size ≤ q → va_A [(a, .inr (15, [.int 0, .int 0, .int 0, .int 0, .int 0]))] s.heap.size q := fun q hq => Or.inr hq
  replace hl : lv_has ls 1 [(0, .ref a)] := hl
  generalize va_A [(a, .inr (15, [.int 0, .int 0, .int 0, .int 0, .int 0]))] s.heap.size = A at hD hAg hS hret hA
  refine lv_aload_n X.1.1 X.1.2.1 dX11_init_0 rfl (lv_at hl 0 rfl) ?_
  refine x_cobj X (x_w 1 rfl) (x_w 2 rfl) (x_w 3 rfl) hl.1 dX11_init_1 (by decide) (by decide) (by decide) ?_
  refine lv_aload_n X.1.1 X.1.2.1 dX11_init_4 rfl (lv_at hl 0 rfl) ?_
  refine x_iconst X dX11_init_5 ?_
  refine x_cput X hP hD hS tyX11 tyX11_ok nmX11 (by decide +kernel) rfl 3 (by decide) (x_w 4 rfl) rfl (ty := .int) (by decide +kernel) rfl rfl (Nat.le_of_ble_eq_true rfl) dX11_init_6 (fun H locs hP hD hS => ?_)
  exact hret (fun i => [].getD i 0) _ _ _ _ _ _ (by decide) (by decide) dX11_init_9 hP hD hS
theorem hd_X11_init : yX11_init.cls ≠ "java/lang/invoke/MethodHandle" ∧ yX11_init.cls ≠ "java/lang/invoke/VarHandle" ∧ (parseMethodDescriptor yX11_init.desc).map (fun d => d.parameters.length) = some 0 := by decide +kernel
abbrev rX12_init : Room := { frames := 1, cells := 1, slots := 400, locals := 30 }
set_option maxRecDepth 100000 in
set_option maxHeartbeats 8000000 in
theorem c_X12_init (l : Launch) (t : gP) (a : Nat) : cM l yX12_init wsX12_init rX12_init t [.ref a] [(a, .inr (16, [.int 0, .int 0, .int 0, .int 0, .int 0, .int 0, .null]))] (fun (as : Nat → Nat) => [(a, .inr (16, [.int 0, .int 0, .int 0, .int (-1), .int 0, .int 0, .ref (as 0)])), (as 0, .inl (t.2.1 100, (400, .inl (fun _ => 0))))]) 1 400 := by
  refine x_ofC (cc := cX12_init) (maxL := 1) (own := RX12) (by decide) rfl rfl (Nat.le_of_ble_eq_true rfl) ?_
  intro p e s m args below meth c Q X hm hP hD hAg hS hret ls hl
  have hA : ∀ q, s.heap.size ≤ q → va_A [(a, .inr (16, [.int 0, .int 0, .int 0, .int 0, .int 0, .int 0, .null]))] s.heap.size q := fun q hq => Or.inr hq
  replace hl : lv_has ls 1 [(0, .ref a)] := hl
  generalize va_A [(a, .inr (16, [.int 0, .int 0, .int 0, .int 0, .int 0, .int 0, .null]))] s.heap.size = A at hD hAg hS hret hA
  refine lv_aload_n X.1.1 X.1.2.1 dX12_init_0 rfl (lv_at hl 0 rfl) ?_
  refine x_cobj X (x_w 1 rfl) (x_w 2 rfl) (x_w 3 rfl) hl.1 dX12_init_1 (by decide) (by decide) (by decide) ?_
  refine lv_aload_n X.1.1 X.1.2.1 dX12_init_4 rfl (lv_at hl 0 rfl) ?_
  refine x_iconst X dX12_init_5 ?_
  refine x_cput X hP hD hS tyX12 tyX12_ok nmX12 (by decide +kernel) rfl 3 (by decide) (x_w 4 rfl) rfl (ty := .int) (by decide +kernel) rfl rfl (Nat.le_of_ble_eq_true rfl) dX12_init_6 (fun H locs hP hD hS => ?_)
  refine lv_aload_n X.1.1 X.1.2.1 dX12_init_9 rfl (lv_at hl 0 rfl) ?_
  refine x_sipush X dX12_init_10 (by decide) ?_
  refine x_cnewi (N' := 400) X hP hD hS hA (x_w 5 rfl) ⟨rfl, by decide⟩ (by decide) (by decide) dX12_init_13 (fun q0 H hP hD hS => ?_)
  refine x_cputF X hm hP hD hS tyX12 tyX12_ok nmX12 (by decide +kernel) rfl 6 (by decide) (x_w 6 rfl) rfl rfl (ty := .array .int) (by decide +kernel) rfl rfl (Nat.le_of_ble_eq_true rfl) dX12_init_15 (fun H locs hP hD hS => ?_)
  exact hret (fun i => [q0].getD i 0) _ _ _ _ _ _ (by decide) (by decide) dX12_init_18 hP hD hS
theorem hd_X12_init : yX12_init.cls ≠ "java/lang/invoke/MethodHandle" ∧ yX12_init.cls ≠ "java/lang/invoke/VarHandle" ∧ (parseMethodDescriptor yX12_init.desc).map (fun d => d.parameters.length) = some 0 := by decide +kernel
