abbrev rX5_init : Room := { frames := 2, cells := 8, slots := 1256, locals := 60 }
set_option maxRecDepth 100000 in
set_option maxHeartbeats 8000000 in
theorem c_X5_init (l : Launch) (t : gP) (a : Nat) : cM l yX5_init wsX5_init rX5_init t [.ref a] [(a, .inr (9, [.null, .null, .int 0, .int 0, .int 0, .int 0, .int 0, .int 0, .int 0, .int 0, .int 0, .null, .null, .null, .null]))] (fun (as : Nat → Nat) => [(a, .inr (9, [.ref (as 0), .ref (as 1), .int (iI 60), .int (iI 3), .int (iI 12), .int (iI 300), .int (iI 150), .int (iI 3), .int (iI 2), .int (iI 1), .int (iI 0), .ref (as 4), .ref (as 5), .ref (as 6), .ref (as 7)])), (as 0, .inr (6, [.int (iI 0), .int (iI 0), .int (iI 5), .int (iI 5), .int (iI 20)])), (as 1, .inr (10, [.int (iI 0), .ref (as 2), .ref (as 3)])), (as 2, .inl (t.2.1 100, (8, .inl (fun _ => 0)))), (as 3, .inl (t.2.1 100, (8, .inl (fun _ => 0)))), (as 4, .inl (t.2.1 100, (8, .inl (fun _ => 0)))), (as 5, .inl (t.2.1 100, (8, .inl (fun _ => 0)))), (as 6, .inl (t.2.1 100, (64, .inl (fun _ => 0)))), (as 7, .inl (t.2.1 100, (1152, .inl (fun _ => 0))))]) 8 1256 := by
  refine x_ofC (cc := cX5_init) (maxL := 1) (own := RX5) (by decide) rfl rfl (Nat.le_of_ble_eq_true rfl) ?_
  intro p e s m args below meth c Q X hm hP hD hAg hS hret ls hl
  have hA : ∀ q, s.heap.size ≤ q → va_A [(a, .inr (9, [.null, .null, .int 0, .int 0, .int 0, .int 0, .int 0, .int 0, .int 0, .int 0, .int 0, .null, .null, .null, .null]))] s.heap.size q := fun q hq => Or.inr hq
  replace hl : lv_has ls 1 [(0, .ref a)] := hl
  generalize va_A [(a, .inr (9, [.null, .null, .int 0, .int 0, .int 0, .int 0, .int 0, .int 0, .int 0, .int 0, .int 0, .null, .null, .null, .null]))] s.heap.size = A at hD hAg hS hret hA
  have iX5 : ∀ w ∈ wsX50, w ∈ wsX5_init := by decide +kernel
  have iX6 : ∀ w ∈ wsX60, w ∈ wsX5_init := by decide +kernel
  have iX2 : ∀ w ∈ wsX20, w ∈ wsX5_init := by decide +kernel
  refine lv_aload_n X.1.1 X.1.2.1 dX5_init_0 rfl (lv_at hl 0 rfl) ?_
  refine x_cobj X (x_w 1 rfl) (x_w 2 rfl) (x_w 3 rfl) hl.1 dX5_init_1 (by decide) (by decide) (by decide) ?_
  refine lv_aload_n X.1.1 X.1.2.1 dX5_init_4 rfl (lv_at hl 0 rfl) ?_
  refine x_cnew X hP hD hS hA tyX2 tyX2_ok iX2 (x_w 4 rfl) (x_w 5 rfl) (x_w 6 rfl) (ci := 6) rfl [.int 0, .int 0, .int 0, .int 0, .int 0] (by decide +kernel) (by decide) (by decide) dX5_init_5 (fun q0 H hP hD hS => ?_)
  refine lv_dup X.1.1 X.1.2.1 dX5_init_8 rfl ?_
  refine x_kc (w := [(a, .inr (9, [.null, .null, .int 0, .int 0, .int 0, .int 0, .int 0, .int 0, .int 0, .int 0, .int 0, .null, .null, .null, .null]))]) hP hD hS hA (va_runIN (As := []) (rest := [.ref q0, .ref a]) X.1 (c_X2_init l t q0 _) ⟨va_cnB 0 X.1.2.2.2.2 gX5_init_X2_init_n11 rfl rfl rfl (X.2.2.1.1 (RX5, 11, yX2_init, "TriggerNetwork") (by decide +kernel)) (X.1.2.2.2.2 _ (x_w 6 rfl)) hd_X2_init ⟨Nat.le_of_ble_eq_true rfl, Nat.le_of_ble_eq_true rfl⟩, rfl, X.1.2.2.2.2 _ (by decide +kernel)⟩ ⟨c_blind, x_cpre X hP hD hS hAg⟩ rfl rfl hl.1 rfl (lv_room (Nat.le_of_ble_eq_true rfl)) dX5_init_9 ⟨by decide, by decide⟩) (fun _ H locs hP hD hS => ?_)
  refine x_cputF X hm hP hD hS tyX5 tyX5_ok nmX5 iX5 rfl 0 (by decide) (x_w 7 rfl) rfl rfl (ty := .object "TriggerNetwork$Grid") (by decide +kernel) rfl rfl (Nat.le_of_ble_eq_true rfl) dX5_init_12 (fun H locs hP hD hS => ?_)
  refine lv_aload_n X.1.1 X.1.2.1 dX5_init_15 rfl (lv_at hl 0 rfl) ?_
  refine x_cnew X hP hD hS hA tyX6 tyX6_ok iX6 (x_w 8 rfl) (x_w 9 rfl) (x_w 10 rfl) (ci := 10) rfl [.int 0, .null, .null] (by decide +kernel) (by decide) (by decide) dX5_init_16 (fun q1 H hP hD hS => ?_)
  refine lv_dup X.1.1 X.1.2.1 dX5_init_19 rfl ?_
  refine x_kc (w := [(a, .inr (9, [.ref q0, .null, .int 0, .int 0, .int 0, .int 0, .int 0, .int 0, .int 0, .int 0, .int 0, .null, .null, .null, .null])), (q0, .inr (6, [.int 0, .int 0, .int 0, .int 0, .int 0]))]) hP hD hS hA (va_runIN (As := []) (rest := [.ref q1, .ref a]) X.1 (c_X6_init l t q1 _) ⟨va_cnB 0 X.1.2.2.2.2 gX5_init_X6_init_n20 rfl rfl rfl (X.2.2.1.1 (RX5, 20, yX6_init, "TriggerNetwork") (by decide +kernel)) (X.1.2.2.2.2 _ (x_w 10 rfl)) hd_X6_init ⟨Nat.le_of_ble_eq_true rfl, Nat.le_of_ble_eq_true rfl⟩, rfl, X.1.2.2.2.2 _ (by decide +kernel)⟩ ⟨c_blind, x_cpre X hP hD hS hAg⟩ rfl rfl hl.1 rfl (lv_room (Nat.le_of_ble_eq_true rfl)) dX5_init_20 ⟨by decide, by decide⟩) (fun as H locs hP hD hS => ?_)
  refine x_cputF X hm hP hD hS tyX5 tyX5_ok nmX5 iX5 rfl 1 (by decide) (x_w 11 rfl) rfl rfl (ty := .object "TriggerNetwork$Rungs") (by decide +kernel) rfl rfl (Nat.le_of_ble_eq_true rfl) dX5_init_23 (fun H locs hP hD hS => ?_)
  refine lv_aload_n X.1.1 X.1.2.1 dX5_init_26 rfl (lv_at hl 0 rfl) ?_
  refine x_bipush X dX5_init_27 (by decide) ?_
  refine x_cnewi (N' := 8) X hP hD hS hA (x_w 12 rfl) ⟨rfl, by decide⟩ (by decide) (by decide) dX5_init_29 (fun q4 H hP hD hS => ?_)
  refine x_cputF X hm hP hD hS tyX5 tyX5_ok nmX5 iX5 rfl 11 (by decide) (x_w 13 rfl) rfl rfl (ty := .array .int) (by decide +kernel) rfl rfl (Nat.le_of_ble_eq_true rfl) dX5_init_31 (fun H locs hP hD hS => ?_)
  refine lv_aload_n X.1.1 X.1.2.1 dX5_init_34 rfl (lv_at hl 0 rfl) ?_
  refine x_bipush X dX5_init_35 (by decide) ?_
  refine x_cnewi (N' := 8) X hP hD hS hA (x_w 12 rfl) ⟨rfl, by decide⟩ (by decide) (by decide) dX5_init_37 (fun q5 H hP hD hS => ?_)
  refine x_cputF X hm hP hD hS tyX5 tyX5_ok nmX5 iX5 rfl 12 (by decide) (x_w 14 rfl) rfl rfl (ty := .array .int) (by decide +kernel) rfl rfl (Nat.le_of_ble_eq_true rfl) dX5_init_39 (fun H locs hP hD hS => ?_)
  refine lv_aload_n X.1.1 X.1.2.1 dX5_init_42 rfl (lv_at hl 0 rfl) ?_
  refine x_bipush X dX5_init_43 (by decide) ?_
  refine x_cnewi (N' := 64) X hP hD hS hA (x_w 12 rfl) ⟨rfl, by decide⟩ (by decide) (by decide) dX5_init_45 (fun q6 H hP hD hS => ?_)
  refine x_cputF X hm hP hD hS tyX5 tyX5_ok nmX5 iX5 rfl 13 (by decide) (x_w 15 rfl) rfl rfl (ty := .array .int) (by decide +kernel) rfl rfl (Nat.le_of_ble_eq_true rfl) dX5_init_47 (fun H locs hP hD hS => ?_)
  refine lv_aload_n X.1.1 X.1.2.1 dX5_init_50 rfl (lv_at hl 0 rfl) ?_
  refine x_sipush X dX5_init_51 (by decide) ?_
  refine x_cnewi (N' := 1152) X hP hD hS hA (x_w 12 rfl) ⟨rfl, by decide⟩ (by decide) (by decide) dX5_init_54 (fun q7 H hP hD hS => ?_)
  refine x_cputF X hm hP hD hS tyX5 tyX5_ok nmX5 iX5 rfl 14 (by decide) (x_w 16 rfl) rfl rfl (ty := .array .int) (by decide +kernel) rfl rfl (Nat.le_of_ble_eq_true rfl) dX5_init_56 (fun H locs hP hD hS => ?_)
  refine lv_aload_n X.1.1 X.1.2.1 dX5_init_59 rfl (lv_at hl 0 rfl) ?_
  refine x_ka hD hS hA (va_runV (As := []) (rest := []) X.1 (k2_X5_reset l t a q0 q1 _ _ _ _ _ _ _ _ _ _ _ _ _ _ _ _ _ _ _ _ _ _ _) (cwV 0 X.1.2.2.2.2 gX5_init_X5_reset rfl rfl rfl hd_X5_reset ⟨Nat.le_of_ble_eq_true rfl, Nat.le_of_ble_eq_true rfl⟩) ⟨c_blind, va_recv (q0 := 0) X.2.1 hP rfl rfl, x_cpreA X hP hD hS hAg⟩ rfl rfl hl.1 rfl (lv_room (Nat.le_of_ble_eq_true rfl)) dX5_init_60 ⟨by decide, by decide⟩) (fun _ H locs hP hD hS => ?_)
  exact hret (fun i => [q0, q1, as 0, as 1, q4, q5, q6, q7].getD i 0) _ _ _ _ _ _ (by decide) (by decide) dX5_init_63 hP hD hS
