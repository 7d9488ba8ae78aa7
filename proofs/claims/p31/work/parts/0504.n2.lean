abbrev rX5_resetC : Room := { frames := 1, cells := 0, slots := 0, locals := 30 }
set_option maxRecDepth 100000 in
set_option maxHeartbeats 8000000 in
/-- reset, its objects being the first three of a list -/
theorem k2_X5_reset (l : Launch) (t : gP) (a g r : Nat) (tl : va_W) (n2 n3 n4 n5 n6 n7 n8 n9 n10 x y z v g1 g2 g3 g4 g5 c0 m1 m2 : Value) : cM l yX5_reset wsX5_reset rX5_resetC t [.ref a] ((a, .inr (9, [.ref g, .ref r, n2, n3, n4, n5, n6, n7, n8, n9, n10, x, y, z, v])) :: (g, .inr (6, [g1, g2, g3, g4, g5])) :: (r, .inr (10, [c0, m1, m2])) :: tl) (fun (_ : Unit) => ((a, .inr (9, [.ref g, .ref r, .int (iI 60), .int (iI 3), .int (iI 12), .int (iI 300), .int (iI 150), .int (iI 3), .int (iI 2), .int (iI 1), .int (iI 0), x, y, z, v])) :: (g, .inr (6, [.int (iI 0), .int (iI 0), .int (iI 5), .int (iI 5), .int (iI 20)])) :: (r, .inr (10, [.int (iI 0), m1, m2])) :: tl)) 0 0 := by
  refine x_ofC (cc := cX5_reset) (maxL := 1) (own := RX5) (by decide) rfl rfl (Nat.le_of_ble_eq_true rfl) ?_
  intro p e s m args below meth c Q X hm hP hD hAg hS hret ls hl
  replace hl : lv_has ls 1 [(0, .ref a)] := hl
  generalize hw0 : ((a, .inr (9, [.ref g, .ref r, n2, n3, n4, n5, n6, n7, n8, n9, n10, x, y, z, v])) :: (g, .inr (6, [g1, g2, g3, g4, g5])) :: (r, .inr (10, [c0, m1, m2])) :: tl : va_W) = w0 at hP hD hAg hS hret
  have hA : ∀ q, s.heap.size ≤ q → va_A w0 s.heap.size q := fun q hq => Or.inr hq
  generalize va_A w0 s.heap.size = A at hD hAg hS hret hA
  subst hw0
  have iX5 : ∀ w ∈ wsX50, w ∈ wsX5_reset := by decide +kernel
  have iX6 : ∀ w ∈ wsX60, w ∈ wsX5_reset := by decide +kernel
  refine lv_aload_n X.1.1 X.1.2.1 dX5_reset_0 rfl (lv_at hl 0 rfl) ?_
  refine x_cgetk X (i := 0) rfl hP iX5 rfl 0 (by decide) (x_w 1 rfl) rfl dX5_reset_1 ?_
  refine x_iconst X dX5_reset_4 ?_
  refine x_iconst X dX5_reset_5 ?_
  refine x_iconst X dX5_reset_6 ?_
  refine x_iconst X dX5_reset_7 ?_
  refine x_bipush X dX5_reset_8 (by decide) ?_
  refine x_ka hD hS hA (va_runV (As := [.int (iI 0), .int (iI 0), .int (iI 5), .int (iI 5), .int (iI 20)]) (rest := []) X.1 (k2_X2_place l t g 1 _ 0 0 5 5 20 g1 g2 g3 g4 g5 rfl _) (cwV 5 X.1.2.2.2.2 gX5_reset_X2_place rfl rfl rfl hd_X2_place ⟨Nat.le_of_ble_eq_true rfl, Nat.le_of_ble_eq_true rfl⟩) ⟨c_blind, va_recv (q0 := 1) X.2.1 hP rfl rfl, x_cpreA X hP hD hS hAg⟩ rfl rfl hl.1 rfl (lv_room (Nat.le_of_ble_eq_true rfl)) dX5_reset_10 ⟨by decide, by decide⟩) (fun _ H locs hP hD hS => ?_)
  refine lv_aload_n X.1.1 X.1.2.1 dX5_reset_13 rfl (lv_at hl 0 rfl) ?_
  refine x_cgetk X (i := 0) rfl hP iX5 rfl 1 (by decide) (x_w 2 rfl) rfl dX5_reset_14 ?_
  refine x_iconst X dX5_reset_17 ?_
  refine x_cputk X (i := 2) rfl hP hD hS tyX6 tyX6_ok nmX6 iX6 rfl 0 (by decide) (x_w 3 rfl) rfl rfl (ty := .int) rfl rfl (Nat.le_of_ble_eq_true rfl) dX5_reset_18 (fun H locs hP hD hS => ?_)
  refine lv_aload_n X.1.1 X.1.2.1 dX5_reset_21 rfl (lv_at hl 0 rfl) ?_
  refine x_bipush X dX5_reset_22 (by decide) ?_
  refine x_cputk X (i := 0) rfl hP hD hS tyX5 tyX5_ok nmX5 iX5 rfl 2 (by decide) (x_w 4 rfl) rfl rfl (ty := .int) rfl rfl (Nat.le_of_ble_eq_true rfl) dX5_reset_24 (fun H locs hP hD hS => ?_)
  refine lv_aload_n X.1.1 X.1.2.1 dX5_reset_27 rfl (lv_at hl 0 rfl) ?_
  refine x_iconst X dX5_reset_28 ?_
  refine x_cputk X (i := 0) rfl hP hD hS tyX5 tyX5_ok nmX5 iX5 rfl 3 (by decide) (x_w 5 rfl) rfl rfl (ty := .int) rfl rfl (Nat.le_of_ble_eq_true rfl) dX5_reset_29 (fun H locs hP hD hS => ?_)
  refine lv_aload_n X.1.1 X.1.2.1 dX5_reset_32 rfl (lv_at hl 0 rfl) ?_
  refine x_bipush X dX5_reset_33 (by decide) ?_
  refine x_cputk X (i := 0) rfl hP hD hS tyX5 tyX5_ok nmX5 iX5 rfl 4 (by decide) (x_w 6 rfl) rfl rfl (ty := .int) rfl rfl (Nat.le_of_ble_eq_true rfl) dX5_reset_35 (fun H locs hP hD hS => ?_)
  refine lv_aload_n X.1.1 X.1.2.1 dX5_reset_38 rfl (lv_at hl 0 rfl) ?_
  refine x_sipush X dX5_reset_39 (by decide) ?_
  refine x_cputk X (i := 0) rfl hP hD hS tyX5 tyX5_ok nmX5 iX5 rfl 5 (by decide) (x_w 7 rfl) rfl rfl (ty := .int) rfl rfl (Nat.le_of_ble_eq_true rfl) dX5_reset_42 (fun H locs hP hD hS => ?_)
  refine lv_aload_n X.1.1 X.1.2.1 dX5_reset_45 rfl (lv_at hl 0 rfl) ?_
  refine x_sipush X dX5_reset_46 (by decide) ?_
  refine x_cputk X (i := 0) rfl hP hD hS tyX5 tyX5_ok nmX5 iX5 rfl 6 (by decide) (x_w 8 rfl) rfl rfl (ty := .int) rfl rfl (Nat.le_of_ble_eq_true rfl) dX5_reset_49 (fun H locs hP hD hS => ?_)
  refine lv_aload_n X.1.1 X.1.2.1 dX5_reset_52 rfl (lv_at hl 0 rfl) ?_
  refine x_iconst X dX5_reset_53 ?_
  refine x_cputk X (i := 0) rfl hP hD hS tyX5 tyX5_ok nmX5 iX5 rfl 7 (by decide) (x_w 9 rfl) rfl rfl (ty := .int) rfl rfl (Nat.le_of_ble_eq_true rfl) dX5_reset_54 (fun H locs hP hD hS => ?_)
  refine lv_aload_n X.1.1 X.1.2.1 dX5_reset_57 rfl (lv_at hl 0 rfl) ?_
  refine x_iconst X dX5_reset_58 ?_
  refine x_cputk X (i := 0) rfl hP hD hS tyX5 tyX5_ok nmX5 iX5 rfl 8 (by decide) (x_w 10 rfl) rfl rfl (ty := .int) rfl rfl (Nat.le_of_ble_eq_true rfl) dX5_reset_59 (fun H locs hP hD hS => ?_)
  refine lv_aload_n X.1.1 X.1.2.1 dX5_reset_62 rfl (lv_at hl 0 rfl) ?_
  refine x_iconst X dX5_reset_63 ?_
  refine x_cputk X (i := 0) rfl hP hD hS tyX5 tyX5_ok nmX5 iX5 rfl 9 (by decide) (x_w 11 rfl) rfl rfl (ty := .int) rfl rfl (Nat.le_of_ble_eq_true rfl) dX5_reset_64 (fun H locs hP hD hS => ?_)
  refine lv_aload_n X.1.1 X.1.2.1 dX5_reset_67 rfl (lv_at hl 0 rfl) ?_
  refine x_iconst X dX5_reset_68 ?_
  refine x_cputk X (i := 0) rfl hP hD hS tyX5 tyX5_ok nmX5 iX5 rfl 10 (by decide) (x_w 12 rfl) rfl rfl (ty := .int) rfl rfl (Nat.le_of_ble_eq_true rfl) dX5_reset_69 (fun H locs hP hD hS => ?_)
  exact hret () _ _ _ _ _ _ (by decide) (by decide) dX5_reset_72 hP hD hS
