/-! X, part o: constructors -/
abbrev cz (n : Nat) : va_E → Prop := fun _ => True
abbrev rX0_init : Room := { frames := 1, cells := 1, slots := 60, locals := 30 }
set_option maxRecDepth 100000 in
set_option maxHeartbeats 8000000 in
theorem c_X0_init (l : Launch) (t : gP) (a : Nat) : cM l yX0_init wsX0_init rX0_init t [.ref a] [(a, .inr (4, [.null, .int 0]))] (fun as => [(a, .inr (4, [.ref (as 0), .int 0])), (as 0, .inl (t.2.1 100, (60, .inl (fun _ => 0))))]) 1 60 := by
  refine x_ofC (cc := cX0_init) (maxL := 1) (own := RX0) (by decide) rfl rfl (Nat.le_of_ble_eq_true rfl) ?_
  intro p e s m args below meth c Q X hm hP hD hAg hS hret ls hl
  have hA : ∀ q, s.heap.size ≤ q → va_A [(a, .inr (4, [.null, .int 0]))] s.heap.size q := fun q hq => Or.inr hq
  replace hl : lv_has ls 1 [(0, .ref a)] := hl
  generalize va_A [(a, .inr (4, [.null, .int 0]))] s.heap.size = A at hD hAg hS hret hA
  refine lv_aload_n X.1.1 X.1.2.1 dX0_init_0 rfl (lv_at hl 0 rfl) ?_
  refine x_cobj X (x_w 1 rfl) (x_w 2 rfl) (x_w 3 rfl) hl.1 dX0_init_1 (by decide) (by decide) (by decide) ?_
  refine lv_aload_n X.1.1 X.1.2.1 dX0_init_4 rfl (lv_at hl 0 rfl) ?_
  refine x_bipush X dX0_init_5 (by decide) ?_
  refine x_cnewi (N' := 60) X hP hD hS hA (x_w 4 rfl) ⟨rfl, by decide⟩ (by decide) (by decide) dX0_init_7 (fun q0 H hP hD hS => ?_)
  refine x_cputF X hm hP hD hS tyX0 tyX0_ok nmX0 (by decide +kernel) rfl 0 (by decide) (x_w 5 rfl) rfl rfl (ty := .array .int) (by decide +kernel) rfl rfl (by decide) dX0_init_9 (fun H locs hP hD hS => ?_)
  exact hret (fun _ => q0) _ _ _ _ _ _ (by decide) (by decide) dX0_init_12 hP hD hS
