/-! X, part i: the StringBuilder's methods of the JDK -/
section XI
variable {p : Program} {l : Launch} {e : Env} {R : Room} {s : State} {m : MethodId} {args : Array Value} {below : List Frame} {meth : Method} {c : Code} {H : Heap} {locs : List Loc} {cells slots : Nat} {Q : State → Prop}
variable {cc : ByteArray} {pc : Nat} {ls : Array Slot} {rest : List Value} {t : gP} {u : uS} {ws : List Cond} {own : String} {nL : Nat}
theorem y_putz (X : xC t p s m args c cc ws own nL) (hG : G t u H) (hS : va_S (gA t) s.heap H locs) (ci j k : Nat) (ji x : Int) {C : String} {T : u_T} {N idx : Nat} (ty0 : Nat → FieldType) (hty : ∀ k, k < N → parseFieldDescriptor (T k).2.2.1 = some (ty0 k)) (hnm : ∀ a, a < N → ∀ b, b < N → a ≠ b → (T a).2.1 ≠ (T b).2.1) (inC : ∀ w ∈ u_ws C T N, w ∈ ws) (hc : vwCl[ci]? = some (C, T, N)) (hk : al t k) (hs : sT k = ci) (h1 : ci < 100 ∧ j < N ∧ j < fN ci ∧ fC ci j = 0 ∧ (j : Int) = ji) (hfin : (T j).2.2.2 = false) (hd : parseFieldDescriptor (T j).2.2.1 = some .boolean) (hx : x = 0 ∨ x = 1) (hw : Cond.fieldLink own idx (T j).1 (T j).2.1 (T j).2.2.1 ∈ ws) (hdg : decode cc pc = .ok (.putfield idx, 3)) (kk : ∀ (H1 : Heap) (locs1 : List Loc), G t (up u k ji x) H1 → va_S (gA t) s.heap H1 locs1 → W p l e R s m args below meth c H1 locs1 cells slots Q (F0 m (pc + 3) ls rest)) : W p l e R s m args below meth c H locs cells slots Q (F0 m pc ls (.int (iI x) :: .ref (t.2.2.1 k) :: rest)) := by
  obtain ⟨h100, hjN, hjf, hcode, rfl⟩ := h1
  refine va_put (D := t.1) (cl := vwCl) (C := C) (T := T) (N := N) X.1.1 X.1.2.1 X.1.2.2.2.2 inC ty0 hty hnm X.1.2.2.2.1 X.2.1 hG.P hG.D hS (gi t k) (gL_o hk hs h100) hc j hjN (X.1.2.2.2.2 _ hw) (fun _ h9 => h9) hfin hd (nz_of hx) (by rcases hx with rfl | rfl <;> decide) (by rw [gO_len hs]; exact hjf) hdg (fun H1 locs1 hP _ hS1 => ?_)
  refine kk H1 locs1 (hG.store hk ⟨by omega, by omega⟩ hP (gad_o hs (by omega)) ?_ (fun i b hi => up_k hi)) hS1
  have hk9 : (1000 : Nat) ≠ k := by have : k < 358 := al_lt hk; omega
  have hv : gV t (up u k (j : Int) x) k j = .int (iI x) := by simp only [gV, hs, hcode, if_true, up_s]
  simp only [gE, hs]
  rw [if_pos h100, gO_set (u := u) hs (fun b => up_k hk9) (fun b hb => up_j hb), hv]
theorem x_putz (X : xC t p s m args c cc ws own nL) (hG : G t u H) (hS : va_S (gA t) s.heap H locs) (ci j k : Nat) (ji x : Int) {C : String} {T : u_T} {N idx : Nat} (ty0 : Nat → FieldType) (hty : ∀ k, k < N → parseFieldDescriptor (T k).2.2.1 = some (ty0 k)) (hnm : ∀ a, a < N → ∀ b, b < N → a ≠ b → (T a).2.1 ≠ (T b).2.1) (inC : ∀ w ∈ u_ws C T N, w ∈ ws) (hc : vwCl[ci]? = some (C, T, N)) (hk : k < NN) (hs : sT k = ci) (h1 : ci < 100 ∧ j < N ∧ j < fN ci ∧ fC ci j = 0 ∧ (j : Int) = ji) (hfin : (T j).2.2.2 = false) (hd : parseFieldDescriptor (T j).2.2.1 = some .boolean) (hx : x = 0 ∨ x = 1) (hw : Cond.fieldLink own idx (T j).1 (T j).2.1 (T j).2.2.1 ∈ ws) (hdg : decode cc pc = .ok (.putfield idx, 3)) (kk : ∀ (H1 : Heap) (locs1 : List Loc), G t (up u k ji x) H1 → va_S (gA t) s.heap H1 locs1 → W p l e R s m args below meth c H1 locs1 cells slots Q (F0 m (pc + 3) ls rest)) : W p l e R s m args below meth c H locs cells slots Q (F0 m pc ls (.int (iI x) :: .ref (t.2.2.1 k) :: rest)) :=
  y_putz X hG hS ci j k ji x ty0 hty hnm inC hc (al_c hk hs (by have h9 := h1.1; omega)) hs h1 hfin hd hx hw hdg kk
end XI
theorem nc_of {x : Int} (h : 0 ≤ x ∧ x < 65536) : narrow .char (.int (iI x)) = .int (iI x) := by
  have h4 := (pk_charN (q := x.toNat) (by omega)).1
  have h5 : iI x = nI x.toNat := by
    show _ = Int32.ofNat _
    rw [iI_nat, Int.toNat_of_nonneg h.1]
  rw [h5]; exact h4
section XI2
variable {p : Program} {l : Launch} {e : Env} {R : Room} {s : State} {m : MethodId} {args : Array Value} {below : List Frame} {meth : Method} {c : Code} {H : Heap} {locs : List Loc} {cells slots : Nat} {Q : State → Prop}
variable {cc : ByteArray} {pc : Nat} {ls : Array Slot} {rest : List Value} {t : gP} {u : uS} {ws : List Cond} {own : String} {nL : Nat}
theorem x_callStv0 (X : xC t p s m args c cc ws own nL) (hG : G t u H) (hS : va_S (gA t) s.heap H locs) {y : MethodName} {ws2 : List Cond} {rm : Room} {As : List Value} {u' : uS} {k n idx maxL : Nat} {bytes : ByteArray} {ret : Option FieldType} {st0 : List Value}
    (hM : xMv l y ws2 rm t (.ref (t.2.2.1 k) :: As) u u' 0 0) (cw : CallW R s args own "java/lang/String" idx y bytes maxL ret ws2 rm 0 0 n) (hk : 2000 ≤ k ∧ k < 2020) (hn : As.length = n) (hl : ls.size = nL) (hW : (rest.map fun v => v.category).sum ≤ 8) (hdg : decode cc pc = .ok (.invokevirtual idx, 3)) (hf : cells ≤ R.cells ∧ slots ≤ R.slots)
    (hst : st0 = As.reverse ++ .ref (t.2.2.1 k) :: rest)
    (kk : ∀ (H1 : Heap) (locs1 : List Loc), G t u' H1 → va_S (gA t) s.heap H1 locs1 → W p l e R s m args below meth c H1 locs1 cells slots Q (F0 m (pc + 3) ls rest)) : W p l e R s m args below meth c H locs cells slots Q (F0 m pc ls st0) := by
  have hi : k - 2000 < gStr.length := by have : gStr.length = 20 := rfl; omega
  have hr := vk_recv X.2.2.1.2.2.2.1 hi hS
  simp only [show 2000 + (k - 2000) = k by omega] at hr
  refine va_callv (va_runV (As := As) (rest := rest) X.1 hM cw ⟨x_blind, hr, x_pre X hG hS⟩ rfl hn hl hst (lv_room hW) hdg hf) hS (fun q _ h => h) (fun q h => h) (fun u2 U H1 locs1 hU hvm hw hB hz1 hk1 hS1 => ?_)
  subst hw
  exact kk H1 locs1 (by rw [← hU]; exact hB) hS1
end XI2
