/-! X, part b: rows over the picture -/
/-- what a method's machine is fixed to; what the statics hold (gS) is said of its start -/
def gB (t : gP) (u : uS) : State → Prop := fun U => gS t U U.heap ∧ va_K t.1 vwCl (gT t) U ∧ G t u U.heap ∧ t.2.2.2 ≤ U.heap.size
theorem gB.calling {t : gP} {u : uS} (a : Array Value) (U : State) (g : JFrame) (mk : MethodId) (h : gB t u U) : gB t u (U.calling g mk a) :=
  ⟨h.1.calling, va_K.moved (u := U) (U := U.calling g mk a) (Vm.Alike.refl U.vm) h.2.1, h.2.2.1, h.2.2.2⟩
def xC (t : gP) (p : Program) (s : State) (m : MethodId) (args : Array Value) (c : Code) (cc : ByteArray) (ws : List Cond) (own : String) (nL : Nat) : Prop :=
  CallFix p m c cc nL s args ws own ∧ va_K t.1 vwCl (gT t) s ∧ gS t s s.heap ∧ t.2.2.2 ≤ s.heap.size
theorem x_w {L : List Cond} (i : Nat) {w : Cond} (h : L[i]? = some w) : w ∈ L := List.mem_of_getElem? h
theorem x_m {α : Type} {L : List α} (i : Nat) {w : α} (h : L[i]? = some w) : w ∈ L := List.mem_of_getElem? h
section XR
variable {p : Program} {l : Launch} {e : Env} {R : Room} {s : State} {m : MethodId} {args : Array Value} {below : List Frame} {meth : Method} {c : Code} {H : Heap} {locs : List Loc} {cells slots : Nat} {Q : State → Prop}
variable {cc : ByteArray} {pc : Nat} {ls : Array Slot} {rest : List Value} {t : gP} {u : uS} {ws : List Cond} {own : String} {nL : Nat}
theorem x_const {op : Instr} {v : Int32} {n : Nat} (x : Int) (hx : v = iI x) (kk : W p l e R s m args below meth c H locs cells slots Q (F0 m n ls (.int (iI x) :: rest))) : W p l e R s m args below meth c H locs cells slots Q (F0 m n ls (.int v :: rest)) := by rw [hx]; exact kk
theorem x_iconst (X : xC t p s m args c cc ws own nL) {n : Int} (hdg : decode cc pc = .ok (.iconst n, 1)) (kk : W p l e R s m args below meth c H locs cells slots Q (F0 m (pc + 1) ls (.int (iI n) :: rest))) : W p l e R s m args below meth c H locs cells slots Q (F0 m pc ls rest) :=
  lv_iconst (v := iI n) X.1.1 X.1.2.1 hdg rfl kk
theorem x_bipush (X : xC t p s m args c cc ws own nL) {n : Int} (hdg : decode cc pc = .ok (.bipush n, 2)) (hn : (Int8.ofInt n).toInt32 = iI n) (kk : W p l e R s m args below meth c H locs cells slots Q (F0 m (pc + 2) ls (.int (iI n) :: rest))) : W p l e R s m args below meth c H locs cells slots Q (F0 m pc ls rest) :=
  lv_bipush (v := iI n) X.1.1 X.1.2.1 hdg hn kk
theorem x_sipush (X : xC t p s m args c cc ws own nL) {n : Int} (hdg : decode cc pc = .ok (.sipush n, 3)) (hn : (Int16.ofInt n).toInt32 = iI n) (kk : W p l e R s m args below meth c H locs cells slots Q (F0 m (pc + 3) ls (.int (iI n) :: rest))) : W p l e R s m args below meth c H locs cells slots Q (F0 m pc ls rest) :=
  lv_sipush (v := iI n) X.1.1 X.1.2.1 hdg hn kk
theorem x_ldc (X : xC t p s m args c cc ws own nL) {idx : Nat} {v : Int32} (n : Int) (hv : v = iI n) (hw : Cond.constant own idx v ∈ ws) (hdg : decode cc pc = .ok (.ldc idx, 2)) (kk : W p l e R s m args below meth c H locs cells slots Q (F0 m (pc + 2) ls (.int (iI n) :: rest))) : W p l e R s m args below meth c H locs cells slots Q (F0 m pc ls rest) :=
  lv_ldc (v := v) X.1.1 X.1.2.1 X.1.2.2.2.1 (X.1.2.2.2.2 _ hw) hdg (by rw [hv]; exact kk)
theorem x_lconst (X : xC t p s m args c cc ws own nL) {n : Fin 2} (hdg : decode cc pc = .ok (.lconst n, 1)) (z : Int) (hz : Int64.ofNat (n : Nat) = lI z) (kk : W p l e R s m args below meth c H locs cells slots Q (F0 m (pc + 1) ls (.long (lI z) :: rest))) : W p l e R s m args below meth c H locs cells slots Q (F0 m pc ls rest) :=
  lv_lconst (v := lI z) X.1.1 X.1.2.1 hdg hz kk
theorem x_ldc2 (X : xC t p s m args c cc ws own nL) {idx : Nat} {v : Int64} (n : Int) (hv : v = lI n) (hw : Cond.constantLong own idx v ∈ ws) (hdg : decode cc pc = .ok (.ldc2_w idx, 3)) (kk : W p l e R s m args below meth c H locs cells slots Q (F0 m (pc + 3) ls (.long (lI n) :: rest))) : W p l e R s m args below meth c H locs cells slots Q (F0 m pc ls rest) :=
  lv_ldc2 (v := v) X.1.1 X.1.2.1 X.1.2.2.2.1 (X.1.2.2.2.2 _ hw) hdg (by rw [hv]; exact kk)
theorem x_iadd (X : xC t p s m args c cc ws own nL) {a b : Int} (hdg : decode cc pc = .ok (.iadd, 1)) (kk : W p l e R s m args below meth c H locs cells slots Q (F0 m (pc + 1) ls (.int (iI (a + b)) :: rest))) : W p l e R s m args below meth c H locs cells slots Q (F0 m pc ls (.int (iI b) :: .int (iI a) :: rest)) :=
  lv_iadd X.1.1 X.1.2.1 hdg (by rw [iI_add]; exact kk)
theorem x_isub (X : xC t p s m args c cc ws own nL) {a b : Int} (hdg : decode cc pc = .ok (.isub, 1)) (kk : W p l e R s m args below meth c H locs cells slots Q (F0 m (pc + 1) ls (.int (iI (a - b)) :: rest))) : W p l e R s m args below meth c H locs cells slots Q (F0 m pc ls (.int (iI b) :: .int (iI a) :: rest)) :=
  lv_isub X.1.1 X.1.2.1 hdg (by rw [iI_sub]; exact kk)
theorem x_imul (X : xC t p s m args c cc ws own nL) {a b : Int} (hdg : decode cc pc = .ok (.imul, 1)) (kk : W p l e R s m args below meth c H locs cells slots Q (F0 m (pc + 1) ls (.int (iI (a * b)) :: rest))) : W p l e R s m args below meth c H locs cells slots Q (F0 m pc ls (.int (iI b) :: .int (iI a) :: rest)) :=
  lv_imul X.1.1 X.1.2.1 hdg (by rw [iI_mul]; exact kk)
theorem x_ineg (X : xC t p s m args c cc ws own nL) {a : Int} (hdg : decode cc pc = .ok (.ineg, 1)) (kk : W p l e R s m args below meth c H locs cells slots Q (F0 m (pc + 1) ls (.int (iI (-a)) :: rest))) : W p l e R s m args below meth c H locs cells slots Q (F0 m pc ls (.int (iI a) :: rest)) :=
  lv_ineg X.1.1 X.1.2.1 hdg (by rw [iI_neg]; exact kk)
theorem x_idiv (X : xC t p s m args c cc ws own nL) {a b : Int} (ha : InR a) (hb : InR b) (h0 : b ≠ 0) (hdg : decode cc pc = .ok (.idiv, 1)) (kk : W p l e R s m args below meth c H locs cells slots Q (F0 m (pc + 1) ls (.int (iI (a.tdiv b)) :: rest))) : W p l e R s m args below meth c H locs cells slots Q (F0 m pc ls (.int (iI b) :: .int (iI a) :: rest)) :=
  lv_idiv X.1.1 X.1.2.1 hdg (iI_ne0 hb h0) (by rw [iI_div ha hb]; exact kk)
theorem x_irem (X : xC t p s m args c cc ws own nL) {a b : Int} (ha : InR a) (hb : InR b) (h0 : b ≠ 0) (hdg : decode cc pc = .ok (.irem, 1)) (kk : W p l e R s m args below meth c H locs cells slots Q (F0 m (pc + 1) ls (.int (iI (a.tmod b)) :: rest))) : W p l e R s m args below meth c H locs cells slots Q (F0 m pc ls (.int (iI b) :: .int (iI a) :: rest)) :=
  lv_irem X.1.1 X.1.2.1 hdg (iI_ne0 hb h0) (by rw [iI_rem ha hb]; exact kk)
theorem x_lmul (X : xC t p s m args c cc ws own nL) {a b : Int} (hdg : decode cc pc = .ok (.lmul, 1)) (kk : W p l e R s m args below meth c H locs cells slots Q (F0 m (pc + 1) ls (.long (lI (a * b)) :: rest))) : W p l e R s m args below meth c H locs cells slots Q (F0 m pc ls (.long (lI b) :: .long (lI a) :: rest)) :=
  lv_lmul X.1.1 X.1.2.1 hdg (by rw [lI_mul]; exact kk)
theorem x_ldiv (X : xC t p s m args c cc ws own nL) {a b : Int} (ha : InL a) (hb : InL b) (h0 : b ≠ 0) (hdg : decode cc pc = .ok (.ldiv, 1)) (kk : W p l e R s m args below meth c H locs cells slots Q (F0 m (pc + 1) ls (.long (lI (a.tdiv b)) :: rest))) : W p l e R s m args below meth c H locs cells slots Q (F0 m pc ls (.long (lI b) :: .long (lI a) :: rest)) :=
  lv_ldiv X.1.1 X.1.2.1 hdg (lI_ne0 hb h0) (by rw [lI_div ha hb]; exact kk)
theorem x_i2l (X : xC t p s m args c cc ws own nL) {a : Int} (ha : InR a) (hdg : decode cc pc = .ok (.i2l, 1)) (kk : W p l e R s m args below meth c H locs cells slots Q (F0 m (pc + 1) ls (.long (lI a) :: rest))) : W p l e R s m args below meth c H locs cells slots Q (F0 m pc ls (.int (iI a) :: rest)) :=
  lv_i2l X.1.1 X.1.2.1 hdg (iI_l ha) kk
theorem x_l2i (X : xC t p s m args c cc ws own nL) {a : Int} (hdg : decode cc pc = .ok (.l2i, 1)) (kk : W p l e R s m args below meth c H locs cells slots Q (F0 m (pc + 1) ls (.int (iI a) :: rest))) : W p l e R s m args below meth c H locs cells slots Q (F0 m pc ls (.long (lI a) :: rest)) :=
  lv_l2i X.1.1 X.1.2.1 hdg (lI_i a) kk
theorem x_name {a : Int} (kk : ∀ x : Int, x = a → W p l e R s m args below meth c H locs cells slots Q (F0 m pc ls (.int (iI x) :: rest))) : W p l e R s m args below meth c H locs cells slots Q (F0 m pc ls (.int (iI a) :: rest)) := kk a rfl
-- branches
theorem x_icmp_eq (X : xC t p s m args c cc ws own nL) {a b : Int} {off : Int} {tgt : Nat} (ha : InR a) (hb : InR b) (hdg : decode cc pc = .ok (.if_icmp .eq off, 3)) (ht : (pc : Int) + off = (tgt : Int)) (kt : a = b → W p l e R s m args below meth c H locs cells slots Q (F0 m tgt ls rest)) (kf : ¬ a = b → W p l e R s m args below meth c H locs cells slots Q (F0 m (pc + 3) ls rest)) : W p l e R s m args below meth c H locs cells slots Q (F0 m pc ls (.int (iI b) :: .int (iI a) :: rest)) :=
  lv_icmp_eq X.1.1 X.1.2.1 hdg ht (fun h => kt ((iI_eq ha hb).mp h)) (fun h => kf (fun q => h ((iI_eq ha hb).mpr q)))
theorem x_icmp_ne (X : xC t p s m args c cc ws own nL) {a b : Int} {off : Int} {tgt : Nat} (ha : InR a) (hb : InR b) (hdg : decode cc pc = .ok (.if_icmp .ne off, 3)) (ht : (pc : Int) + off = (tgt : Int)) (kt : ¬ a = b → W p l e R s m args below meth c H locs cells slots Q (F0 m tgt ls rest)) (kf : a = b → W p l e R s m args below meth c H locs cells slots Q (F0 m (pc + 3) ls rest)) : W p l e R s m args below meth c H locs cells slots Q (F0 m pc ls (.int (iI b) :: .int (iI a) :: rest)) :=
  lv_icmp_ne X.1.1 X.1.2.1 hdg ht (fun h => kt (fun q => h ((iI_eq ha hb).mpr q))) (fun h => kf ((iI_eq ha hb).mp h))
theorem x_icmp_lt (X : xC t p s m args c cc ws own nL) {a b : Int} {off : Int} {tgt : Nat} (ha : InR a) (hb : InR b) (hdg : decode cc pc = .ok (.if_icmp .lt off, 3)) (ht : (pc : Int) + off = (tgt : Int)) (kt : a < b → W p l e R s m args below meth c H locs cells slots Q (F0 m tgt ls rest)) (kf : ¬ a < b → W p l e R s m args below meth c H locs cells slots Q (F0 m (pc + 3) ls rest)) : W p l e R s m args below meth c H locs cells slots Q (F0 m pc ls (.int (iI b) :: .int (iI a) :: rest)) :=
  lv_icmp_lt X.1.1 X.1.2.1 hdg ht (fun h => kt ((iI_lt ha hb).mp h)) (fun h => kf (fun q => h ((iI_lt ha hb).mpr q)))
theorem x_icmp_le (X : xC t p s m args c cc ws own nL) {a b : Int} {off : Int} {tgt : Nat} (ha : InR a) (hb : InR b) (hdg : decode cc pc = .ok (.if_icmp .le off, 3)) (ht : (pc : Int) + off = (tgt : Int)) (kt : a ≤ b → W p l e R s m args below meth c H locs cells slots Q (F0 m tgt ls rest)) (kf : ¬ a ≤ b → W p l e R s m args below meth c H locs cells slots Q (F0 m (pc + 3) ls rest)) : W p l e R s m args below meth c H locs cells slots Q (F0 m pc ls (.int (iI b) :: .int (iI a) :: rest)) :=
  lv_icmp_le X.1.1 X.1.2.1 hdg ht (fun h => kt ((iI_le ha hb).mp h)) (fun h => kf (fun q => h ((iI_le ha hb).mpr q)))
theorem x_icmp_gt (X : xC t p s m args c cc ws own nL) {a b : Int} {off : Int} {tgt : Nat} (ha : InR a) (hb : InR b) (hdg : decode cc pc = .ok (.if_icmp .gt off, 3)) (ht : (pc : Int) + off = (tgt : Int)) (kt : b < a → W p l e R s m args below meth c H locs cells slots Q (F0 m tgt ls rest)) (kf : ¬ b < a → W p l e R s m args below meth c H locs cells slots Q (F0 m (pc + 3) ls rest)) : W p l e R s m args below meth c H locs cells slots Q (F0 m pc ls (.int (iI b) :: .int (iI a) :: rest)) :=
  lv_icmp_gt X.1.1 X.1.2.1 hdg ht (fun h => kt ((iI_lt hb ha).mp h)) (fun h => kf (fun q => h ((iI_lt hb ha).mpr q)))
theorem x_icmp_ge (X : xC t p s m args c cc ws own nL) {a b : Int} {off : Int} {tgt : Nat} (ha : InR a) (hb : InR b) (hdg : decode cc pc = .ok (.if_icmp .ge off, 3)) (ht : (pc : Int) + off = (tgt : Int)) (kt : b ≤ a → W p l e R s m args below meth c H locs cells slots Q (F0 m tgt ls rest)) (kf : ¬ b ≤ a → W p l e R s m args below meth c H locs cells slots Q (F0 m (pc + 3) ls rest)) : W p l e R s m args below meth c H locs cells slots Q (F0 m pc ls (.int (iI b) :: .int (iI a) :: rest)) :=
  lv_icmp_ge X.1.1 X.1.2.1 hdg ht (fun h => kt ((iI_le hb ha).mp h)) (fun h => kf (fun q => h ((iI_le hb ha).mpr q)))
theorem x_if_eq (X : xC t p s m args c cc ws own nL) {a : Int} {off : Int} {tgt : Nat} (ha : InR a) (hdg : decode cc pc = .ok (.ifCond .eq off, 3)) (ht : (pc : Int) + off = (tgt : Int)) (kt : a = 0 → W p l e R s m args below meth c H locs cells slots Q (F0 m tgt ls rest)) (kf : ¬ a = 0 → W p l e R s m args below meth c H locs cells slots Q (F0 m (pc + 3) ls rest)) : W p l e R s m args below meth c H locs cells slots Q (F0 m pc ls (.int (iI a) :: rest)) :=
  lv_if_eq X.1.1 X.1.2.1 hdg ht (fun h => kt ((iI_eq ha (by decide)).mp h)) (fun h => kf (fun q => h ((iI_eq ha (by decide)).mpr q)))
theorem x_if_ne (X : xC t p s m args c cc ws own nL) {a : Int} {off : Int} {tgt : Nat} (ha : InR a) (hdg : decode cc pc = .ok (.ifCond .ne off, 3)) (ht : (pc : Int) + off = (tgt : Int)) (kt : ¬ a = 0 → W p l e R s m args below meth c H locs cells slots Q (F0 m tgt ls rest)) (kf : a = 0 → W p l e R s m args below meth c H locs cells slots Q (F0 m (pc + 3) ls rest)) : W p l e R s m args below meth c H locs cells slots Q (F0 m pc ls (.int (iI a) :: rest)) :=
  lv_if_ne X.1.1 X.1.2.1 hdg ht (fun h => kt (fun q => h ((iI_eq ha (by decide)).mpr q))) (fun h => kf ((iI_eq ha (by decide)).mp h))
theorem x_if_lt (X : xC t p s m args c cc ws own nL) {a : Int} {off : Int} {tgt : Nat} (ha : InR a) (hdg : decode cc pc = .ok (.ifCond .lt off, 3)) (ht : (pc : Int) + off = (tgt : Int)) (kt : a < 0 → W p l e R s m args below meth c H locs cells slots Q (F0 m tgt ls rest)) (kf : ¬ a < 0 → W p l e R s m args below meth c H locs cells slots Q (F0 m (pc + 3) ls rest)) : W p l e R s m args below meth c H locs cells slots Q (F0 m pc ls (.int (iI a) :: rest)) :=
  lv_if_lt X.1.1 X.1.2.1 hdg ht (fun h => kt ((iI_lt ha (by decide)).mp h)) (fun h => kf (fun q => h ((iI_lt ha (by decide)).mpr q)))
theorem x_if_ge (X : xC t p s m args c cc ws own nL) {a : Int} {off : Int} {tgt : Nat} (ha : InR a) (hdg : decode cc pc = .ok (.ifCond .ge off, 3)) (ht : (pc : Int) + off = (tgt : Int)) (kt : 0 ≤ a → W p l e R s m args below meth c H locs cells slots Q (F0 m tgt ls rest)) (kf : ¬ 0 ≤ a → W p l e R s m args below meth c H locs cells slots Q (F0 m (pc + 3) ls rest)) : W p l e R s m args below meth c H locs cells slots Q (F0 m pc ls (.int (iI a) :: rest)) :=
  lv_if_ge X.1.1 X.1.2.1 hdg ht (fun h => kt ((iI_le (by decide) ha).mp h)) (fun h => kf (fun q => h ((iI_le (by decide) ha).mpr q)))
theorem x_if_gt (X : xC t p s m args c cc ws own nL) {a : Int} {off : Int} {tgt : Nat} (ha : InR a) (hdg : decode cc pc = .ok (.ifCond .gt off, 3)) (ht : (pc : Int) + off = (tgt : Int)) (kt : 0 < a → W p l e R s m args below meth c H locs cells slots Q (F0 m tgt ls rest)) (kf : ¬ 0 < a → W p l e R s m args below meth c H locs cells slots Q (F0 m (pc + 3) ls rest)) : W p l e R s m args below meth c H locs cells slots Q (F0 m pc ls (.int (iI a) :: rest)) :=
  lv_if_gt X.1.1 X.1.2.1 hdg ht (fun h => kt ((iI_lt (by decide) ha).mp h)) (fun h => kf (fun q => h ((iI_lt (by decide) ha).mpr q)))
theorem x_if_le (X : xC t p s m args c cc ws own nL) {a : Int} {off : Int} {tgt : Nat} (ha : InR a) (hdg : decode cc pc = .ok (.ifCond .le off, 3)) (ht : (pc : Int) + off = (tgt : Int)) (kt : a ≤ 0 → W p l e R s m args below meth c H locs cells slots Q (F0 m tgt ls rest)) (kf : ¬ a ≤ 0 → W p l e R s m args below meth c H locs cells slots Q (F0 m (pc + 3) ls rest)) : W p l e R s m args below meth c H locs cells slots Q (F0 m pc ls (.int (iI a) :: rest)) :=
  lv_if_le X.1.1 X.1.2.1 hdg ht (fun h => kt ((iI_le ha (by decide)).mp h)) (fun h => kf (fun q => h ((iI_le ha (by decide)).mpr q)))
-- cells
theorem y_geti (X : xC t p s m args c cc ws own nL) (hG : G t u H) (ci j k : Nat) (ji : Int) {C : String} {T : u_T} {N idx : Nat} (inC : ∀ w ∈ u_ws C T N, w ∈ ws) (hc : vwCl[ci]? = some (C, T, N)) (hk : al t k) (hs : sT k = ci) (h1 : ci < 100 ∧ j < N ∧ j < fN ci ∧ fC ci j = 0 ∧ (j : Int) = ji) (hw : Cond.fieldLink own idx (T j).1 (T j).2.1 (T j).2.2.1 ∈ ws) (hdg : decode cc pc = .ok (.getfield idx, 3)) (kk : W p l e R s m args below meth c H locs cells slots Q (F0 m (pc + 3) ls (.int (iI (u k ji)) :: rest))) : W p l e R s m args below meth c H locs cells slots Q (F0 m pc ls (.ref (t.2.2.1 k) :: rest)) := by
  obtain ⟨h100, hjN, hjf, hcode, rfl⟩ := h1
  refine va_get (D := t.1) (cl := vwCl) (C := C) (T := T) (N := N) X.1.1 X.1.2.1 X.1.2.2.2.2 inC X.1.2.2.2.1 X.2.1 hG.P (gi t k) (gL_o hk hs h100) hc j hjN (X.1.2.2.2.2 _ hw) (fun _ h9 => h9) (gO_at hs hjf) hdg ?_
  have : gV t u k j = .int (iI (u k (j : Int))) := by simp only [gV, hs, hcode, if_true]
  rw [this]; exact kk
theorem x_geti (X : xC t p s m args c cc ws own nL) (hG : G t u H) (ci j k : Nat) (ji : Int) {C : String} {T : u_T} {N idx : Nat} (inC : ∀ w ∈ u_ws C T N, w ∈ ws) (hc : vwCl[ci]? = some (C, T, N)) (hk : k < NN) (hs : sT k = ci) (h1 : ci < 100 ∧ j < N ∧ j < fN ci ∧ fC ci j = 0 ∧ (j : Int) = ji) (hw : Cond.fieldLink own idx (T j).1 (T j).2.1 (T j).2.2.1 ∈ ws) (hdg : decode cc pc = .ok (.getfield idx, 3)) (kk : W p l e R s m args below meth c H locs cells slots Q (F0 m (pc + 3) ls (.int (iI (u k ji)) :: rest))) : W p l e R s m args below meth c H locs cells slots Q (F0 m pc ls (.ref (t.2.2.1 k) :: rest)) :=
  y_geti X hG ci j k ji inC hc (al_c hk hs (by have h9 := h1.1; omega)) hs h1 hw hdg kk
theorem y_getr (X : xC t p s m args c cc ws own nL) (hG : G t u H) (ci j k off : Nat) {C : String} {T : u_T} {N idx : Nat} (inC : ∀ w ∈ u_ws C T N, w ∈ ws) (hc : vwCl[ci]? = some (C, T, N)) (hk : al t k) (hs : sT k = ci) (h1 : ci < 100 ∧ j < N ∧ j < fN ci ∧ fC ci j = off ∧ 0 < off ∧ off < 1000) (hw : Cond.fieldLink own idx (T j).1 (T j).2.1 (T j).2.2.1 ∈ ws) (hdg : decode cc pc = .ok (.getfield idx, 3)) (kk : W p l e R s m args below meth c H locs cells slots Q (F0 m (pc + 3) ls (.ref (t.2.2.1 (k + off)) :: rest))) : W p l e R s m args below meth c H locs cells slots Q (F0 m pc ls (.ref (t.2.2.1 k) :: rest)) := by
  obtain ⟨h100, hjN, hjf, hcode, h0, h3⟩ := h1
  refine va_get (D := t.1) (cl := vwCl) (C := C) (T := T) (N := N) X.1.1 X.1.2.1 X.1.2.2.2.2 inC X.1.2.2.2.1 X.2.1 hG.P (gi t k) (gL_o hk hs h100) hc j hjN (X.1.2.2.2.2 _ hw) (fun _ h9 => h9) (gO_at hs hjf) hdg ?_
  have : gV t u k j = .ref (t.2.2.1 (k + off)) := by
    simp only [gV, hs, hcode]
    rw [if_neg (by omega), if_neg (by omega)]
  rw [this]; exact kk
theorem x_getr (X : xC t p s m args c cc ws own nL) (hG : G t u H) (ci j k off : Nat) {C : String} {T : u_T} {N idx : Nat} (inC : ∀ w ∈ u_ws C T N, w ∈ ws) (hc : vwCl[ci]? = some (C, T, N)) (hk : k < NN) (hs : sT k = ci) (h1 : ci < 100 ∧ j < N ∧ j < fN ci ∧ fC ci j = off ∧ 0 < off ∧ off < 1000) (hw : Cond.fieldLink own idx (T j).1 (T j).2.1 (T j).2.2.1 ∈ ws) (hdg : decode cc pc = .ok (.getfield idx, 3)) (kk : W p l e R s m args below meth c H locs cells slots Q (F0 m (pc + 3) ls (.ref (t.2.2.1 (k + off)) :: rest))) : W p l e R s m args below meth c H locs cells slots Q (F0 m pc ls (.ref (t.2.2.1 k) :: rest)) :=
  y_getr X hG ci j k off inC hc (al_c hk hs (by have h9 := h1.1; omega)) hs h1 hw hdg kk
theorem y_getd (X : xC t p s m args c cc ws own nL) (hG : G t u H) (ci j k : Nat) (ji : Int) {C : String} {T : u_T} {N idx n : Nat} (inC : ∀ w ∈ u_ws C T N, w ∈ ws) (hc : vwCl[ci]? = some (C, T, N)) (hk : al t k) (hs : sT k = ci) (h1 : ci < 100 ∧ j < N ∧ j < fN ci ∧ fC ci j = 1000 ∧ (j : Int) = ji) (hn : n = (u k ji).toNat) (hw : Cond.fieldLink own idx (T j).1 (T j).2.1 (T j).2.2.1 ∈ ws) (hdg : decode cc pc = .ok (.getfield idx, 3)) (kk : W p l e R s m args below meth c H locs cells slots Q (F0 m (pc + 3) ls (.ref (t.2.2.1 n) :: rest))) : W p l e R s m args below meth c H locs cells slots Q (F0 m pc ls (.ref (t.2.2.1 k) :: rest)) := by
  obtain ⟨h100, hjN, hjf, hcode, rfl⟩ := h1
  subst hn
  refine va_get (D := t.1) (cl := vwCl) (C := C) (T := T) (N := N) X.1.1 X.1.2.1 X.1.2.2.2.2 inC X.1.2.2.2.1 X.2.1 hG.P (gi t k) (gL_o hk hs h100) hc j hjN (X.1.2.2.2.2 _ hw) (fun _ h9 => h9) (gO_at hs hjf) hdg ?_
  have : gV t u k j = .ref (t.2.2.1 (u k (j : Int)).toNat) := by
    simp only [gV, hs, hcode]
    rfl
  rw [this]; exact kk
theorem x_getd (X : xC t p s m args c cc ws own nL) (hG : G t u H) (ci j k : Nat) (ji : Int) {C : String} {T : u_T} {N idx n : Nat} (inC : ∀ w ∈ u_ws C T N, w ∈ ws) (hc : vwCl[ci]? = some (C, T, N)) (hk : k < NN) (hs : sT k = ci) (h1 : ci < 100 ∧ j < N ∧ j < fN ci ∧ fC ci j = 1000 ∧ (j : Int) = ji) (hn : n = (u k ji).toNat) (hw : Cond.fieldLink own idx (T j).1 (T j).2.1 (T j).2.2.1 ∈ ws) (hdg : decode cc pc = .ok (.getfield idx, 3)) (kk : W p l e R s m args below meth c H locs cells slots Q (F0 m (pc + 3) ls (.ref (t.2.2.1 n) :: rest))) : W p l e R s m args below meth c H locs cells slots Q (F0 m pc ls (.ref (t.2.2.1 k) :: rest)) :=
  y_getd X hG ci j k ji inC hc (al_c hk hs (by have h9 := h1.1; omega)) hs h1 hn hw hdg kk
theorem y_puti (X : xC t p s m args c cc ws own nL) (hG : G t u H) (hS : va_S (gA t) s.heap H locs) (ci j k : Nat) (ji x : Int) {C : String} {T : u_T} {N idx : Nat} (ty0 : Nat → FieldType) (hty : ∀ k, k < N → parseFieldDescriptor (T k).2.2.1 = some (ty0 k)) (hnm : ∀ a, a < N → ∀ b, b < N → a ≠ b → (T a).2.1 ≠ (T b).2.1) (inC : ∀ w ∈ u_ws C T N, w ∈ ws) (hc : vwCl[ci]? = some (C, T, N)) (hk : al t k) (hs : sT k = ci) (h1 : ci < 100 ∧ j < N ∧ j < fN ci ∧ fC ci j = 0 ∧ (j : Int) = ji) (hfin : (T j).2.2.2 = false) (hd : parseFieldDescriptor (T j).2.2.1 = some .int) (hw : Cond.fieldLink own idx (T j).1 (T j).2.1 (T j).2.2.1 ∈ ws) (hdg : decode cc pc = .ok (.putfield idx, 3)) (kk : ∀ (H1 : Heap) (locs1 : List Loc), G t (up u k ji x) H1 → va_S (gA t) s.heap H1 locs1 → W p l e R s m args below meth c H1 locs1 cells slots Q (F0 m (pc + 3) ls rest)) : W p l e R s m args below meth c H locs cells slots Q (F0 m pc ls (.int (iI x) :: .ref (t.2.2.1 k) :: rest)) := by
  obtain ⟨h100, hjN, hjf, hcode, rfl⟩ := h1
  refine va_put (D := t.1) (cl := vwCl) (C := C) (T := T) (N := N) X.1.1 X.1.2.1 X.1.2.2.2.2 inC ty0 hty hnm X.1.2.2.2.1 X.2.1 hG.P hG.D hS (gi t k) (gL_o hk hs h100) hc j hjN (X.1.2.2.2.2 _ hw) (fun _ h9 => h9) hfin hd rfl rfl (by rw [gO_len hs]; exact hjf) hdg (fun H1 locs1 hP _ hS1 => ?_)
  refine kk H1 locs1 (hG.store hk ⟨by omega, by omega⟩ hP (gad_o hs (by omega)) ?_ (fun i b hi => up_k hi)) hS1
  have hk9 : (1000 : Nat) ≠ k := by have : k < 358 := al_lt hk; omega
  have hv : gV t (up u k (j : Int) x) k j = .int (iI x) := by simp only [gV, hs, hcode, if_true, up_s]
  simp only [gE, hs]
  rw [if_pos h100, gO_set (u := u) hs (fun b => up_k hk9) (fun b hb => up_j hb), hv]
theorem x_puti (X : xC t p s m args c cc ws own nL) (hG : G t u H) (hS : va_S (gA t) s.heap H locs) (ci j k : Nat) (ji x : Int) {C : String} {T : u_T} {N idx : Nat} (ty0 : Nat → FieldType) (hty : ∀ k, k < N → parseFieldDescriptor (T k).2.2.1 = some (ty0 k)) (hnm : ∀ a, a < N → ∀ b, b < N → a ≠ b → (T a).2.1 ≠ (T b).2.1) (inC : ∀ w ∈ u_ws C T N, w ∈ ws) (hc : vwCl[ci]? = some (C, T, N)) (hk : k < NN) (hs : sT k = ci) (h1 : ci < 100 ∧ j < N ∧ j < fN ci ∧ fC ci j = 0 ∧ (j : Int) = ji) (hfin : (T j).2.2.2 = false) (hd : parseFieldDescriptor (T j).2.2.1 = some .int) (hw : Cond.fieldLink own idx (T j).1 (T j).2.1 (T j).2.2.1 ∈ ws) (hdg : decode cc pc = .ok (.putfield idx, 3)) (kk : ∀ (H1 : Heap) (locs1 : List Loc), G t (up u k ji x) H1 → va_S (gA t) s.heap H1 locs1 → W p l e R s m args below meth c H1 locs1 cells slots Q (F0 m (pc + 3) ls rest)) : W p l e R s m args below meth c H locs cells slots Q (F0 m pc ls (.int (iI x) :: .ref (t.2.2.1 k) :: rest)) :=
  y_puti X hG hS ci j k ji x ty0 hty hnm inC hc (al_c hk hs (by have h9 := h1.1; omega)) hs h1 hfin hd hw hdg kk
theorem y_putd (X : xC t p s m args c cc ws own nL) (hG : G t u H) (hS : va_S (gA t) s.heap H locs) (ci j k n : Nat) (ji : Int) {C E : String} {T : u_T} {N idx : Nat} (ty0 : Nat → FieldType) (hty : ∀ k, k < N → parseFieldDescriptor (T k).2.2.1 = some (ty0 k)) (hnm : ∀ a, a < N → ∀ b, b < N → a ≠ b → (T a).2.1 ≠ (T b).2.1) (inC : ∀ w ∈ u_ws C T N, w ∈ ws) (hc : vwCl[ci]? = some (C, T, N)) (hk : al t k) (hs : sT k = ci) (h1 : ci < 100 ∧ j < N ∧ j < fN ci ∧ fC ci j = 1000 ∧ (j : Int) = ji) (hfin : (T j).2.2.2 = false) (hd : parseFieldDescriptor (T j).2.2.1 = some (.object E)) (hw : Cond.fieldLink own idx (T j).1 (T j).2.1 (T j).2.2.1 ∈ ws) (hdg : decode cc pc = .ok (.putfield idx, 3)) (kk : ∀ (H1 : Heap) (locs1 : List Loc), G t (up u k ji (n : Int)) H1 → va_S (gA t) s.heap H1 locs1 → W p l e R s m args below meth c H1 locs1 cells slots Q (F0 m (pc + 3) ls rest)) : W p l e R s m args below meth c H locs cells slots Q (F0 m pc ls (.ref (t.2.2.1 n) :: .ref (t.2.2.1 k) :: rest)) := by
  obtain ⟨h100, hjN, hjf, hcode, rfl⟩ := h1
  refine va_put (D := t.1) (cl := vwCl) (C := C) (T := T) (N := N) X.1.1 X.1.2.1 X.1.2.2.2.2 inC ty0 hty hnm X.1.2.2.2.1 X.2.1 hG.P hG.D hS (gi t k) (gL_o hk hs h100) hc j hjN (X.1.2.2.2.2 _ hw) (fun _ h9 => h9) hfin hd rfl rfl (by rw [gO_len hs]; exact hjf) hdg (fun H1 locs1 hP _ hS1 => ?_)
  refine kk H1 locs1 (hG.store hk ⟨by omega, by omega⟩ hP (gad_o hs (by omega)) ?_ (fun i b hi => up_k hi)) hS1
  have hk9 : (1000 : Nat) ≠ k := by have : k < 358 := al_lt hk; omega
  have hv : gV t (up u k (j : Int) (n : Int)) k j = .ref (t.2.2.1 n) := by
    simp only [gV, hs, hcode, up_s]
    rfl
  simp only [gE, hs]
  rw [if_pos h100, gO_set (u := u) hs (fun b => up_k hk9) (fun b hb => up_j hb), hv]
theorem x_putd (X : xC t p s m args c cc ws own nL) (hG : G t u H) (hS : va_S (gA t) s.heap H locs) (ci j k n : Nat) (ji : Int) {C E : String} {T : u_T} {N idx : Nat} (ty0 : Nat → FieldType) (hty : ∀ k, k < N → parseFieldDescriptor (T k).2.2.1 = some (ty0 k)) (hnm : ∀ a, a < N → ∀ b, b < N → a ≠ b → (T a).2.1 ≠ (T b).2.1) (inC : ∀ w ∈ u_ws C T N, w ∈ ws) (hc : vwCl[ci]? = some (C, T, N)) (hk : k < NN) (hs : sT k = ci) (h1 : ci < 100 ∧ j < N ∧ j < fN ci ∧ fC ci j = 1000 ∧ (j : Int) = ji) (hfin : (T j).2.2.2 = false) (hd : parseFieldDescriptor (T j).2.2.1 = some (.object E)) (hw : Cond.fieldLink own idx (T j).1 (T j).2.1 (T j).2.2.1 ∈ ws) (hdg : decode cc pc = .ok (.putfield idx, 3)) (kk : ∀ (H1 : Heap) (locs1 : List Loc), G t (up u k ji (n : Int)) H1 → va_S (gA t) s.heap H1 locs1 → W p l e R s m args below meth c H1 locs1 cells slots Q (F0 m (pc + 3) ls rest)) : W p l e R s m args below meth c H locs cells slots Q (F0 m pc ls (.ref (t.2.2.1 n) :: .ref (t.2.2.1 k) :: rest)) :=
  y_putd X hG hS ci j k n ji ty0 hty hnm inC hc (al_c hk hs (by have h9 := h1.1; omega)) hs h1 hfin hd hw hdg kk
theorem y_iald (X : xC t p s m args c cc ws own nL) (hG : G t u H) {k : Nat} {i : Int} (hk : al t k) (hs : sT k = 100) {n : Nat} (hn : sN k = n) (hi : 0 ≤ i ∧ i < (n : Int)) (h2 : n < 2147483648) (hdg : decode cc pc = .ok (.iaload, 1)) (kk : W p l e R s m args below meth c H locs cells slots Q (F0 m (pc + 1) ls (.int (iI (u k i)) :: rest))) : W p l e R s m args below meth c H locs cells slots Q (F0 m pc ls (.int (iI i) :: .ref (t.2.2.1 k) :: rest)) := by
  subst hn
  refine va_iald (D := t.1) (cl := vwCl) X.1.1 X.1.2.1 X.2.1 hG.P (gi t k) 0 (gL_a hk hs (by omega)) rfl (iI_in hi h2) hdg ?_
  rw [iI_cl ⟨by omega, by omega⟩, Int.toNat_of_nonneg hi.1]
  exact kk
theorem x_iald (X : xC t p s m args c cc ws own nL) (hG : G t u H) {k : Nat} {i : Int} (hk : k < NN) (hs : sT k = 100) {n : Nat} (hn : sN k = n) (hi : 0 ≤ i ∧ i < (n : Int)) (h2 : n < 2147483648) (hdg : decode cc pc = .ok (.iaload, 1)) (kk : W p l e R s m args below meth c H locs cells slots Q (F0 m (pc + 1) ls (.int (iI (u k i)) :: rest))) : W p l e R s m args below meth c H locs cells slots Q (F0 m pc ls (.int (iI i) :: .ref (t.2.2.1 k) :: rest)) :=
  y_iald X hG (al_c hk hs (by decide)) hs hn hi h2 hdg kk
theorem y_zald (X : xC t p s m args c cc ws own nL) (hG : G t u H) {k : Nat} {i : Int} (hk : al t k) (hs : sT k = 101) {n : Nat} (hn : sN k = n) (hi : 0 ≤ i ∧ i < (n : Int)) (h2 : n < 2147483648) (hdg : decode cc pc = .ok (.baload, 1)) (kk : W p l e R s m args below meth c H locs cells slots Q (F0 m (pc + 1) ls (.int (iI (u k i)) :: rest))) : W p l e R s m args below meth c H locs cells slots Q (F0 m pc ls (.int (iI i) :: .ref (t.2.2.1 k) :: rest)) := by
  subst hn
  refine va_zald (D := t.1) (cl := vwCl) X.1.1 X.1.2.1 X.2.1 hG.P (gi t k) 1 (gL_a hk hs (by omega)) rfl (iI_in hi h2) hdg ?_
  rw [iI_cl ⟨by omega, by omega⟩, Int.toNat_of_nonneg hi.1]
  exact kk
theorem x_zald (X : xC t p s m args c cc ws own nL) (hG : G t u H) {k : Nat} {i : Int} (hk : k < NN) (hs : sT k = 101) {n : Nat} (hn : sN k = n) (hi : 0 ≤ i ∧ i < (n : Int)) (h2 : n < 2147483648) (hdg : decode cc pc = .ok (.baload, 1)) (kk : W p l e R s m args below meth c H locs cells slots Q (F0 m (pc + 1) ls (.int (iI (u k i)) :: rest))) : W p l e R s m args below meth c H locs cells slots Q (F0 m pc ls (.int (iI i) :: .ref (t.2.2.1 k) :: rest)) :=
  y_zald X hG (al_c hk hs (by decide)) hs hn hi h2 hdg kk
theorem y_bald (X : xC t p s m args c cc ws own nL) (hG : G t u H) {k : Nat} {i : Int} (hk : al t k) (hs : sT k = 102) {n : Nat} (hn : sN k = n) (hi : 0 ≤ i ∧ i < (n : Int)) (h2 : n < 2147483648) (hdg : decode cc pc = .ok (.baload, 1)) (kk : W p l e R s m args below meth c H locs cells slots Q (F0 m (pc + 1) ls (.int (iI (u k i)) :: rest))) : W p l e R s m args below meth c H locs cells slots Q (F0 m pc ls (.int (iI i) :: .ref (t.2.2.1 k) :: rest)) := by
  subst hn
  refine va_bald (D := t.1) (cl := vwCl) X.1.1 X.1.2.1 X.2.1 hG.P (gi t k) 2 (gL_a hk hs (by omega)) rfl (iI_in hi h2) hdg ?_
  rw [iI_cl ⟨by omega, by omega⟩, Int.toNat_of_nonneg hi.1]
  exact kk
theorem x_bald (X : xC t p s m args c cc ws own nL) (hG : G t u H) {k : Nat} {i : Int} (hk : k < NN) (hs : sT k = 102) {n : Nat} (hn : sN k = n) (hi : 0 ≤ i ∧ i < (n : Int)) (h2 : n < 2147483648) (hdg : decode cc pc = .ok (.baload, 1)) (kk : W p l e R s m args below meth c H locs cells slots Q (F0 m (pc + 1) ls (.int (iI (u k i)) :: rest))) : W p l e R s m args below meth c H locs cells slots Q (F0 m pc ls (.int (iI i) :: .ref (t.2.2.1 k) :: rest)) :=
  y_bald X hG (al_c hk hs (by decide)) hs hn hi h2 hdg kk
theorem upd_iI {u : uS} {k : Nat} {i x : Int} (hi : 0 ≤ i) : (fun j : Nat => iI (up u k i x k (j : Int))) = upd (fun j : Nat => iI (u k (j : Int))) i.toNat (iI x) := by
  funext j
  unfold upd up
  by_cases h : j = i.toNat
  · rw [if_pos ⟨rfl, by omega⟩, if_pos h]
  · rw [if_neg (fun q => h (by omega)), if_neg h]
theorem y_iast (X : xC t p s m args c cc ws own nL) (hG : G t u H) (hS : va_S (gA t) s.heap H locs) {k : Nat} {i x : Int} (hk : al t k) (hs : sT k = 100) {n : Nat} (hn : sN k = n) (hi : 0 ≤ i ∧ i < (n : Int)) (h2 : n < 2147483648) (hdg : decode cc pc = .ok (.iastore, 1)) (kk : ∀ (H1 : Heap) (locs1 : List Loc), G t (up u k i x) H1 → va_S (gA t) s.heap H1 locs1 → W p l e R s m args below meth c H1 locs1 cells slots Q (F0 m (pc + 1) ls rest)) : W p l e R s m args below meth c H locs cells slots Q (F0 m pc ls (.int (iI x) :: .int (iI i) :: .ref (t.2.2.1 k) :: rest)) := by
  subst hn
  refine va_iast (D := t.1) (cl := vwCl) X.1.1 X.1.2.1 X.2.1 hG.P hG.D hS (gi t k) 0 (gL_a hk hs (by omega)) rfl (iI_in hi h2) hdg (fun H1 locs1 hP _ hS1 => ?_)
  refine kk H1 locs1 (hG.store hk ⟨by omega, by omega⟩ hP (gad_o hs (by omega)) ?_ (fun i b hi => up_k hi)) hS1
  rw [gE_a hs (by omega), iI_cl ⟨by omega, by omega⟩, upd_iI hi.1]
theorem x_iast (X : xC t p s m args c cc ws own nL) (hG : G t u H) (hS : va_S (gA t) s.heap H locs) {k : Nat} {i x : Int} (hk : k < NN) (hs : sT k = 100) {n : Nat} (hn : sN k = n) (hi : 0 ≤ i ∧ i < (n : Int)) (h2 : n < 2147483648) (hdg : decode cc pc = .ok (.iastore, 1)) (kk : ∀ (H1 : Heap) (locs1 : List Loc), G t (up u k i x) H1 → va_S (gA t) s.heap H1 locs1 → W p l e R s m args below meth c H1 locs1 cells slots Q (F0 m (pc + 1) ls rest)) : W p l e R s m args below meth c H locs cells slots Q (F0 m pc ls (.int (iI x) :: .int (iI i) :: .ref (t.2.2.1 k) :: rest)) :=
  y_iast X hG hS (al_c hk hs (by decide)) hs hn hi h2 hdg kk
theorem y_zast (X : xC t p s m args c cc ws own nL) (hG : G t u H) (hS : va_S (gA t) s.heap H locs) {k : Nat} {i x : Int} (hk : al t k) (hs : sT k = 101) {n : Nat} (hn : sN k = n) (hi : 0 ≤ i ∧ i < (n : Int)) (h2 : n < 2147483648) (hv : x = 0 ∨ x = 1) (hdg : decode cc pc = .ok (.bastore, 1)) (kk : ∀ (H1 : Heap) (locs1 : List Loc), G t (up u k i x) H1 → va_S (gA t) s.heap H1 locs1 → W p l e R s m args below meth c H1 locs1 cells slots Q (F0 m (pc + 1) ls rest)) : W p l e R s m args below meth c H locs cells slots Q (F0 m pc ls (.int (iI x) :: .int (iI i) :: .ref (t.2.2.1 k) :: rest)) := by
  subst hn
  refine va_zast (D := t.1) (cl := vwCl) X.1.1 X.1.2.1 X.2.1 hG.P hG.D hS (gi t k) 1 (gL_a hk hs (by omega)) rfl (iI_in hi h2) hdg (fun H1 locs1 hP _ hS1 => ?_)
  refine kk H1 locs1 (hG.store hk ⟨by omega, by omega⟩ hP (gad_o hs (by omega)) ?_ (fun i b hi => up_k hi)) hS1
  have hb : vp_nar .boolean (iI x) = iI x := by rcases hv with rfl | rfl <;> decide
  rw [gE_a hs (by omega), iI_cl ⟨by omega, by omega⟩, upd_iI hi.1, hb]
theorem x_zast (X : xC t p s m args c cc ws own nL) (hG : G t u H) (hS : va_S (gA t) s.heap H locs) {k : Nat} {i x : Int} (hk : k < NN) (hs : sT k = 101) {n : Nat} (hn : sN k = n) (hi : 0 ≤ i ∧ i < (n : Int)) (h2 : n < 2147483648) (hv : x = 0 ∨ x = 1) (hdg : decode cc pc = .ok (.bastore, 1)) (kk : ∀ (H1 : Heap) (locs1 : List Loc), G t (up u k i x) H1 → va_S (gA t) s.heap H1 locs1 → W p l e R s m args below meth c H1 locs1 cells slots Q (F0 m (pc + 1) ls rest)) : W p l e R s m args below meth c H locs cells slots Q (F0 m pc ls (.int (iI x) :: .int (iI i) :: .ref (t.2.2.1 k) :: rest)) :=
  y_zast X hG hS (al_c hk hs (by decide)) hs hn hi h2 hv hdg kk
theorem y_bast (X : xC t p s m args c cc ws own nL) (hG : G t u H) (hS : va_S (gA t) s.heap H locs) {k : Nat} {i x : Int} (hk : al t k) (hs : sT k = 102) {n : Nat} (hn : sN k = n) (hi : 0 ≤ i ∧ i < (n : Int)) (h2 : n < 2147483648) (hv : -128 ≤ x ∧ x < 128) (hdg : decode cc pc = .ok (.bastore, 1)) (kk : ∀ (H1 : Heap) (locs1 : List Loc), G t (up u k i x) H1 → va_S (gA t) s.heap H1 locs1 → W p l e R s m args below meth c H1 locs1 cells slots Q (F0 m (pc + 1) ls rest)) : W p l e R s m args below meth c H locs cells slots Q (F0 m pc ls (.int (iI x) :: .int (iI i) :: .ref (t.2.2.1 k) :: rest)) := by
  subst hn
  refine va_bast (D := t.1) (cl := vwCl) X.1.1 X.1.2.1 X.2.1 hG.P hG.D hS (gi t k) 2 (gL_a hk hs (by omega)) rfl (iI_in hi h2) hdg (fun H1 locs1 hP _ hS1 => ?_)
  refine kk H1 locs1 (hG.store hk ⟨by omega, by omega⟩ hP (gad_o hs (by omega)) ?_ (fun i b hi => up_k hi)) hS1
  have hb : vp_nar .byte (iI x) = iI x := by
    rw [vp_nar_byte]
    apply Int32.toInt.inj
    rw [Int8.toInt_toInt32, Int32.toInt_toInt8, iI_t ⟨by omega, by omega⟩, Int.bmod_eq_of_le (by omega) (by omega)]
  rw [gE_a hs (by omega), iI_cl ⟨by omega, by omega⟩, upd_iI hi.1, hb]
theorem x_bast (X : xC t p s m args c cc ws own nL) (hG : G t u H) (hS : va_S (gA t) s.heap H locs) {k : Nat} {i x : Int} (hk : k < NN) (hs : sT k = 102) {n : Nat} (hn : sN k = n) (hi : 0 ≤ i ∧ i < (n : Int)) (h2 : n < 2147483648) (hv : -128 ≤ x ∧ x < 128) (hdg : decode cc pc = .ok (.bastore, 1)) (kk : ∀ (H1 : Heap) (locs1 : List Loc), G t (up u k i x) H1 → va_S (gA t) s.heap H1 locs1 → W p l e R s m args below meth c H1 locs1 cells slots Q (F0 m (pc + 1) ls rest)) : W p l e R s m args below meth c H locs cells slots Q (F0 m pc ls (.int (iI x) :: .int (iI i) :: .ref (t.2.2.1 k) :: rest)) :=
  y_bast X hG hS (al_c hk hs (by decide)) hs hn hi h2 hv hdg kk
theorem y_alen (X : xC t p s m args c cc ws own nL) (hG : G t u H) {k : Nat} (hk : al t k) (hs : sT k = 100) {n : Nat} (hn : sN k = n) (hdg : decode cc pc = .ok (.arraylength, 1)) (kk : W p l e R s m args below meth c H locs cells slots Q (F0 m (pc + 1) ls (.int (iI (n : Int)) :: rest))) : W p l e R s m args below meth c H locs cells slots Q (F0 m pc ls (.ref (t.2.2.1 k) :: rest)) := by
  subst hn
  exact va_alen (D := t.1) (cl := vwCl) X.1.1 X.1.2.1 X.2.1 hG.P (gi t k) 0 (gL_a hk hs (by omega)) rfl (iI_nat _) hdg kk
theorem x_alen (X : xC t p s m args c cc ws own nL) (hG : G t u H) {k : Nat} (hk : k < NN) (hs : sT k = 100) {n : Nat} (hn : sN k = n) (hdg : decode cc pc = .ok (.arraylength, 1)) (kk : W p l e R s m args below meth c H locs cells slots Q (F0 m (pc + 1) ls (.int (iI (n : Int)) :: rest))) : W p l e R s m args below meth c H locs cells slots Q (F0 m pc ls (.ref (t.2.2.1 k) :: rest)) :=
  y_alen X hG (al_c hk hs (by decide)) hs hn hdg kk
theorem y_aald (X : xC t p s m args c cc ws own nL) (hG : G t u H) {k : Nat} {i : Int} (hk : al t k) (hs : sT k = 104) {n b : Nat} (hn : sN k = n) (hb : sB k = b) (hi : 0 ≤ i ∧ i < (n : Int)) (h2 : n < 2147483648) (hdg : decode cc pc = .ok (.aaload, 1)) (kk : W p l e R s m args below meth c H locs cells slots Q (F0 m (pc + 1) ls (.ref (t.2.2.1 (b + 15 * i.toNat)) :: rest))) : W p l e R s m args below meth c H locs cells slots Q (F0 m pc ls (.int (iI i) :: .ref (t.2.2.1 k) :: rest)) := by
  subst hn; subst hb
  have he : (gL t u)[gi t k]? = some (t.2.2.1 k, .inl (t.2.1 104, sN k, .inr (.inr (.inr (.inr (fun j => some (t.2.2.1 (sB k + 15 * (j % sN k))))))))) := by
    rw [gL_at hk, gad_o hs (by omega)]
    simp only [gE, hs]
    rfl
  refine va_aldq (D := t.1) (cl := vwCl) X.1.1 X.1.2.1 X.2.1 hG.P (gi t k) 4 he rfl (iI_in hi h2) hdg ?_
  rw [iI_cl ⟨by omega, by omega⟩, Nat.mod_eq_of_lt (by omega)]
  exact kk
theorem x_aald (X : xC t p s m args c cc ws own nL) (hG : G t u H) {k : Nat} {i : Int} (hk : k < NN) (hs : sT k = 104) {n b : Nat} (hn : sN k = n) (hb : sB k = b) (hi : 0 ≤ i ∧ i < (n : Int)) (h2 : n < 2147483648) (hdg : decode cc pc = .ok (.aaload, 1)) (kk : W p l e R s m args below meth c H locs cells slots Q (F0 m (pc + 1) ls (.ref (t.2.2.1 (b + 15 * i.toNat)) :: rest))) : W p l e R s m args below meth c H locs cells slots Q (F0 m pc ls (.int (iI i) :: .ref (t.2.2.1 k) :: rest)) :=
  y_aald X hG (al_c hk hs (by decide)) hs hn hb hi h2 hdg kk
end XR
