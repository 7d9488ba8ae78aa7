/-! X, part k: a method that may throw and may move the StringBuilder's bytes -/
abbrev xQtim (t : gP) (g : Nat) (r : Int) (u' : uS) : Array Value → State → Outcome → State → Prop := va_Qi (fun (r2 : Int32) (u2 : uS) => g = 0 ∧ r2 = iI r ∧ u2 = u') (fun u2 U => ∃ b : Nat, G (mv t b) u2 U.heap) (gA t)
abbrev xXtm (t : gP) (g : Nat) (u' : uS) : String → State → State → Prop := vx_X (fun (u2 : uS) => u2 = u') (fun E u2 U => g ≠ 0 ∧ E = xE g ∧ ∃ b : Nat, G (mv t b) u2 U.heap) (gA t)
def xTim (l : Launch) (y : MethodName) (ws : List Cond) (rm : Room) (t : gP) (As : List Value) (u : uS) (g : Nat) (r : Int) (u' : uS) (mc ms : Nat) : Prop := vx_Met l y ws rm (va_Pc As (gB t u)) (xQtim t g r u') (xXtm t g u') mc ms (gA t)
theorem x_ofTim {l : Launch} {y : MethodName} {ws ws' : List Cond} {rm : Room} {t : gP} {As : List Value} {u u' : uS} {g : Nat} {r : Int} {mc ms : Nat} {cc : ByteArray} {maxL : Nat} {ret : FieldType} {own : String} (hy : plainName y.cls = true) (hw : ws = Cond.code y cc maxL (some ret) :: ws') (ho : y.cls = own) (hL : (lg_sl As).length ≤ maxL)
    (body : ∀ p e s m args below meth c (Q : State → Prop), Q = vx_MQ below (xQtim t g r u') (xXtm t g u') args s mc ms (gA t) → xC t p s m args c cc ws own maxL → meth.locks = false → (∀ x ∈ c.exceptionTable.toList, False) →
      (∀ (b : Nat) (H : Heap) (locs : List Loc) (ls : Array Slot) (pc k n : Nat), k ≤ mc → n ≤ ms → g = 0 → decode cc pc = .ok (.ireturn, 1) → narrow ret (.int (iI r)) = .int (iI r) → G (mv t b) u' H → va_S (gA t) s.heap H locs → W p l e rm s m args below meth c H locs k n Q (F0 m pc ls [.int (iI r)])) →
      (∀ (b : Nat) (H : Heap) (locs : List Loc) (ls : Array Slot) (pc k n : Nat) (rest : List Value) (ce : Cell) (q : Addr), k ≤ mc → n ≤ ms → g ≠ 0 → G (mv t b) u' H → va_S (gA t) s.heap H locs → H[q]? = some ce → ce.vm = .none → s.vm.findClass (xE g) = some ce.cls → vx_W p l e rm s m args below meth c H locs k n Q (F0 m pc ls rest) q) →
      xG p l e rm s m args below meth c t Q maxL 0 0 0 u (lv_args 0 As) []) : xTim l y ws rm t As u g r u' mc ms := by
  refine vx_ofW (cc := cc) (maxL := maxL) (ret := some ret) hy hw ?_
  intro p e s m args below meth c s₁ B hml htab hv
  obtain ⟨rfl, hB1, hB2, hB3, hB4⟩ := hv
  have hts := atoms_spec (ws := ws) B.pre
  have hown : s.vm.findClass y.cls = some m.cls := findClass_of_methodNamed B.named
  rw [ho] at hown
  have hr := B.returns
  have hlk := B.notSynchronized
  have hl := lv_entry As (n := maxL) hL
  rw [lg_entry_eq]
  have X : xC t p s m As.toArray c cc ws own maxL := ⟨⟨B.exec, B.bytes, hml, hown, hts⟩, hB2, hB1, hB4⟩
  refine body p e s m As.toArray below meth c _ rfl X hlk htab (fun b H locs ls pc k n hk hn hg hd hnr hG hS => ?_) (fun b H locs ls pc k n rest ce q hk hn hg hG hS h7 h8 h9 => ?_) _ _ _ hB3 va_S.rf hl
  · refine W.widen (k := mc) (n := ms) hk hn ?_
    exact vx_ret (W.zret X.1.1 X.1.2.1 hr hnr (fun T hT hW => ⟨⟨iI r, u', rfl, ⟨hg, rfl, rfl⟩, b, (by rw [hT]; exact hG)⟩, hS.F hT⟩) hS.2.2 hd hlk)
  · exact vx_out (fun x q => (htab x q).elim) hlk h7 h8 h9 (fun T hT _ => ⟨u', rfl, ⟨hg, rfl, b, (by rw [hT]; exact hG)⟩, hS.F hT⟩) hS.2.2 hk hn
