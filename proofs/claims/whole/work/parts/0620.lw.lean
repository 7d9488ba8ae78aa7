/-! X, part q: rows for the law's wrappers (DRAFT, not compiled) -/
/-- which exceptions pass which handlers -/
def gNc : List (String × String) := [(xE 2, xE 1), (xE 3, xE 1), (xE 3, xE 2)]
/-- what the law's class calls them -/
def gLk : List Cond := [Cond.classLink RL 22 (xE 1), Cond.classLink RL 13 (xE 2), Cond.classLink RL 49 (xE 3)]
def gN (U : State) : Prop := (∀ q ∈ gNc, va_Nc q.1 q.2 U) ∧ ∀ w ∈ gLk, va_Nw w U
theorem gLk_t : ∀ w ∈ gLk, w.onTables = true := by decide +kernel
def gBn (t : gP) (u : uS) : State → Prop := fun U => gB t u U ∧ gN U
theorem gBn.calling {t : gP} {u : uS} (a : Array Value) (U : State) (g : JFrame) (mk : MethodId) (h : gBn t u U) : gBn t u (U.calling g mk a) := ⟨h.1.calling a U g mk, fun q hq => (h.2.1 q hq).moved (U := U.calling g mk a) (Vm.Alike.refl U.vm), fun w hw => va_Nw.same (u := U) (U := U.calling g mk a) (gLk_t w hw) rfl (h.2.2 w hw)⟩
theorem x_blindN {t : gP} {As : List Value} {u : uS} : FrameBlind (va_Pc As (gBn t u)) := fun a U g mk q => ⟨q.1, q.2.calling a U g mk⟩
/-- a wrapper: it answers the code r -/
def xWi (l : Launch) (y : MethodName) (ws : List Cond) (rm : Room) (t : gP) (As : List Value) (u : uS) (r : Int) (u' : uS) (mc ms : Nat) : Prop := vx_Met l y ws rm (va_Pc As (gBn t u)) (xQti t 0 r u') (xXt t 0 u') mc ms (gA t)
theorem gE_l {t : gP} {u : uS} {k : Nat} (hs : sT k = 103) : gE t u k = .inl (t.2.1 103, sN k, .inr (.inl (fun j => lI (u k (j : Int))))) := by
  simp only [gE, hs]
  rw [if_neg (by omega), if_neg (by omega), if_pos trivial]
theorem gL_l {t : gP} {u : uS} {k : Nat} (hk : k < NN) (hs : sT k = 103) : (gL t u)[k]? = some (t.2.2.1 k, .inl (t.2.1 103, sN k, .inr (.inl (fun j => lI (u k (j : Int)))))) := by
  rw [gL_at hk, gad_o hs (by omega), gE_l hs]
theorem upd_lI {u : uS} {k : Nat} {i x : Int} (hi : 0 ≤ i) : (fun j : Nat => lI (up u k i x k (j : Int))) = vp_updL (fun j : Nat => lI (u k (j : Int))) i.toNat (lI x) := by
  funext j
  unfold vp_updL up
  by_cases h : j = i.toNat
  · rw [if_pos ⟨rfl, by omega⟩, if_pos h]
  · rw [if_neg (fun q => h (by omega)), if_neg h]
section XQ
variable {p : Program} {l : Launch} {e : Env} {R : Room} {s : State} {m : MethodId} {args : Array Value} {below : List Frame} {meth : Method} {c : Code} {H : Heap} {locs : List Loc} {cells slots : Nat} {Q : State → Prop}
variable {cc : ByteArray} {pc : Nat} {ls : Array Slot} {rest : List Value} {t : gP} {u : uS} {ws : List Cond} {own : String} {nL : Nat}
theorem x_last (X : xC t p s m args c cc ws own nL) (hG : G t u H) (hS : va_S (gA t) s.heap H locs) {k : Nat} {i x : Int} (hk : k < NN) (hs : sT k = 103) {n : Nat} (hn : sN k = n) (hi : 0 ≤ i ∧ i < (n : Int)) (h2 : n < 2147483648) (hdg : decode cc pc = .ok (.lastore, 1))
    (kk : ∀ (H1 : Heap) (locs1 : List Loc), G t (up u k i x) H1 → va_S (gA t) s.heap H1 locs1 → W p l e R s m args below meth c H1 locs1 cells slots Q (F0 m (pc + 1) ls rest)) : W p l e R s m args below meth c H locs cells slots Q (F0 m pc ls (.long (lI x) :: .int (iI i) :: .ref (t.2.2.1 k) :: rest)) := by
  subst hn
  refine va_last (D := t.1) (cl := vwCl) X.1.1 X.1.2.1 X.2.1 hG.P hG.D hS k 3 (gL_l hk hs) rfl (iI_in hi h2) hdg (fun H1 locs1 hP _ hS1 => ?_)
  refine kk H1 locs1 (hG.store hk hP (gad_o hs (by omega)) ?_ (fun i b hi => up_k hi)) hS1
  rw [gE_l hs, iI_cl ⟨by omega, by omega⟩, upd_lI hi.1]
theorem x_lald (X : xC t p s m args c cc ws own nL) (hG : G t u H) {k : Nat} {i : Int} (hk : k < NN) (hs : sT k = 103) {n : Nat} (hn : sN k = n) (hi : 0 ≤ i ∧ i < (n : Int)) (h2 : n < 2147483648) (hdg : decode cc pc = .ok (.laload, 1))
    (kk : W p l e R s m args below meth c H locs cells slots Q (F0 m (pc + 1) ls (.long (lI (u k i)) :: rest))) : W p l e R s m args below meth c H locs cells slots Q (F0 m pc ls (.int (iI i) :: .ref (t.2.2.1 k) :: rest)) := by
  subst hn
  refine va_lald (D := t.1) (cl := vwCl) X.1.1 X.1.2.1 X.2.1 hG.P k 3 (gL_l hk hs) rfl (iI_in hi h2) hdg ?_
  rw [iI_cl ⟨by omega, by omega⟩, Int.toNat_of_nonneg hi.1]
  exact kk
/-- a handler takes the exception g: the entries before it are passed by -/
theorem x_cat (X : xC t p s m args c cc ws own nL) (hN : gN s) {g : Nat} {ce : Cell} {q : Nat} {hh : List (Nat × Nat × Nat × Nat)} (htab : c.exceptionTable.toList = tableOf hh) (pre : List ExceptionTableEntry) (x : ExceptionTableEntry) (suf : List ExceptionTableEntry) (hsplit : tableOf hh = pre ++ x :: suf)
    (hpass : ∀ z ∈ pre, z.catchType ≠ 0 ∧ ∃ nm : String, Cond.classLink own z.catchType nm ∈ gLk ∧ (xE g, nm) ∈ gNc) (hx : covers x pc = true) (h0 : x.catchType ≠ 0) (hlink : Cond.classLink own x.catchType (xE g) ∈ gLk) (hcast : (Cond.castable (xE g) (xE g)).before #[] s = true)
    (hcell : H[q]? = some ce) (hv : ce.vm = .none) (hcl : s.vm.findClass (xE g) = some ce.cls)
    (kk : W p l e R s m args below meth c H locs cells slots Q (F0 m x.handlerPc ls [.ref q])) : vx_W p l e R s m args below meth c H locs cells slots Q (F0 m pc ls rest) q :=
  vx_catch X.1.2.2.2.1 pre x suf (htab.trans hsplit) (fun z hz => by
    obtain ⟨h1, nm, h2, h3⟩ := hpass z hz
    exact Or.inr ⟨h1, nm, va_Nw.use (gLk_t _ h2) (hN.2 _ h2), hN.1 _ h3⟩) hx h0 (va_Nw.use (gLk_t _ hlink) (hN.2 _ hlink)) (show (Cond.castable (xE g) (xE g)).before args s = true from hcast) hcell hv hcl kk
end XQ
/-- a wrapper, entered -/
theorem x_ofWHi {l : Launch} {y : MethodName} {ws ws' : List Cond} {rm : Room} {t : gP} {As : List Value} {u u' : uS} {r : Int} {mc ms : Nat} {cc : ByteArray} {maxL : Nat} {ret : FieldType} {hh : List (Nat × Nat × Nat × Nat)} {own : String} (hy : plainName y.cls = true) (hw : ws = Cond.codeWith y cc maxL (some ret) hh :: ws') (ho : y.cls = own) (hL : (lg_sl As).length ≤ maxL)
    (body : ∀ p e s m args below meth c (Q : State → Prop), xC t p s m args c cc ws own maxL → gN s → c.exceptionTable.toList = tableOf hh →
      (∀ (H : Heap) (locs : List Loc) (ls : Array Slot) (pc k n : Nat), k ≤ mc → n ≤ ms → decode cc pc = .ok (.ireturn, 1) → narrow ret (.int (iI r)) = .int (iI r) → G t u' H → va_S (gA t) s.heap H locs → W p l e rm s m args below meth c H locs k n Q (F0 m pc ls [.int (iI r)])) →
      xG p l e rm s m args below meth c t Q maxL 0 0 0 u (lv_args 0 As) []) : xWi l y ws rm t As u r u' mc ms := by
  refine vx_ofWH (cc := cc) (maxL := maxL) (ret := some ret) hy hw ?_
  intro p e s m args below meth c s₁ B hml hv
  obtain ⟨rfl, ⟨hB1, hB2, hB3, hB4⟩, hN⟩ := hv
  have hts := atoms_spec (ws := ws) B.pre
  have hown : s.vm.findClass y.cls = some m.cls := findClass_of_methodNamed B.named
  rw [ho] at hown
  have htab := vx_table (x := y) B (hts _ (by rw [hw]; exact List.mem_cons_self))
  have hr := B.returns
  have hlk := B.notSynchronized
  have hl := lv_entry As (n := maxL) hL
  rw [lg_entry_eq]
  have X : xC t p s m As.toArray c cc ws own maxL := ⟨⟨B.exec, B.bytes, hml, hown, hts⟩, hB2, hB1, hB4⟩
  refine body p e s m As.toArray below meth c _ X hN htab (fun H locs ls pc k n hk hn hd hnr hG hS => ?_) _ _ _ hB3 va_S.rf hl
  refine W.widen (k := mc) (n := ms) hk hn ?_
  exact vx_ret (W.zret X.1.1 X.1.2.1 hr hnr (fun T hT hW => ⟨⟨iI r, u', rfl, ⟨rfl, rfl, rfl⟩, (by show G t _ _; rw [hT]; exact hG)⟩, hS.F hT⟩) hS.2.2 hd hlk)
