/-- a method that returns an int (or boolean), and one that returns nothing -/
abbrev xQi (t : gP) (r : Int) (u' : uS) : Array Value → State → Outcome → State → Prop := va_Qi (fun (r2 : Int32) (u2 : uS) => r2 = iI r ∧ u2 = u') (fun u2 U => G t u2 U.heap) (gA t)
abbrev xQv (t : gP) (u' : uS) : Array Value → State → Outcome → State → Prop := va_Qv (fun (u2 : uS) => u2 = u') (fun u2 U => G t u2 U.heap) (gA t)
def xMi (l : Launch) (y : MethodName) (ws : List Cond) (rm : Room) (t : gP) (As : List Value) (u : uS) (r : Int) (u' : uS) (mc ms : Nat) : Prop := Met l y ws rm (va_Pc As (gB t u)) (xQi t r u') mc ms (gA t)
def xMv (l : Launch) (y : MethodName) (ws : List Cond) (rm : Room) (t : gP) (As : List Value) (u : uS) (u' : uS) (mc ms : Nat) : Prop := Met l y ws rm (va_Pc As (gB t u)) (xQv t u') mc ms (gA t)
theorem x_blind {t : gP} {As : List Value} {u : uS} : FrameBlind (va_Pc As (gB t u)) := fun a U g mk q => ⟨q.1, q.2.calling a U g mk⟩
section XK
variable {p : Program} {l : Launch} {e : Env} {R : Room} {s : State} {m : MethodId} {args : Array Value} {below : List Frame} {meth : Method} {c : Code} {H : Heap} {locs : List Loc} {cells slots : Nat} {Q : State → Prop}
variable {cc : ByteArray} {pc : Nat} {ls : Array Slot} {rest : List Value} {t : gP} {u : uS} {ws : List Cond} {own : String} {nL : Nat}
theorem x_pre (X : xC t p s m args c cc ws own nL) (hG : G t u H) (hS : va_S (gA t) s.heap H locs) {As : List Value} : ∀ U : State, U.heap = H → s.WarmedH U.vm → va_Pc As (gB t u) As.toArray U := fun U hU hW =>
  ⟨rfl, X.2.2.1.to hS hU hW, va_K.moved hW.alike X.2.1, by rw [hU]; exact hG, by rw [hU]; exact Nat.le_trans X.2.2.2 hS.1⟩
theorem x_callVi (X : xC t p s m args c cc ws own nL) (hG : G t u H) (hS : va_S (gA t) s.heap H locs) {y : MethodName} {ws2 : List Cond} {rm : Room} {As : List Value} {u' : uS} {r : Int} {mc ms k n ci N idx maxL : Nat} {C : String} {T : u_T} {bytes : ByteArray} {ret : Option FieldType} {st0 : List Value}
    (hM : xMi l y ws2 rm t (.ref (t.2.2.1 k) :: As) u r u' mc ms) (cw : CallW R s args own C idx y bytes maxL ret ws2 rm mc ms n) (hk : k < NN) (hs : sT k = ci) (hci : vwCl[ci]? = some (C, T, N)) (h100 : ci < 100) (hn : As.length = n) (hl : ls.size = nL) (hW : (rest.map fun v => v.category).sum ≤ 8) (hdg : decode cc pc = .ok (.invokevirtual idx, 3)) (hf : cells + mc ≤ R.cells ∧ slots + ms ≤ R.slots)
    (hst : st0 = As.reverse ++ .ref (t.2.2.1 k) :: rest)
    (kk : ∀ (H1 : Heap) (locs1 : List Loc), G t u' H1 → va_S (gA t) s.heap H1 locs1 → W p l e R s m args below meth c H1 locs1 (cells + mc) (slots + ms) Q (F0 m (pc + 3) ls (.int (iI r) :: rest))) : W p l e R s m args below meth c H locs cells slots Q (F0 m pc ls st0) := by
  refine va_calli (va_runV (As := As) (rest := rest) X.1 hM cw ⟨x_blind, va_recv X.2.1 hG.P hci (gL_o hk hs h100), x_pre X hG hS⟩ rfl hn hl hst (lv_room hW) hdg hf) hS (fun q _ h => h) (fun q h => h) (fun r2 u2 U H1 locs1 hU hvm hw hB hz1 hk1 hS1 => ?_)
  obtain ⟨rfl, rfl⟩ := hw
  exact kk H1 locs1 (by rw [← hU]; exact hB) hS1
theorem x_callVv (X : xC t p s m args c cc ws own nL) (hG : G t u H) (hS : va_S (gA t) s.heap H locs) {y : MethodName} {ws2 : List Cond} {rm : Room} {As : List Value} {u' : uS} {mc ms k n ci N idx maxL : Nat} {C : String} {T : u_T} {bytes : ByteArray} {ret : Option FieldType} {st0 : List Value}
    (hM : xMv l y ws2 rm t (.ref (t.2.2.1 k) :: As) u u' mc ms) (cw : CallW R s args own C idx y bytes maxL ret ws2 rm mc ms n) (hk : k < NN) (hs : sT k = ci) (hci : vwCl[ci]? = some (C, T, N)) (h100 : ci < 100) (hn : As.length = n) (hl : ls.size = nL) (hW : (rest.map fun v => v.category).sum ≤ 8) (hdg : decode cc pc = .ok (.invokevirtual idx, 3)) (hf : cells + mc ≤ R.cells ∧ slots + ms ≤ R.slots)
    (hst : st0 = As.reverse ++ .ref (t.2.2.1 k) :: rest)
    (kk : ∀ (H1 : Heap) (locs1 : List Loc), G t u' H1 → va_S (gA t) s.heap H1 locs1 → W p l e R s m args below meth c H1 locs1 (cells + mc) (slots + ms) Q (F0 m (pc + 3) ls rest)) : W p l e R s m args below meth c H locs cells slots Q (F0 m pc ls st0) := by
  refine va_callv (va_runV (As := As) (rest := rest) X.1 hM cw ⟨x_blind, va_recv X.2.1 hG.P hci (gL_o hk hs h100), x_pre X hG hS⟩ rfl hn hl hst (lv_room hW) hdg hf) hS (fun q _ h => h) (fun q h => h) (fun u2 U H1 locs1 hU hvm hw hB hz1 hk1 hS1 => ?_)
  subst hw
  exact kk H1 locs1 (by rw [← hU]; exact hB) hS1
theorem x_callSi (X : xC t p s m args c cc ws own nL) (hG : G t u H) (hS : va_S (gA t) s.heap H locs) {y : MethodName} {ws2 : List Cond} {rm : Room} {As : List Value} {u' : uS} {r : Int} {mc ms n idx maxL : Nat} {bytes : ByteArray} {ret : Option FieldType} {st0 : List Value}
    (hM : xMi l y ws2 rm t As u r u' mc ms) (cw : CallB R s args own idx y bytes maxL ret ws2 rm mc ms n ∧ (Cond.static y).before args s = true) (hn : As.length = n) (hl : ls.size = nL) (hW : (rest.map fun v => v.category).sum ≤ 8) (hdg : decode cc pc = .ok (.invokestatic idx, 3)) (hf : cells + mc ≤ R.cells ∧ slots + ms ≤ R.slots)
    (hst : st0 = As.reverse ++ rest)
    (kk : ∀ (H1 : Heap) (locs1 : List Loc), G t u' H1 → va_S (gA t) s.heap H1 locs1 → W p l e R s m args below meth c H1 locs1 (cells + mc) (slots + ms) Q (F0 m (pc + 3) ls (.int (iI r) :: rest))) : W p l e R s m args below meth c H locs cells slots Q (F0 m pc ls st0) := by
  refine va_calli (va_runS (As := As) (rest := rest) X.1 hM cw ⟨x_blind, x_pre X hG hS⟩ rfl hn hl hst (lv_room hW) hdg hf) hS (fun q _ h => h) (fun q h => h) (fun r2 u2 U H1 locs1 hU hvm hw hB hz1 hk1 hS1 => ?_)
  obtain ⟨rfl, rfl⟩ := hw
  exact kk H1 locs1 (by rw [← hU]; exact hB) hS1
theorem x_callSv (X : xC t p s m args c cc ws own nL) (hG : G t u H) (hS : va_S (gA t) s.heap H locs) {y : MethodName} {ws2 : List Cond} {rm : Room} {As : List Value} {u' : uS} {mc ms n idx maxL : Nat} {bytes : ByteArray} {ret : Option FieldType} {st0 : List Value}
    (hM : xMv l y ws2 rm t As u u' mc ms) (cw : CallB R s args own idx y bytes maxL ret ws2 rm mc ms n ∧ (Cond.static y).before args s = true) (hn : As.length = n) (hl : ls.size = nL) (hW : (rest.map fun v => v.category).sum ≤ 8) (hdg : decode cc pc = .ok (.invokestatic idx, 3)) (hf : cells + mc ≤ R.cells ∧ slots + ms ≤ R.slots)
    (hst : st0 = As.reverse ++ rest)
    (kk : ∀ (H1 : Heap) (locs1 : List Loc), G t u' H1 → va_S (gA t) s.heap H1 locs1 → W p l e R s m args below meth c H1 locs1 (cells + mc) (slots + ms) Q (F0 m (pc + 3) ls rest)) : W p l e R s m args below meth c H locs cells slots Q (F0 m pc ls st0) := by
  refine va_callv (va_runS (As := As) (rest := rest) X.1 hM cw ⟨x_blind, x_pre X hG hS⟩ rfl hn hl hst (lv_room hW) hdg hf) hS (fun q _ h => h) (fun q h => h) (fun u2 U H1 locs1 hU hvm hw hB hz1 hk1 hS1 => ?_)
  subst hw
  exact kk H1 locs1 (by rw [← hU]; exact hB) hS1
theorem x_ireti (X : xC t p s m args c cc ws own nL) {r : Int} {ty : FieldType} (hr : meth.sig.returnType = some ty) (hlk : meth.locks = false) (hn : narrow ty (.int (iI r)) = .int (iI r)) (hG : G t u H) (hS : va_S (gA t) s.heap H locs) (hdg : decode cc pc = .ok (.ireturn, 1)) :
    W p l e R s m args below meth c H locs cells slots (MQ below (xQi t r u) args s cells slots (gA t)) (F0 m pc ls [.int (iI r)]) :=
  W.zret X.1.1 X.1.2.1 hr hn (fun T hT hW => ⟨⟨iI r, u, rfl, ⟨rfl, rfl⟩, (by show G t _ _; rw [hT]; exact hG)⟩, hS.F hT⟩) hS.2.2 hdg hlk
theorem x_vretv (X : xC t p s m args c cc ws own nL) (hr : meth.sig.returnType = none) (hlk : meth.locks = false) (hG : G t u H) (hS : va_S (gA t) s.heap H locs) (hdg : decode cc pc = .ok (.return_, 1)) :
    W p l e R s m args below meth c H locs cells slots (MQ below (xQv t u) args s cells slots (gA t)) (F0 m pc ls []) :=
  W.vret X.1.1 X.1.2.1 hr (fun T hT hW => ⟨⟨u, rfl, rfl, (by show G t _ _; rw [hT]; exact hG)⟩, hS.F hT⟩) hS.2.2 hdg hlk
end XK
theorem x_ofW {l : Launch} {y : MethodName} {ws ws' : List Cond} {rm : Room} {t : gP} {As : List Value} {u : uS} {mc ms : Nat} {cc : ByteArray} {maxL : Nat} {ret : Option FieldType} {Qc : Array Value → State → Outcome → State → Prop} (hy : plainName y.cls = true) (hw : ws = Cond.code y cc maxL ret :: ws') (hL : (lg_sl As).length ≤ maxL)
    (body : ∀ p e s m below meth c, xC t p s m As.toArray c cc ws y.cls maxL → meth.sig.returnType = ret → meth.locks = false → G t u s.heap → va_S (gA t) s.heap s.heap [] → ∀ ls, lv_has ls maxL (lv_args 0 As) → W p l e rm s m As.toArray below meth c s.heap [] 0 0 (MQ below Qc As.toArray s mc ms (gA t)) (F0 m 0 ls [])) :
    Met l y ws rm (va_Pc As (gB t u)) Qc mc ms (gA t) := by
  refine Met.ofW (cc := cc) (maxL := maxL) (ret := ret) hy hw ?_
  intro p e s m args below meth c s₁ B hml hv
  obtain ⟨rfl, hB1, hB2, hB3, hB4⟩ := hv
  have hts := atoms_spec (ws := ws) B.pre
  have hown : s.vm.findClass y.cls = some m.cls := findClass_of_methodNamed B.named
  have hl := lv_entry As (n := maxL) hL
  rw [lg_entry_eq]
  exact body p e s m below meth c ⟨⟨B.exec, B.bytes, hml, hown, hts⟩, hB2, hB1, hB4⟩ B.returns B.notSynchronized hB3 va_S.rf _ hl
