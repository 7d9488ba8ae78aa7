theorem nz_of {x : Int} (h : x = 0 ∨ x = 1) : narrow .boolean (.int (iI x)) = .int (iI x) := by rcases h with rfl | rfl <;> decide
/-- a method's walk from pc on, in any heap that shows the state u -/
def xG (p : Program) (l : Launch) (e : Env) (R : Room) (s : State) (m : MethodId) (args : Array Value) (below : List Frame) (meth : Method) (c : Code) (t : gP) (Q : State → Prop) (nL k n pc : Nat) (u : uS) (L : List (Nat × Value)) (stk : List Value) : Prop :=
  ∀ (H : Heap) (locs : List Loc) (ls : Array Slot), G t u H → va_S (gA t) s.heap H locs → lv_has ls nL L → W p l e R s m args below meth c H locs k n Q (F0 m pc ls stk)
theorem x_ofWi {l : Launch} {y : MethodName} {ws ws' : List Cond} {rm : Room} {t : gP} {As : List Value} {u u' : uS} {r : Int} {cc : ByteArray} {maxL : Nat} {ret : FieldType} {own : String} (hy : plainName y.cls = true) (hw : ws = Cond.code y cc maxL (some ret) :: ws') (ho : y.cls = own) (hL : (lg_sl As).length ≤ maxL)
    (body : ∀ p e s m args below meth c (Q : State → Prop), xC t p s m args c cc ws own maxL → (∀ (H : Heap) (locs : List Loc) (ls : Array Slot) (pc : Nat), decode cc pc = .ok (.ireturn, 1) → narrow ret (.int (iI r)) = .int (iI r) → G t u' H → va_S (gA t) s.heap H locs → W p l e rm s m args below meth c H locs 0 0 Q (F0 m pc ls [.int (iI r)])) → xG p l e rm s m args below meth c t Q maxL 0 0 0 u (lv_args 0 As) []) : xMi l y ws rm t As u r u' 0 0 := by
  refine x_ofW (cc := cc) (maxL := maxL) (ret := some ret) hy hw hL ?_
  intro p e s m below meth c X hr hlk hG hS ls hl
  rw [ho] at X
  exact body p e s m _ below meth c _ X (fun H locs ls pc hd hn hG hS => x_ireti X hr hlk hn hG hS hd) _ _ ls hG hS hl
theorem x_ofWv {l : Launch} {y : MethodName} {ws ws' : List Cond} {rm : Room} {t : gP} {As : List Value} {u u' : uS} {cc : ByteArray} {maxL : Nat} {own : String} (hy : plainName y.cls = true) (hw : ws = Cond.code y cc maxL none :: ws') (ho : y.cls = own) (hL : (lg_sl As).length ≤ maxL)
    (body : ∀ p e s m args below meth c (Q : State → Prop), xC t p s m args c cc ws own maxL → (∀ (H : Heap) (locs : List Loc) (ls : Array Slot) (pc : Nat), decode cc pc = .ok (.return_, 1) → G t u' H → va_S (gA t) s.heap H locs → W p l e rm s m args below meth c H locs 0 0 Q (F0 m pc ls [])) → xG p l e rm s m args below meth c t Q maxL 0 0 0 u (lv_args 0 As) []) : xMv l y ws rm t As u u' 0 0 := by
  refine x_ofW (cc := cc) (maxL := maxL) (ret := none) hy hw hL ?_
  intro p e s m below meth c X hr hlk hG hS ls hl
  rw [ho] at X
  exact body p e s m _ below meth c _ X (fun H locs ls pc hd hG hS => x_vretv X hr hlk hG hS hd) _ _ ls hG hS hl
section XD
variable {p : Program} {l : Launch} {e : Env} {R : Room} {s : State} {m : MethodId} {args : Array Value} {below : List Frame} {meth : Method} {c : Code} {H : Heap} {locs : List Loc} {cells slots : Nat} {Q : State → Prop}
variable {cc : ByteArray} {pc : Nat} {ls : Array Slot} {rest : List Value} {t : gP} {u : uS} {ws : List Cond} {own : String} {nL : Nat}
theorem y_callVi0 (X : xC t p s m args c cc ws own nL) (hG : G t u H) (hS : va_S (gA t) s.heap H locs) {y : MethodName} {ws2 : List Cond} {rm : Room} {As : List Value} {u' : uS} {r : Int} {k n ci N idx maxL : Nat} {C : String} {T : u_T} {bytes : ByteArray} {ret : Option FieldType} {st0 : List Value} (hM : xMi l y ws2 rm t (.ref (t.2.2.1 k) :: As) u r u' 0 0) (cw : CallW R s args own C idx y bytes maxL ret ws2 rm 0 0 n) (hk : al t k) (hs : sT k = ci) (hci : vwCl[ci]? = some (C, T, N)) (h100 : ci < 100) (hn : As.length = n) (hl : ls.size = nL) (hW : (rest.map fun v => v.category).sum ≤ 8) (hdg : decode cc pc = .ok (.invokevirtual idx, 3)) (hf : cells ≤ R.cells ∧ slots ≤ R.slots) (hst : st0 = As.reverse ++ .ref (t.2.2.1 k) :: rest) (kk : ∀ (H1 : Heap) (locs1 : List Loc), G t u' H1 → va_S (gA t) s.heap H1 locs1 → W p l e R s m args below meth c H1 locs1 cells slots Q (F0 m (pc + 3) ls (.int (iI r) :: rest))) : W p l e R s m args below meth c H locs cells slots Q (F0 m pc ls st0) :=
  y_callVi X hG hS hM cw hk hs hci h100 hn hl hW hdg hf hst kk
theorem x_callVi0 (X : xC t p s m args c cc ws own nL) (hG : G t u H) (hS : va_S (gA t) s.heap H locs) {y : MethodName} {ws2 : List Cond} {rm : Room} {As : List Value} {u' : uS} {r : Int} {k n ci N idx maxL : Nat} {C : String} {T : u_T} {bytes : ByteArray} {ret : Option FieldType} {st0 : List Value} (hM : xMi l y ws2 rm t (.ref (t.2.2.1 k) :: As) u r u' 0 0) (cw : CallW R s args own C idx y bytes maxL ret ws2 rm 0 0 n) (hk : k < NN) (hs : sT k = ci) (hci : vwCl[ci]? = some (C, T, N)) (h100 : ci < 100) (hn : As.length = n) (hl : ls.size = nL) (hW : (rest.map fun v => v.category).sum ≤ 8) (hdg : decode cc pc = .ok (.invokevirtual idx, 3)) (hf : cells ≤ R.cells ∧ slots ≤ R.slots) (hst : st0 = As.reverse ++ .ref (t.2.2.1 k) :: rest) (kk : ∀ (H1 : Heap) (locs1 : List Loc), G t u' H1 → va_S (gA t) s.heap H1 locs1 → W p l e R s m args below meth c H1 locs1 cells slots Q (F0 m (pc + 3) ls (.int (iI r) :: rest))) : W p l e R s m args below meth c H locs cells slots Q (F0 m pc ls st0) :=
  y_callVi0 X hG hS hM cw (al_c hk hs (by omega)) hs hci h100 hn hl hW hdg hf hst kk
theorem y_callVv0 (X : xC t p s m args c cc ws own nL) (hG : G t u H) (hS : va_S (gA t) s.heap H locs) {y : MethodName} {ws2 : List Cond} {rm : Room} {As : List Value} {u' : uS} {k n ci N idx maxL : Nat} {C : String} {T : u_T} {bytes : ByteArray} {ret : Option FieldType} {st0 : List Value} (hM : xMv l y ws2 rm t (.ref (t.2.2.1 k) :: As) u u' 0 0) (cw : CallW R s args own C idx y bytes maxL ret ws2 rm 0 0 n) (hk : al t k) (hs : sT k = ci) (hci : vwCl[ci]? = some (C, T, N)) (h100 : ci < 100) (hn : As.length = n) (hl : ls.size = nL) (hW : (rest.map fun v => v.category).sum ≤ 8) (hdg : decode cc pc = .ok (.invokevirtual idx, 3)) (hf : cells ≤ R.cells ∧ slots ≤ R.slots) (hst : st0 = As.reverse ++ .ref (t.2.2.1 k) :: rest) (kk : ∀ (H1 : Heap) (locs1 : List Loc), G t u' H1 → va_S (gA t) s.heap H1 locs1 → W p l e R s m args below meth c H1 locs1 cells slots Q (F0 m (pc + 3) ls rest)) : W p l e R s m args below meth c H locs cells slots Q (F0 m pc ls st0) :=
  y_callVv X hG hS hM cw hk hs hci h100 hn hl hW hdg hf hst kk
theorem x_callVv0 (X : xC t p s m args c cc ws own nL) (hG : G t u H) (hS : va_S (gA t) s.heap H locs) {y : MethodName} {ws2 : List Cond} {rm : Room} {As : List Value} {u' : uS} {k n ci N idx maxL : Nat} {C : String} {T : u_T} {bytes : ByteArray} {ret : Option FieldType} {st0 : List Value} (hM : xMv l y ws2 rm t (.ref (t.2.2.1 k) :: As) u u' 0 0) (cw : CallW R s args own C idx y bytes maxL ret ws2 rm 0 0 n) (hk : k < NN) (hs : sT k = ci) (hci : vwCl[ci]? = some (C, T, N)) (h100 : ci < 100) (hn : As.length = n) (hl : ls.size = nL) (hW : (rest.map fun v => v.category).sum ≤ 8) (hdg : decode cc pc = .ok (.invokevirtual idx, 3)) (hf : cells ≤ R.cells ∧ slots ≤ R.slots) (hst : st0 = As.reverse ++ .ref (t.2.2.1 k) :: rest) (kk : ∀ (H1 : Heap) (locs1 : List Loc), G t u' H1 → va_S (gA t) s.heap H1 locs1 → W p l e R s m args below meth c H1 locs1 cells slots Q (F0 m (pc + 3) ls rest)) : W p l e R s m args below meth c H locs cells slots Q (F0 m pc ls st0) :=
  y_callVv0 X hG hS hM cw (al_c hk hs (by omega)) hs hci h100 hn hl hW hdg hf hst kk
theorem x_callSi0 (X : xC t p s m args c cc ws own nL) (hG : G t u H) (hS : va_S (gA t) s.heap H locs) {y : MethodName} {ws2 : List Cond} {rm : Room} {As : List Value} {u' : uS} {r : Int} {n idx maxL : Nat} {bytes : ByteArray} {ret : Option FieldType} {st0 : List Value}
    (hM : xMi l y ws2 rm t As u r u' 0 0) (cw : CallB R s args own idx y bytes maxL ret ws2 rm 0 0 n ∧ (Cond.static y).before args s = true) (hn : As.length = n) (hl : ls.size = nL) (hW : (rest.map fun v => v.category).sum ≤ 8) (hdg : decode cc pc = .ok (.invokestatic idx, 3)) (hf : cells ≤ R.cells ∧ slots ≤ R.slots)
    (hst : st0 = As.reverse ++ rest)
    (kk : ∀ (H1 : Heap) (locs1 : List Loc), G t u' H1 → va_S (gA t) s.heap H1 locs1 → W p l e R s m args below meth c H1 locs1 cells slots Q (F0 m (pc + 3) ls (.int (iI r) :: rest))) : W p l e R s m args below meth c H locs cells slots Q (F0 m pc ls st0) :=
  x_callSi X hG hS hM cw hn hl hW hdg hf hst kk
theorem x_callSv0 (X : xC t p s m args c cc ws own nL) (hG : G t u H) (hS : va_S (gA t) s.heap H locs) {y : MethodName} {ws2 : List Cond} {rm : Room} {As : List Value} {u' : uS} {n idx maxL : Nat} {bytes : ByteArray} {ret : Option FieldType} {st0 : List Value}
    (hM : xMv l y ws2 rm t As u u' 0 0) (cw : CallB R s args own idx y bytes maxL ret ws2 rm 0 0 n ∧ (Cond.static y).before args s = true) (hn : As.length = n) (hl : ls.size = nL) (hW : (rest.map fun v => v.category).sum ≤ 8) (hdg : decode cc pc = .ok (.invokestatic idx, 3)) (hf : cells ≤ R.cells ∧ slots ≤ R.slots)
    (hst : st0 = As.reverse ++ rest)
    (kk : ∀ (H1 : Heap) (locs1 : List Loc), G t u' H1 → va_S (gA t) s.heap H1 locs1 → W p l e R s m args below meth c H1 locs1 cells slots Q (F0 m (pc + 3) ls rest)) : W p l e R s m args below meth c H locs cells slots Q (F0 m pc ls st0) :=
  x_callSv X hG hS hM cw hn hl hW hdg hf hst kk
theorem x_callNi0 (X : xC t p s m args c cc ws own nL) (hG : G t u H) (hS : va_S (gA t) s.heap H locs) {y : MethodName} {ws2 : List Cond} {rm : Room} {As : List Value} {u' : uS} {r : Int} {n idx maxL : Nat} {bytes : ByteArray} {ret : Option FieldType} {host : String} {st0 : List Value}
    (hM : xMi l y ws2 rm t As u r u' 0 0) (cw : va_CN R s args own idx y host bytes maxL ret ws2 rm 0 0 n ∧ (Cond.static y).before args s = true ∧ True) (hn : As.length = n) (hl : ls.size = nL) (hW : (rest.map fun v => v.category).sum ≤ 8) (hdg : decode cc pc = .ok (.invokestatic idx, 3)) (hf : cells ≤ R.cells ∧ slots ≤ R.slots)
    (hst : st0 = As.reverse ++ rest)
    (kk : ∀ (H1 : Heap) (locs1 : List Loc), G t u' H1 → va_S (gA t) s.heap H1 locs1 → W p l e R s m args below meth c H1 locs1 cells slots Q (F0 m (pc + 3) ls (.int (iI r) :: rest))) : W p l e R s m args below meth c H locs cells slots Q (F0 m pc ls st0) := by
  refine va_calli (va_runSN (As := As) (rest := rest) X.1 hM cw ⟨x_blind, x_pre X hG hS⟩ rfl hn hl hst (lv_room hW) hdg hf) hS (fun q _ h => h) (fun q h => h) (fun r2 u2 U H1 locs1 hU hvm hw hB hz1 hk1 hS1 => ?_)
  obtain ⟨rfl, rfl⟩ := hw
  exact kk H1 locs1 (by rw [← hU]; exact hB) hS1
theorem x_callNv0 (X : xC t p s m args c cc ws own nL) (hG : G t u H) (hS : va_S (gA t) s.heap H locs) {y : MethodName} {ws2 : List Cond} {rm : Room} {As : List Value} {u' : uS} {n idx maxL : Nat} {bytes : ByteArray} {ret : Option FieldType} {host : String} {st0 : List Value}
    (hM : xMv l y ws2 rm t As u u' 0 0) (cw : va_CN R s args own idx y host bytes maxL ret ws2 rm 0 0 n ∧ (Cond.static y).before args s = true ∧ True) (hn : As.length = n) (hl : ls.size = nL) (hW : (rest.map fun v => v.category).sum ≤ 8) (hdg : decode cc pc = .ok (.invokestatic idx, 3)) (hf : cells ≤ R.cells ∧ slots ≤ R.slots)
    (hst : st0 = As.reverse ++ rest)
    (kk : ∀ (H1 : Heap) (locs1 : List Loc), G t u' H1 → va_S (gA t) s.heap H1 locs1 → W p l e R s m args below meth c H1 locs1 cells slots Q (F0 m (pc + 3) ls rest)) : W p l e R s m args below meth c H locs cells slots Q (F0 m pc ls st0) := by
  refine va_callv (va_runSN (As := As) (rest := rest) X.1 hM cw ⟨x_blind, x_pre X hG hS⟩ rfl hn hl hst (lv_room hW) hdg hf) hS (fun q _ h => h) (fun q h => h) (fun u2 U H1 locs1 hU hvm hw hB hz1 hk1 hS1 => ?_)
  subst hw
  exact kk H1 locs1 (by rw [← hU]; exact hB) hS1
theorem x_namel {a : Int} (kk : ∀ x : Int, x = a → W p l e R s m args below meth c H locs cells slots Q (F0 m pc ls (.long (lI x) :: rest))) : W p l e R s m args below meth c H locs cells slots Q (F0 m pc ls (.long (lI a) :: rest)) := kk a rfl
theorem x_lcmp (X : xC t p s m args c cc ws own nL) {a b : Int} (ha : InL a) (hb : InL b) (hdg : decode cc pc = .ok (.lcmp, 1)) (kk : W p l e R s m args below meth c H locs cells slots Q (F0 m (pc + 1) ls (.int (iI (cmpL a b)) :: rest))) : W p l e R s m args below meth c H locs cells slots Q (F0 m pc ls (.long (lI b) :: .long (lI a) :: rest)) := by
  refine W.lcmp X.1.1 X.1.2.1 hdg ?_
  have : lg_cmp (lI a) (lI b) = iI (cmpL a b) := by
    unfold lg_cmp cmpL
    by_cases h1 : b < a
    · rw [if_pos h1]
      exact if_pos ((lI_lt hb ha).mpr h1)
    · rw [if_neg h1]
      refine (if_neg (fun q => h1 ((lI_lt hb ha).mp q))).trans ?_
      by_cases h2 : a = b
      · rw [if_pos h2]
        exact if_pos (by rw [h2])
      · rw [if_neg h2]
        exact if_neg (fun q => h2 ((lI_eq ha hb).mp q))
  rw [this]; exact kk
theorem x_mmin (X : xC t p s m args c cc ws own nL) {a b : Int} (ha : InR a) (hb : InR b) (hl : ls.size = nL) {idx : Nat} (w1 : Cond.methodLink own idx Lib.Math.min.name ∈ ws) (w2 : Cond.static Lib.Math.min.name ∈ ws) (w3 : Cond.initialized "java/lang/Math" ∈ ws) (w4 : Cond.code Lib.Math.min.name Lib.Math.min.code 2 (some .int) ∈ ws) (hf : 1 ≤ R.frames) (hlo : 8 + 13 ≤ R.locals) (hdg : decode cc pc = .ok (.invokestatic idx, 3)) (hW : (rest.map fun v => v.category).sum ≤ 8) (hc : cells ≤ R.cells ∧ slots ≤ R.slots)
    (kk : W p l e R s m args below meth c H locs cells slots Q (F0 m (pc + 3) ls (.int (iI (minI a b)) :: rest))) : W p l e R s m args below meth c H locs cells slots Q (F0 m pc ls (.int (iI b) :: .int (iI a) :: rest)) := by
  refine va_mmin X.1.1 X.1.2.1 (X.1.2.2.1.trans hl.symm) X.1.2.2.2.1 (X.1.2.2.2.2 _ w1) (X.1.2.2.2.2 _ w2) (X.1.2.2.2.2 _ w3) (X.1.2.2.2.2 _ w4) hf (by omega) hc.1 hc.2 hdg ?_
  unfold minI at kk
  by_cases h : a ≤ b
  · rw [if_pos h] at kk
    have : iI a ≤ iI b := (iI_le ha hb).mpr h
    first
      | (rw [if_pos this]; exact kk)
      | (by_cases h2 : iI b < iI a
         · exact absurd ((iI_lt hb ha).mp h2) (by omega)
         · rw [if_neg h2]; exact kk)
  · rw [if_neg h] at kk
    have h3 : ¬ iI a ≤ iI b := fun q => h ((iI_le ha hb).mp q)
    first
      | (rw [if_neg h3]; exact kk)
      | (rw [if_pos ((iI_lt hb ha).mpr (by omega))]; exact kk)
theorem x_mmax (X : xC t p s m args c cc ws own nL) {a b : Int} (ha : InR a) (hb : InR b) (hl : ls.size = nL) {idx : Nat} (w1 : Cond.methodLink own idx Lib.Math.max.name ∈ ws) (w2 : Cond.static Lib.Math.max.name ∈ ws) (w3 : Cond.initialized "java/lang/Math" ∈ ws) (w4 : Cond.code Lib.Math.max.name Lib.Math.max.code 2 (some .int) ∈ ws) (hf : 1 ≤ R.frames) (hlo : 8 + 13 ≤ R.locals) (hdg : decode cc pc = .ok (.invokestatic idx, 3)) (hW : (rest.map fun v => v.category).sum ≤ 8) (hc : cells ≤ R.cells ∧ slots ≤ R.slots)
    (kk : W p l e R s m args below meth c H locs cells slots Q (F0 m (pc + 3) ls (.int (iI (maxI a b)) :: rest))) : W p l e R s m args below meth c H locs cells slots Q (F0 m pc ls (.int (iI b) :: .int (iI a) :: rest)) := by
  refine va_mmax X.1.1 X.1.2.1 (X.1.2.2.1.trans hl.symm) X.1.2.2.2.1 (X.1.2.2.2.2 _ w1) (X.1.2.2.2.2 _ w2) (X.1.2.2.2.2 _ w3) (X.1.2.2.2.2 _ w4) hf (by omega) hc.1 hc.2 hdg ?_
  unfold maxI at kk
  by_cases h : a < b
  · rw [if_pos h] at kk
    rw [if_pos ((iI_lt ha hb).mpr h)]; exact kk
  · rw [if_neg h] at kk
    rw [if_neg (fun q => h ((iI_lt ha hb).mp q))]; exact kk
theorem x_mabs (X : xC t p s m args c cc ws own nL) {a : Int} (ha : InR a) (hl : ls.size = nL) {idx : Nat} (w1 : Cond.methodLink own idx Lib.Math.abs.name ∈ ws) (w2 : Cond.static Lib.Math.abs.name ∈ ws) (w3 : Cond.initialized "java/lang/Math" ∈ ws) (w4 : Cond.code Lib.Math.abs.name Lib.Math.abs.code 1 (some .int) ∈ ws) (hf : 1 ≤ R.frames) (hlo : 8 + 13 ≤ R.locals) (hdg : decode cc pc = .ok (.invokestatic idx, 3)) (hW : (rest.map fun v => v.category).sum ≤ 8) (hc : cells ≤ R.cells ∧ slots ≤ R.slots)
    (kk : W p l e R s m args below meth c H locs cells slots Q (F0 m (pc + 3) ls (.int (iI (absI a)) :: rest))) : W p l e R s m args below meth c H locs cells slots Q (F0 m pc ls (.int (iI a) :: rest)) := by
  refine va_mabs X.1.1 X.1.2.1 (X.1.2.2.1.trans hl.symm) X.1.2.2.2.1 (X.1.2.2.2.2 _ w1) (X.1.2.2.2.2 _ w2) (X.1.2.2.2.2 _ w3) (X.1.2.2.2.2 _ w4) hf (by omega) hc.1 hc.2 hdg ?_
  unfold absI at kk
  by_cases h : 0 ≤ a
  · rw [if_pos h] at kk
    have : 0 ≤ iI a := (iI_le (by decide) ha).mpr h
    rw [if_pos this]; exact kk
  · rw [if_neg h, ← iI_sub] at kk
    have : ¬ 0 ≤ iI a := fun q => h ((iI_le (by decide) ha).mp q)
    rw [if_neg this]; exact kk
theorem x_tblO (X : xC t p s m args c cc ws own nL) {dflt lo hi : Int} {offs : Array Int} {len : Nat} {a : Int} {tgt : Nat} (ha : InR a) (hdg : decode cc pc = .ok (.tableswitch dflt lo hi offs, len)) (h : a < lo ∨ hi < a) (ht : (pc : Int) + dflt = (tgt : Int)) (k : W p l e R s m args below meth c H locs cells slots Q (F0 m tgt ls rest)) : W p l e R s m args below meth c H locs cells slots Q (F0 m pc ls (.int (iI a) :: rest)) :=
  lv_tableOut X.1.1 X.1.2.1 hdg (by rw [iI_t ha]; exact h) ht k
theorem x_tblI (X : xC t p s m args c cc ws own nL) {dflt lo hi : Int} {offs : Array Int} {len : Nat} {a v off : Int} {tgt : Nat} (hv : a = v) (ha : InR v) (hlh : lo ≤ v ∧ v ≤ hi) (hdg : decode cc pc = .ok (.tableswitch dflt lo hi offs, len)) (ho : offs[(v - lo).toNat]? = some off) (ht : (pc : Int) + off = (tgt : Int)) (k : W p l e R s m args below meth c H locs cells slots Q (F0 m tgt ls rest)) : W p l e R s m args below meth c H locs cells slots Q (F0 m pc ls (.int (iI a) :: rest)) := by
  subst hv
  exact lv_tableIn X.1.1 X.1.2.1 hdg (by rw [iI_t ha]; omega) (by rw [iI_t ha]; omega) (by rw [iI_t ha]; exact ho) ht k
theorem x_acopy (X : xC t p s m args c cc ws own nL) (hG : G t u H) (hS : va_S (gA t) s.heap H locs) {k0 k1 : Nat} {n : Int} (hk0 : k0 < NN) (hs0 : sT k0 = 100) (hk1 : k1 < NN) (hs1 : sT k1 = 100) (hl : ls.size = nL) {idx : Nat} (w1 : Cond.methodLink own idx arraycopyName ∈ ws) (w2 : Cond.native arraycopyName ∈ ws) (w3 : Cond.static arraycopyName ∈ ws) (w4 : Cond.initialized "java/lang/System" ∈ ws) (hn : 0 ≤ n ∧ n ≤ (sN k0 : Int)) (hn1 : n ≤ (sN k1 : Int)) (hf : 1 ≤ R.frames) (hlo : 60 ≤ R.locals) (hdg : decode cc pc = .ok (.invokestatic idx, 3)) (hW : (rest.map fun v => v.category).sum ≤ 8)
    (kk : ∀ (H1 : Heap) (locs1 : List Loc), G t (upA u k1 (cpyI (u k0) (u k1) n)) H1 → va_S (gA t) s.heap H1 locs1 → W p l e R s m args below meth c H1 locs1 cells slots Q (F0 m (pc + 3) ls rest)) : W p l e R s m args below meth c H locs cells slots Q (F0 m pc ls (.int (iI n) :: .int (iI 0) :: .ref (t.2.2.1 k1) :: .int (iI 0) :: .ref (t.2.2.1 k0) :: rest)) := by
  have hb := sN_lt k0
  replace hk0 := al_c (t := t) hk0 hs0 (by decide)
  replace hk1 := al_c (t := t) hk1 hs1 (by decide)
  have hr : InR n := ⟨by omega, by omega⟩
  have h0 : ¬ iI 0 < 0 := by decide
  have hc0 : (iI 0).toNatClampNeg = 0 := by decide
  have hw : nativeFrameWords "java/lang/System" "arraycopy" 5 + 11 ≤ 52 := by decide
  refine va_copyi (D := t.1) (cl := vwCl) (f := fun j => iI (u k0 (j : Int))) (g := fun j => iI (u k1 (j : Int))) X.1.1 X.1.2.1 (X.1.2.2.1.trans hl.symm) X.1.2.2.2.1 (X.1.2.2.2.2 _ w1) (X.1.2.2.2.2 _ w2) (X.1.2.2.2.2 _ w3) (X.1.2.2.2.2 _ w4) X.2.1 hG.P hG.D hS (gi t k0) (gi t k1) 0 0 (gL_a hk0 hs0 (by omega)) (gL_a hk1 hs1 (by omega)) rfl rfl rfl h0 h0 (fun q => by have := (iI_lt (b := 0) hr (by decide)).mp q; omega) (by rw [iI_cl hr, hc0]; omega) (by rw [iI_cl hr, hc0]; omega) (fun i _ => rfl) hf (by omega) hdg (fun H1 locs1 hP _ hS1 => ?_)
  refine kk H1 locs1 (hG.store hk1 ⟨by omega, by omega⟩ hP (gad_o hs1 (by omega)) ?_ (fun i b hi => upA_k hi)) hS1
  rw [gE_a hs1 (by omega), iI_cl hr, hc0]
  congr 4
  funext j
  unfold va_cpy
  rw [upA_s]
  unfold cpyI
  by_cases h : (j : Int) < n
  · rw [if_pos ⟨by omega, h⟩, if_pos ⟨Nat.zero_le _, by omega⟩]
    congr 2
    omega
  · rw [if_neg (fun q => h q.2), if_neg (fun q => h (by omega))]
theorem x_and (X : xC t p s m args c cc ws own nL) {a b : Int} {k : Nat} (hk : k ≤ 30) (hb : (iI b).toBitVec.toNat = 2 ^ k - 1) (hdg : decode cc pc = .ok (.iand, 1)) (kk : W p l e R s m args below meth c H locs cells slots Q (F0 m (pc + 1) ls (.int (iI (a % (2 ^ k : Nat))) :: rest))) : W p l e R s m args below meth c H locs cells slots Q (F0 m pc ls (.int (iI b) :: .int (iI a) :: rest)) := by
  refine lv_iand X.1.1 X.1.2.1 hdg ?_
  have h1 : iI a &&& iI b = iI (a % (2 ^ k : Nat)) := by
    rw [pk_and (iI a) k hb]
    show Int32.ofNat _ = _
    rw [iI_nat]
    congr 1
    have h2 : ((iI a).toBitVec.toNat : Int) = a % 4294967296 := by
      show ((BitVec.ofInt 32 a).toNat : Int) = _
      rw [BitVec.toNat_ofInt]
      have : (0 : Int) ≤ a % ((2 ^ 32 : Nat) : Int) := Int.emod_nonneg _ (by decide)
      omega
    rw [Int.natCast_emod, h2]
    exact Int.emod_emod_of_dvd a (by
      refine ⟨((2 ^ (32 - k) : Nat) : Int), ?_⟩
      rw [← Int.natCast_mul, ← Nat.pow_add, show k + (32 - k) = 32 by omega]
      rfl)
  rw [h1]; exact kk
theorem x_ior (X : xC t p s m args c cc ws own nL) {a b : Int} (hdg : decode cc pc = .ok (.ior, 1)) (kk : W p l e R s m args below meth c H locs cells slots Q (F0 m (pc + 1) ls (.int (iI (orI a b)) :: rest))) : W p l e R s m args below meth c H locs cells slots Q (F0 m pc ls (.int (iI b) :: .int (iI a) :: rest)) := by
  refine lv_ior X.1.1 X.1.2.1 hdg ?_
  have : iI a ||| iI b = iI (orI a b) := (iI_x _).symm
  rw [this]; exact kk
theorem x_i2b (X : xC t p s m args c cc ws own nL) {a : Int} (hdg : decode cc pc = .ok (.i2b, 1)) (kk : W p l e R s m args below meth c H locs cells slots Q (F0 m (pc + 1) ls (.int (iI (nar8 a)) :: rest))) : W p l e R s m args below meth c H locs cells slots Q (F0 m pc ls (.int (iI a) :: rest)) := by
  refine lv_i2b X.1.1 X.1.2.1 hdg ?_ kk
  have hn : InR (nar8 a) := by constructor <;> unfold nar8 <;> omega
  apply Int32.toInt.inj
  rw [Int8.toInt_toInt32, Int32.toInt_toInt8, iI_t hn]
  show (BitVec.ofInt 32 a).toInt.bmod 256 = _
  rw [BitVec.toInt_ofInt, Int.bmod_bmod_of_dvd (by decide)]
  unfold nar8
  rw [Int.bmod_def]
  split <;> omega
theorem iI_bn (a : Int) : ((iI a).toBitVec.toNat : Int) = a % 4294967296 := by
  show ((BitVec.ofInt 32 a).toNat : Int) = _
  rw [BitVec.toNat_ofInt]
  have : (0 : Int) ≤ a % ((2 ^ 32 : Nat) : Int) := Int.emod_nonneg _ (by decide)
  omega
theorem sh_k {b : Int} (hb : 0 ≤ b ∧ b < 32) : ((iI b &&& 31).toBitVec.smod 32).toNat = b.toNat := by
  have h : ∀ k : Nat, k < 32 → ((nI k &&& 31).toBitVec.smod 32).toNat = k := by decide +kernel
  have h2 : iI b = nI b.toNat := by
    show _ = Int32.ofNat _
    rw [iI_nat, Int.toNat_of_nonneg hb.1]
  rw [h2]
  exact h _ (by omega)
theorem x_ishl (X : xC t p s m args c cc ws own nL) {a b : Int} (hb : 0 ≤ b ∧ b < 32) (hdg : decode cc pc = .ok (.ishl, 1)) (kk : W p l e R s m args below meth c H locs cells slots Q (F0 m (pc + 1) ls (.int (iI (shlI a b)) :: rest))) : W p l e R s m args below meth c H locs cells slots Q (F0 m pc ls (.int (iI b) :: .int (iI a) :: rest)) := by
  refine lv_ishl X.1.1 X.1.2.1 hdg ?_
  have : iI a <<< (iI b &&& 31) = iI (shlI a b) := by
    apply Int32.toBitVec_inj.mp
    apply BitVec.eq_of_toNat_eq
    rw [pk_shl (iI a) _ b.toNat (sh_k hb)]
    have h1 := iI_bn a
    have h2 := iI_bn (shlI a b)
    unfold shlI at h2
    rw [Int.mul_emod, ← h1] at h2
    have h3 : (((iI a).toBitVec.toNat * 2 ^ b.toNat % 2 ^ 32 : Nat) : Int) = ((iI a).toBitVec.toNat : Int) * (2 ^ b.toNat) % 4294967296 := by
      rw [Int.natCast_emod, Int.natCast_mul, Int.natCast_pow]
      rfl
    have h4 : ((iI a).toBitVec.toNat : Int) * (2 ^ b.toNat % 4294967296) % 4294967296 = ((iI a).toBitVec.toNat : Int) * (2 ^ b.toNat) % 4294967296 := by rw [Int.mul_emod, Int.emod_emod, ← Int.mul_emod]
    have h5 : ((iI (shlI a b)).toBitVec.toNat : Int) = (((iI a).toBitVec.toNat * 2 ^ b.toNat % 2 ^ 32 : Nat) : Int) := by
      rw [h3, ← h4]; exact h2
    exact (Int.ofNat.inj h5).symm
  rw [this]; exact kk
theorem x_ishr (X : xC t p s m args c cc ws own nL) {a b : Int} (ha : InR a) (hb : 0 ≤ b ∧ b < 32) (hdg : decode cc pc = .ok (.ishr, 1)) (kk : W p l e R s m args below meth c H locs cells slots Q (F0 m (pc + 1) ls (.int (iI (shrI a b)) :: rest))) : W p l e R s m args below meth c H locs cells slots Q (F0 m pc ls (.int (iI b) :: .int (iI a) :: rest)) := by
  refine lv_ishr X.1.1 X.1.2.1 hdg ?_
  have h0 : (1 : Int) ≤ 2 ^ b.toNat := by
    have h1 := Nat.one_le_two_pow (n := b.toNat)
    have h2 : ((2 ^ b.toNat : Nat) : Int) = 2 ^ b.toNat := by rw [Int.natCast_pow]; rfl
    omega
  have : iI a >>> (iI b &&& 31) = iI (shrI a b) := by
    have hr : InR (shrI a b) := by
      unfold shrI
      constructor
      · by_cases h : 0 ≤ a
        · have := Int.ediv_nonneg h (by omega : (0 : Int) ≤ 2 ^ b.toNat)
          omega
        · have := Int.le_ediv_of_mul_le (by omega : (0 : Int) < 2 ^ b.toNat) (a := a) (b := a) (by
            have h7 : a * 2 ^ b.toNat ≤ a * 1 := Int.mul_le_mul_of_nonpos_left (by omega) h0
            omega)
          have := ha.1
          omega
      · by_cases h : 0 ≤ a
        · have := Int.ediv_le_self (2 ^ b.toNat) h
          have := ha.2
          omega
        · have := Int.ediv_neg_of_neg_of_pos (by omega : a < 0) (by omega : (0 : Int) < 2 ^ b.toNat)
          omega
    apply Int32.toInt.inj
    rw [pk_shr (iI a) _ b.toNat (sh_k hb), iI_t ha, iI_t hr]
    unfold shrI
    exact Int.shiftRight_eq_div_pow a b.toNat
  rw [this]; exact kk
end XD
/-! the cells behind an object's fields -/
theorem fx_4_0 {k : Nat} (h : k < NN ∧ sT k = 4) : k + 1 < NN ∧ sT (k + 1) = 100 ∧ sN (k + 1) = 60 := (show ∀ k, k < NN → sT k = 4 → k + 1 < NN ∧ sT (k + 1) = 100 ∧ sN (k + 1) = 60 by decide +kernel) k h.1 h.2
theorem fx_5_1 {k : Nat} (h : k < NN ∧ sT k = 5) : k + 1 < NN ∧ sT (k + 1) = 12 := (show ∀ k, k < NN → sT k = 5 → k + 1 < NN ∧ sT (k + 1) = 12 by decide +kernel) k h.1 h.2
theorem fx_5_2 {k : Nat} (h : k < NN ∧ sT k = 5) : k + 6 < NN ∧ sT (k + 6) = 100 ∧ sN (k + 6) = 9 := (show ∀ k, k < NN → sT k = 5 → k + 6 < NN ∧ sT (k + 6) = 100 ∧ sN (k + 6) = 9 by decide +kernel) k h.1 h.2
theorem fx_5_3 {k : Nat} (h : k < NN ∧ sT k = 5) : k + 7 < NN ∧ sT (k + 7) = 100 ∧ sN (k + 7) = 5 := (show ∀ k, k < NN → sT k = 5 → k + 7 < NN ∧ sT (k + 7) = 100 ∧ sN (k + 7) = 5 by decide +kernel) k h.1 h.2
theorem fx_7_4 {k : Nat} (h : k < NN ∧ sT k = 7) : k + 1 < NN ∧ sT (k + 1) = 100 ∧ sN (k + 1) = 60 := (show ∀ k, k < NN → sT k = 7 → k + 1 < NN ∧ sT (k + 1) = 100 ∧ sN (k + 1) = 60 by decide +kernel) k h.1 h.2
theorem fx_7_5 {k : Nat} (h : k < NN ∧ sT k = 7) : k + 2 < NN ∧ sT (k + 2) = 100 ∧ sN (k + 2) = 60 := (show ∀ k, k < NN → sT k = 7 → k + 2 < NN ∧ sT (k + 2) = 100 ∧ sN (k + 2) = 60 by decide +kernel) k h.1 h.2
theorem fx_8_0 {k : Nat} (h : k < NN ∧ sT k = 8) : k + 1 < NN ∧ sT (k + 1) = 104 ∧ sN (k + 1) = 10 := (show ∀ k, k < NN → sT k = 8 → k + 1 < NN ∧ sT (k + 1) = 104 ∧ sN (k + 1) = 10 by decide +kernel) k h.1 h.2
theorem fx_8_1 {k : Nat} (h : k < NN ∧ sT k = 8) : k + 2 < NN ∧ sT (k + 2) = 104 ∧ sN (k + 2) = 2 := (show ∀ k, k < NN → sT k = 8 → k + 2 < NN ∧ sT (k + 2) = 104 ∧ sN (k + 2) = 2 by decide +kernel) k h.1 h.2
theorem fx_8_2 {k : Nat} (h : k < NN ∧ sT k = 8) : k + 3 < NN ∧ sT (k + 3) = 101 ∧ sN (k + 3) = 2 := (show ∀ k, k < NN → sT k = 8 → k + 3 < NN ∧ sT (k + 3) = 101 ∧ sN (k + 3) = 2 by decide +kernel) k h.1 h.2
theorem fx_9_0 {k : Nat} (h : k < NN ∧ sT k = 9) : k + 1 < NN ∧ sT (k + 1) = 6 := (show ∀ k, k < NN → sT k = 9 → k + 1 < NN ∧ sT (k + 1) = 6 by decide +kernel) k h.1 h.2
theorem fx_9_1 {k : Nat} (h : k < NN ∧ sT k = 9) : k + 2 < NN ∧ sT (k + 2) = 10 := (show ∀ k, k < NN → sT k = 9 → k + 2 < NN ∧ sT (k + 2) = 10 by decide +kernel) k h.1 h.2
theorem fx_9_11 {k : Nat} (h : k < NN ∧ sT k = 9) : k + 5 < NN ∧ sT (k + 5) = 100 ∧ sN (k + 5) = 8 := (show ∀ k, k < NN → sT k = 9 → k + 5 < NN ∧ sT (k + 5) = 100 ∧ sN (k + 5) = 8 by decide +kernel) k h.1 h.2
theorem fx_9_12 {k : Nat} (h : k < NN ∧ sT k = 9) : k + 6 < NN ∧ sT (k + 6) = 100 ∧ sN (k + 6) = 8 := (show ∀ k, k < NN → sT k = 9 → k + 6 < NN ∧ sT (k + 6) = 100 ∧ sN (k + 6) = 8 by decide +kernel) k h.1 h.2
theorem fx_9_13 {k : Nat} (h : k < NN ∧ sT k = 9) : k + 7 < NN ∧ sT (k + 7) = 100 ∧ sN (k + 7) = 64 := (show ∀ k, k < NN → sT k = 9 → k + 7 < NN ∧ sT (k + 7) = 100 ∧ sN (k + 7) = 64 by decide +kernel) k h.1 h.2
theorem fx_9_14 {k : Nat} (h : k < NN ∧ sT k = 9) : k + 8 < NN ∧ sT (k + 8) = 100 ∧ sN (k + 8) = 1152 := (show ∀ k, k < NN → sT k = 9 → k + 8 < NN ∧ sT (k + 8) = 100 ∧ sN (k + 8) = 1152 by decide +kernel) k h.1 h.2
theorem fx_10_1 {k : Nat} (h : k < NN ∧ sT k = 10) : k + 1 < NN ∧ sT (k + 1) = 100 ∧ sN (k + 1) = 8 := (show ∀ k, k < NN → sT k = 10 → k + 1 < NN ∧ sT (k + 1) = 100 ∧ sN (k + 1) = 8 by decide +kernel) k h.1 h.2
theorem fx_10_2 {k : Nat} (h : k < NN ∧ sT k = 10) : k + 2 < NN ∧ sT (k + 2) = 100 ∧ sN (k + 2) = 8 := (show ∀ k, k < NN → sT k = 10 → k + 2 < NN ∧ sT (k + 2) = 100 ∧ sN (k + 2) = 8 by decide +kernel) k h.1 h.2
theorem fx_11_3 {k : Nat} (h : k < NN ∧ sT k = 11) : k + 1 < NN ∧ sT (k + 1) = 100 ∧ sN (k + 1) = 8 := (show ∀ k, k < NN → sT k = 11 → k + 1 < NN ∧ sT (k + 1) = 100 ∧ sN (k + 1) = 8 by decide +kernel) k h.1 h.2
theorem fx_11_4 {k : Nat} (h : k < NN ∧ sT k = 11) : k + 2 < NN ∧ sT (k + 2) = 100 ∧ sN (k + 2) = 792 := (show ∀ k, k < NN → sT k = 11 → k + 2 < NN ∧ sT (k + 2) = 100 ∧ sN (k + 2) = 792 by decide +kernel) k h.1 h.2
theorem fx_11_5 {k : Nat} (h : k < NN ∧ sT k = 11) : k + 3 < NN ∧ sT (k + 3) = 100 ∧ sN (k + 3) = 8 := (show ∀ k, k < NN → sT k = 11 → k + 3 < NN ∧ sT (k + 3) = 100 ∧ sN (k + 3) = 8 by decide +kernel) k h.1 h.2
theorem fx_11_6 {k : Nat} (h : k < NN ∧ sT k = 11) : k + 4 < NN ∧ sT (k + 4) = 100 ∧ sN (k + 4) = 8 := (show ∀ k, k < NN → sT k = 11 → k + 4 < NN ∧ sT (k + 4) = 100 ∧ sN (k + 4) = 8 by decide +kernel) k h.1 h.2
theorem fx_11_7 {k : Nat} (h : k < NN ∧ sT k = 11) : k + 5 < NN ∧ sT (k + 5) = 100 ∧ sN (k + 5) = 8 := (show ∀ k, k < NN → sT k = 11 → k + 5 < NN ∧ sT (k + 5) = 100 ∧ sN (k + 5) = 8 by decide +kernel) k h.1 h.2
theorem fx_11_8 {k : Nat} (h : k < NN ∧ sT k = 11) : k + 6 < NN ∧ sT (k + 6) = 100 ∧ sN (k + 6) = 8 := (show ∀ k, k < NN → sT k = 11 → k + 6 < NN ∧ sT (k + 6) = 100 ∧ sN (k + 6) = 8 by decide +kernel) k h.1 h.2
theorem fx_11_9 {k : Nat} (h : k < NN ∧ sT k = 11) : k + 7 < NN ∧ sT (k + 7) = 100 ∧ sN (k + 7) = 8 := (show ∀ k, k < NN → sT k = 11 → k + 7 < NN ∧ sT (k + 7) = 100 ∧ sN (k + 7) = 8 by decide +kernel) k h.1 h.2
theorem fx_11_10 {k : Nat} (h : k < NN ∧ sT k = 11) : k + 8 < NN ∧ sT (k + 8) = 100 ∧ sN (k + 8) = 60 := (show ∀ k, k < NN → sT k = 11 → k + 8 < NN ∧ sT (k + 8) = 100 ∧ sN (k + 8) = 60 by decide +kernel) k h.1 h.2
theorem fx_11_11 {k : Nat} (h : k < NN ∧ sT k = 11) : k + 9 < NN ∧ sT (k + 9) = 100 ∧ sN (k + 9) = 60 := (show ∀ k, k < NN → sT k = 11 → k + 9 < NN ∧ sT (k + 9) = 100 ∧ sN (k + 9) = 60 by decide +kernel) k h.1 h.2
theorem fx_11_12 {k : Nat} (h : k < NN ∧ sT k = 11) : k + 10 < NN ∧ sT (k + 10) = 100 ∧ sN (k + 10) = 60 := (show ∀ k, k < NN → sT k = 11 → k + 10 < NN ∧ sT (k + 10) = 100 ∧ sN (k + 10) = 60 by decide +kernel) k h.1 h.2
theorem fx_11_13 {k : Nat} (h : k < NN ∧ sT k = 11) : k + 11 < NN ∧ sT (k + 11) = 100 ∧ sN (k + 11) = 60 := (show ∀ k, k < NN → sT k = 11 → k + 11 < NN ∧ sT (k + 11) = 100 ∧ sN (k + 11) = 60 by decide +kernel) k h.1 h.2
theorem fx_11_14 {k : Nat} (h : k < NN ∧ sT k = 11) : k + 12 < NN ∧ sT (k + 12) = 100 ∧ sN (k + 12) = 60 := (show ∀ k, k < NN → sT k = 11 → k + 12 < NN ∧ sT (k + 12) = 100 ∧ sN (k + 12) = 60 by decide +kernel) k h.1 h.2
theorem fx_11_15 {k : Nat} (h : k < NN ∧ sT k = 11) : k + 13 < NN ∧ sT (k + 13) = 100 ∧ sN (k + 13) = 20 := (show ∀ k, k < NN → sT k = 11 → k + 13 < NN ∧ sT (k + 13) = 100 ∧ sN (k + 13) = 20 by decide +kernel) k h.1 h.2
theorem fx_11_16 {k : Nat} (h : k < NN ∧ sT k = 11) : k + 14 < NN ∧ sT (k + 14) = 100 ∧ sN (k + 14) = 20 := (show ∀ k, k < NN → sT k = 11 → k + 14 < NN ∧ sT (k + 14) = 100 ∧ sN (k + 14) = 20 by decide +kernel) k h.1 h.2
theorem fx_12_1 {k : Nat} (h : k < NN ∧ sT k = 12) : k + 1 < NN ∧ sT (k + 1) = 100 ∧ sN (k + 1) = 500 := (show ∀ k, k < NN → sT k = 12 → k + 1 < NN ∧ sT (k + 1) = 100 ∧ sN (k + 1) = 500 by decide +kernel) k h.1 h.2
theorem fx_12_2 {k : Nat} (h : k < NN ∧ sT k = 12) : k + 2 < NN ∧ sT (k + 2) = 100 ∧ sN (k + 2) = 500 := (show ∀ k, k < NN → sT k = 12 → k + 2 < NN ∧ sT (k + 2) = 100 ∧ sN (k + 2) = 500 by decide +kernel) k h.1 h.2
theorem fx_12_3 {k : Nat} (h : k < NN ∧ sT k = 12) : k + 3 < NN ∧ sT (k + 3) = 100 ∧ sN (k + 3) = 500 := (show ∀ k, k < NN → sT k = 12 → k + 3 < NN ∧ sT (k + 3) = 100 ∧ sN (k + 3) = 500 by decide +kernel) k h.1 h.2
theorem fx_12_4 {k : Nat} (h : k < NN ∧ sT k = 12) : k + 4 < NN ∧ sT (k + 4) = 100 ∧ sN (k + 4) = 500 := (show ∀ k, k < NN → sT k = 12 → k + 4 < NN ∧ sT (k + 4) = 100 ∧ sN (k + 4) = 500 by decide +kernel) k h.1 h.2
theorem fx_13_0 {k : Nat} (h : k < NN ∧ sT k = 13) : k + 1 < NN ∧ sT (k + 1) = 100 ∧ sN (k + 1) = 500 := (show ∀ k, k < NN → sT k = 13 → k + 1 < NN ∧ sT (k + 1) = 100 ∧ sN (k + 1) = 500 by decide +kernel) k h.1 h.2
theorem fx_13_3 {k : Nat} (h : k < NN ∧ sT k = 13) : k + 2 < NN ∧ sT (k + 2) = 5 := (show ∀ k, k < NN → sT k = 13 → k + 2 < NN ∧ sT (k + 2) = 5 by decide +kernel) k h.1 h.2
theorem fx_13_6 {k : Nat} (h : k < NN ∧ sT k = 13) : k + 54 < NN ∧ sT (k + 54) = 11 := (show ∀ k, k < NN → sT k = 13 → k + 54 < NN ∧ sT (k + 54) = 11 by decide +kernel) k h.1 h.2
theorem fx_13_7 {k : Nat} (h : k < NN ∧ sT k = 13) : k + 69 < NN ∧ sT (k + 69) = 11 := (show ∀ k, k < NN → sT k = 13 → k + 69 < NN ∧ sT (k + 69) = 11 by decide +kernel) k h.1 h.2
theorem fx_13_8 {k : Nat} (h : k < NN ∧ sT k = 13) : k + 33 < NN ∧ sT (k + 33) = 8 := (show ∀ k, k < NN → sT k = 13 → k + 33 < NN ∧ sT (k + 33) = 8 by decide +kernel) k h.1 h.2
theorem fx_13_9 {k : Nat} (h : k < NN ∧ sT k = 13) : k + 28 < NN ∧ sT (k + 28) = 4 := (show ∀ k, k < NN → sT k = 13 → k + 28 < NN ∧ sT (k + 28) = 4 by decide +kernel) k h.1 h.2
theorem fx_13_10 {k : Nat} (h : k < NN ∧ sT k = 13) : k + 30 < NN ∧ sT (k + 30) = 7 := (show ∀ k, k < NN → sT k = 13 → k + 30 < NN ∧ sT (k + 30) = 7 by decide +kernel) k h.1 h.2
