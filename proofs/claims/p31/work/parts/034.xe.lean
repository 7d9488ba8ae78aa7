/-! X, part e: methods that throw: 0 it returns, 1 IndexOutOfBoundsException, 2 IllegalArgumentException, 3 IllegalStateException -/
def xE (g : Nat) : String := if g = 1 then "java/lang/IndexOutOfBoundsException" else if g = 2 then "java/lang/IllegalArgumentException" else "java/lang/IllegalStateException"
abbrev xNames : List String := ["java/lang/RuntimeException", "java/lang/Exception"]
abbrev xQti (t : gP) (g : Nat) (r : Int) (u' : uS) : Array Value → State → Outcome → State → Prop := va_Qi (fun (r2 : Int32) (u2 : uS) => g = 0 ∧ r2 = iI r ∧ u2 = u') (fun u2 U => G t u2 U.heap) (gA t)
abbrev xQtv (t : gP) (g : Nat) (u' : uS) : Array Value → State → Outcome → State → Prop := va_Qv (fun (u2 : uS) => g = 0 ∧ u2 = u') (fun u2 U => G t u2 U.heap) (gA t)
abbrev xXt (t : gP) (g : Nat) (u' : uS) : String → State → State → Prop := vx_X (fun (u2 : uS) => u2 = u') (fun E u2 U => g ≠ 0 ∧ E = xE g ∧ G t u2 U.heap) (gA t)
def xTi (l : Launch) (y : MethodName) (ws : List Cond) (rm : Room) (t : gP) (As : List Value) (u : uS) (g : Nat) (r : Int) (u' : uS) (mc ms : Nat) : Prop := vx_Met l y ws rm (va_Pc As (gB t u)) (xQti t g r u') (xXt t g u') mc ms (gA t)
def xTv (l : Launch) (y : MethodName) (ws : List Cond) (rm : Room) (t : gP) (As : List Value) (u : uS) (g : Nat) (u' : uS) (mc ms : Nat) : Prop := vx_Met l y ws rm (va_Pc As (gB t u)) (xQtv t g u') (xXt t g u') mc ms (gA t)
theorem xbt_n {β : Type} {g : Nat} {v : Int} {u : uS} {f : Int → uS → Option β} {x : Nat → uS → Option β} (hg : g ≠ 0) : xbt (some (g, v, u)) f x = x g u := if_neg hg
theorem G.grow {t : gP} {u : uS} {H H1 : Heap} (h : G t u H) (hk : ∀ q : Nat, q < H.size → H1[q]? = H[q]?) : G t u H1 :=
  ⟨fun k q => (h.1 k q).kept (hk _ (h.1 k q).lt), h.2.1, h.2.2⟩
theorem xot_1 : ∀ w ∈ Cond.classLink RX9 362 (xE 1) :: Cond.initialized (xE 1) :: vx_atS RX9 366 (xE 1) xNames, vx_ot w = true := by decide +kernel
theorem xng_1 : ∀ w ∈ (vx_atS RX9 366 (xE 1) xNames).filter (fun w => !goodWord w), w ∈ gDe.map (fun y => Cond.declares (Bundle.initS y)) ++ gCa.map (fun y => Cond.castable y y) := by decide +kernel
theorem xot_2 : ∀ w ∈ Cond.classLink RX9 79 (xE 2) :: Cond.initialized (xE 2) :: vx_atS RX9 83 (xE 2) xNames, vx_ot w = true := by decide +kernel
theorem xng_2 : ∀ w ∈ (vx_atS RX9 83 (xE 2) xNames).filter (fun w => !goodWord w), w ∈ gDe.map (fun y => Cond.declares (Bundle.initS y)) ++ gCa.map (fun y => Cond.castable y y) := by decide +kernel
theorem xot_3 : ∀ w ∈ Cond.classLink RX9 296 (xE 3) :: Cond.initialized (xE 3) :: vx_atS RX9 300 (xE 3) xNames, vx_ot w = true := by decide +kernel
theorem xng_3 : ∀ w ∈ (vx_atS RX9 300 (xE 3) xNames).filter (fun w => !goodWord w), w ∈ gDe.map (fun y => Cond.declares (Bundle.initS y)) ++ gCa.map (fun y => Cond.castable y y) := by decide +kernel
section XT
variable {p : Program} {l : Launch} {e : Env} {R : Room} {s : State} {m : MethodId} {args : Array Value} {below : List Frame} {meth : Method} {c : Code} {H : Heap} {locs : List Loc} {cells slots : Nat} {Q : State → Prop}
variable {cc : ByteArray} {pc : Nat} {ls : Array Slot} {rest : List Value} {t : gP} {u : uS} {ws : List Cond} {own : String} {nL : Nat}
theorem y_callVTi (X : xC t p s m args c cc ws own nL) (hG : G t u H) (hS : va_S (gA t) s.heap H locs) {y : MethodName} {ws2 : List Cond} {rm : Room} {As : List Value} {u' : uS} {g : Nat} {r : Int} {mc ms k n ci N idx maxL : Nat} {C : String} {T : u_T} {bytes : ByteArray} {ret : Option FieldType} {st0 : List Value} (hM : xTi l y ws2 rm t (.ref (t.2.2.1 k) :: As) u g r u' mc ms) (cw : CallW R s args own C idx y bytes maxL ret ws2 rm mc ms n) (hk : al t k) (hs : sT k = ci) (hci : vwCl[ci]? = some (C, T, N)) (h100 : ci < 100) (hn : As.length = n) (hl : ls.size = nL) (hW : (rest.map fun v => v.category).sum ≤ 8) (hdg : decode cc pc = .ok (.invokevirtual idx, 3)) (hf : cells + mc ≤ R.cells ∧ slots + ms ≤ R.slots) (hst : st0 = As.reverse ++ .ref (t.2.2.1 k) :: rest) (kx : g ≠ 0 → ∀ (H1 : Heap) (locs1 : List Loc) (ce : Cell) (q9 : Addr), G t u' H1 → va_S (gA t) s.heap H1 locs1 → H1[q9]? = some ce → ce.vm = .none → s.vm.findClass (xE g) = some ce.cls → vx_W p l e R s m args below meth c H1 locs1 (cells + mc) (slots + ms) Q (F0 m pc ls rest) q9) (kk : g = 0 → ∀ (H1 : Heap) (locs1 : List Loc), G t u' H1 → va_S (gA t) s.heap H1 locs1 → W p l e R s m args below meth c H1 locs1 (cells + mc) (slots + ms) Q (F0 m (pc + 3) ls (.int (iI r) :: rest))) : W p l e R s m args below meth c H locs cells slots Q (F0 m pc ls st0) := by
  refine vx_calli (vx_runV (As := As) (rest := rest) X.1 hM cw ⟨x_blind, va_recv X.2.1 hG.P hci (gL_o hk hs h100), x_pre X hG hS⟩ rfl hn hl hst (lv_room hW) hdg hf) hS (fun q _ h => h) (fun q h => h) (fun q _ h => h) (fun E ce q9 u2 U H1 locs1 hU hvm hw hB hz1 hk1 hS1 h7 h8 h9 => ?_) (fun r2 u2 U H1 locs1 hU hvm hw hB hz1 hk1 hS1 => ?_)
  · subst hw
    obtain ⟨q1, rfl, q2⟩ := hB
    exact kx q1 H1 locs1 ce q9 (by rw [← hU]; exact q2) hS1 h7 h8 h9
  · obtain ⟨h0, rfl, rfl⟩ := hw
    exact kk h0 H1 locs1 (by rw [← hU]; exact hB) hS1
theorem x_callVTi (X : xC t p s m args c cc ws own nL) (hG : G t u H) (hS : va_S (gA t) s.heap H locs) {y : MethodName} {ws2 : List Cond} {rm : Room} {As : List Value} {u' : uS} {g : Nat} {r : Int} {mc ms k n ci N idx maxL : Nat} {C : String} {T : u_T} {bytes : ByteArray} {ret : Option FieldType} {st0 : List Value} (hM : xTi l y ws2 rm t (.ref (t.2.2.1 k) :: As) u g r u' mc ms) (cw : CallW R s args own C idx y bytes maxL ret ws2 rm mc ms n) (hk : k < NN) (hs : sT k = ci) (hci : vwCl[ci]? = some (C, T, N)) (h100 : ci < 100) (hn : As.length = n) (hl : ls.size = nL) (hW : (rest.map fun v => v.category).sum ≤ 8) (hdg : decode cc pc = .ok (.invokevirtual idx, 3)) (hf : cells + mc ≤ R.cells ∧ slots + ms ≤ R.slots) (hst : st0 = As.reverse ++ .ref (t.2.2.1 k) :: rest) (kx : g ≠ 0 → ∀ (H1 : Heap) (locs1 : List Loc) (ce : Cell) (q9 : Addr), G t u' H1 → va_S (gA t) s.heap H1 locs1 → H1[q9]? = some ce → ce.vm = .none → s.vm.findClass (xE g) = some ce.cls → vx_W p l e R s m args below meth c H1 locs1 (cells + mc) (slots + ms) Q (F0 m pc ls rest) q9) (kk : g = 0 → ∀ (H1 : Heap) (locs1 : List Loc), G t u' H1 → va_S (gA t) s.heap H1 locs1 → W p l e R s m args below meth c H1 locs1 (cells + mc) (slots + ms) Q (F0 m (pc + 3) ls (.int (iI r) :: rest))) : W p l e R s m args below meth c H locs cells slots Q (F0 m pc ls st0) :=
  y_callVTi X hG hS hM cw (al_c hk hs (by omega)) hs hci h100 hn hl hW hdg hf hst kx kk
theorem y_callVTv (X : xC t p s m args c cc ws own nL) (hG : G t u H) (hS : va_S (gA t) s.heap H locs) {y : MethodName} {ws2 : List Cond} {rm : Room} {As : List Value} {u' : uS} {g : Nat} {mc ms k n ci N idx maxL : Nat} {C : String} {T : u_T} {bytes : ByteArray} {ret : Option FieldType} {st0 : List Value} (hM : xTv l y ws2 rm t (.ref (t.2.2.1 k) :: As) u g u' mc ms) (cw : CallW R s args own C idx y bytes maxL ret ws2 rm mc ms n) (hk : al t k) (hs : sT k = ci) (hci : vwCl[ci]? = some (C, T, N)) (h100 : ci < 100) (hn : As.length = n) (hl : ls.size = nL) (hW : (rest.map fun v => v.category).sum ≤ 8) (hdg : decode cc pc = .ok (.invokevirtual idx, 3)) (hf : cells + mc ≤ R.cells ∧ slots + ms ≤ R.slots) (hst : st0 = As.reverse ++ .ref (t.2.2.1 k) :: rest) (kx : g ≠ 0 → ∀ (H1 : Heap) (locs1 : List Loc) (ce : Cell) (q9 : Addr), G t u' H1 → va_S (gA t) s.heap H1 locs1 → H1[q9]? = some ce → ce.vm = .none → s.vm.findClass (xE g) = some ce.cls → vx_W p l e R s m args below meth c H1 locs1 (cells + mc) (slots + ms) Q (F0 m pc ls rest) q9) (kk : g = 0 → ∀ (H1 : Heap) (locs1 : List Loc), G t u' H1 → va_S (gA t) s.heap H1 locs1 → W p l e R s m args below meth c H1 locs1 (cells + mc) (slots + ms) Q (F0 m (pc + 3) ls rest)) : W p l e R s m args below meth c H locs cells slots Q (F0 m pc ls st0) := by
  refine vx_callv (vx_runV (As := As) (rest := rest) X.1 hM cw ⟨x_blind, va_recv X.2.1 hG.P hci (gL_o hk hs h100), x_pre X hG hS⟩ rfl hn hl hst (lv_room hW) hdg hf) hS (fun q _ h => h) (fun q h => h) (fun q _ h => h) (fun E ce q9 u2 U H1 locs1 hU hvm hw hB hz1 hk1 hS1 h7 h8 h9 => ?_) (fun u2 U H1 locs1 hU hvm hw hB hz1 hk1 hS1 => ?_)
  · subst hw
    obtain ⟨q1, rfl, q2⟩ := hB
    exact kx q1 H1 locs1 ce q9 (by rw [← hU]; exact q2) hS1 h7 h8 h9
  · obtain ⟨h0, rfl⟩ := hw
    exact kk h0 H1 locs1 (by rw [← hU]; exact hB) hS1
theorem x_callVTv (X : xC t p s m args c cc ws own nL) (hG : G t u H) (hS : va_S (gA t) s.heap H locs) {y : MethodName} {ws2 : List Cond} {rm : Room} {As : List Value} {u' : uS} {g : Nat} {mc ms k n ci N idx maxL : Nat} {C : String} {T : u_T} {bytes : ByteArray} {ret : Option FieldType} {st0 : List Value} (hM : xTv l y ws2 rm t (.ref (t.2.2.1 k) :: As) u g u' mc ms) (cw : CallW R s args own C idx y bytes maxL ret ws2 rm mc ms n) (hk : k < NN) (hs : sT k = ci) (hci : vwCl[ci]? = some (C, T, N)) (h100 : ci < 100) (hn : As.length = n) (hl : ls.size = nL) (hW : (rest.map fun v => v.category).sum ≤ 8) (hdg : decode cc pc = .ok (.invokevirtual idx, 3)) (hf : cells + mc ≤ R.cells ∧ slots + ms ≤ R.slots) (hst : st0 = As.reverse ++ .ref (t.2.2.1 k) :: rest) (kx : g ≠ 0 → ∀ (H1 : Heap) (locs1 : List Loc) (ce : Cell) (q9 : Addr), G t u' H1 → va_S (gA t) s.heap H1 locs1 → H1[q9]? = some ce → ce.vm = .none → s.vm.findClass (xE g) = some ce.cls → vx_W p l e R s m args below meth c H1 locs1 (cells + mc) (slots + ms) Q (F0 m pc ls rest) q9) (kk : g = 0 → ∀ (H1 : Heap) (locs1 : List Loc), G t u' H1 → va_S (gA t) s.heap H1 locs1 → W p l e R s m args below meth c H1 locs1 (cells + mc) (slots + ms) Q (F0 m (pc + 3) ls rest)) : W p l e R s m args below meth c H locs cells slots Q (F0 m pc ls st0) :=
  y_callVTv X hG hS hM cw (al_c hk hs (by omega)) hs hci h100 hn hl hW hdg hf hst kx kk
theorem x_thrS (X : xC t p s m args c cc ws RX9 nL) (hG : G t u H) (hS : va_S (gA t) s.heap H locs) (hfl : l.stackTraces = false) (hlk : meth.locks = false) (htab : ∀ x ∈ c.exceptionTable.toList, False) (hl : ls.size = nL) {g mc ms ik is ic : Nat} {text : String} {Qc : Array Value → State → Outcome → State → Prop} (hg : g ≠ 0) (hQ : Q = vx_MQ below Qc (xXt t g u) args s mc ms (gA t))
    (hfit : Bundle.fit (xE g) = true) (w1 : Cond.classLink RX9 ik (xE g) ∈ ws) (w2 : Cond.initialized (xE g) ∈ ws) (hm : (is, text) ∈ gMsg) (hw : ∀ w ∈ (vx_atS RX9 ic (xE g) xNames).filter goodWord, w ∈ ws)
    (hng : ∀ w ∈ (vx_atS RX9 ic (xE g) xNames).filter (fun w => !goodWord w), w ∈ gDe.map (fun y => Cond.declares (Bundle.initS y)) ++ gCa.map (fun y => Cond.castable y y))
    (hot : ∀ w ∈ Cond.classLink RX9 ik (xE g) :: Cond.initialized (xE g) :: vx_atS RX9 ic (xE g) xNames, vx_ot w = true)
    (d0 : decode cc pc = .ok (.new ik, 3)) (d3 : decode cc (pc + 3) = .ok (.dup, 1)) (d4 : decode cc (pc + 4) = .ok (.ldc is, 2)) (d6 : decode cc (pc + 6) = .ok (.invokespecial ic, 3)) (d9 : decode cc (pc + 9) = .ok (.athrow, 1))
    (hRf : 5 < R.frames) (hRl : 90 ≤ R.locals) (hRc : cells + 1 ≤ R.cells) (hRs : slots + 6 ≤ R.slots) (hc : cells + 1 ≤ mc) (hs : slots + 6 ≤ ms) (hW : (rest.map fun v => v.category).sum ≤ 8 := by decide) :
    W p l e R s m args below meth c H locs cells slots Q (F0 m pc ls rest) := by
  subst hQ
  obtain ⟨h1, h2, h3, h4, h5, h6, h7, h8, h9, h10, -⟩ := X.2.2.1
  obtain ⟨sa, hsa⟩ := h6 _ hm
  refine vx_throwS (names := xNames) (sa := sa) (text := text) (cls := xE g) X.1.1 X.1.2.1 hfl X.1.2.2.2.1 hfit (by decide) (X.1.2.2.2.2 _ w1) (X.1.2.2.2.2 _ w2) hsa (vx_hat (fun w q => X.1.2.2.2.2 w (hw w q)) hng (fun w q => ?_)) hot h7 h8 hS (hl.trans X.1.2.2.1.symm) d0 d3 d4 d6 d9 (fun x q => (htab x q).elim) hRf (by show _ + 82 ≤ _; omega) hRc hRs hlk (fun T _ hz hk => ⟨u, rfl, ⟨hg, rfl, hG.grow hk⟩, Nat.le_trans hS.1 hz, fun q q1 q2 => by rw [hk q (Nat.lt_of_lt_of_le q1 hS.1)]; exact hS.2.1 q q1 q2⟩) hS.2.2 hc hs
  rcases List.mem_append.mp q with q | q
  · obtain ⟨y, hy, rfl⟩ := List.mem_map.mp q
    exact va_Nw.use rfl (h9 y hy)
  · obtain ⟨y, hy, rfl⟩ := List.mem_map.mp q
    exact va_Nw.use rfl (h10 y hy)
theorem x_thrSW (X : xC t p s m args c cc ws RX9 nL) (hG : G t u H) (hS : va_S (gA t) s.heap H locs) (hfl : l.stackTraces = false) (hlk : meth.locks = false) (htab : ∀ x ∈ c.exceptionTable.toList, False) (hl : ls.size = nL) {g mc ms ik is ic : Nat} {text : String} {Qc : Array Value → State → Outcome → State → Prop} (hg : g ≠ 0) (hQ : Q = vx_MQ below Qc (xXt t g u) args s mc ms (gA t))
    (hfit : Bundle.fit (xE g) = true) (w1 : Cond.classLink RX9 ik (xE g) ∈ ws) (w2 : Cond.initialized (xE g) ∈ ws) (hm : (is, text) ∈ gMsg) (hw : ∀ w ∈ (vx_atS RX9 ic (xE g) xNames).filter goodWord, w ∈ ws)
    (hng : ∀ w ∈ (vx_atS RX9 ic (xE g) xNames).filter (fun w => !goodWord w), w ∈ gDe.map (fun y => Cond.declares (Bundle.initS y)) ++ gCa.map (fun y => Cond.castable y y))
    (hot : ∀ w ∈ Cond.classLink RX9 ik (xE g) :: Cond.initialized (xE g) :: vx_atS RX9 ic (xE g) xNames, vx_ot w = true)
    (d0 : decode cc pc = .ok (.new ik, 3)) (d3 : decode cc (pc + 3) = .ok (.dup, 1)) (d4 : decode cc (pc + 4) = .ok (.ldc_w is, 3)) (d6 : decode cc (pc + 7) = .ok (.invokespecial ic, 3)) (d9 : decode cc (pc + 10) = .ok (.athrow, 1))
    (hRf : 5 < R.frames) (hRl : 90 ≤ R.locals) (hRc : cells + 1 ≤ R.cells) (hRs : slots + 6 ≤ R.slots) (hc : cells + 1 ≤ mc) (hs : slots + 6 ≤ ms) (hW : (rest.map fun v => v.category).sum ≤ 8 := by decide) :
    W p l e R s m args below meth c H locs cells slots Q (F0 m pc ls rest) := by
  subst hQ
  obtain ⟨h1, h2, h3, h4, h5, h6, h7, h8, h9, h10, -⟩ := X.2.2.1
  obtain ⟨sa, hsa⟩ := h6 _ hm
  refine vx_throwSW (names := xNames) (sa := sa) (text := text) (cls := xE g) X.1.1 X.1.2.1 hfl X.1.2.2.2.1 hfit (by decide) (X.1.2.2.2.2 _ w1) (X.1.2.2.2.2 _ w2) hsa (vx_hat (fun w q => X.1.2.2.2.2 w (hw w q)) hng (fun w q => ?_)) hot h7 h8 hS (hl.trans X.1.2.2.1.symm) d0 d3 d4 d6 d9 (fun x q => (htab x q).elim) hRf (by show _ + 82 ≤ _; omega) hRc hRs hlk (fun T _ hz hk => ⟨u, rfl, ⟨hg, rfl, hG.grow hk⟩, Nat.le_trans hS.1 hz, fun q q1 q2 => by rw [hk q (Nat.lt_of_lt_of_le q1 hS.1)]; exact hS.2.1 q q1 q2⟩) hS.2.2 hc hs
  rcases List.mem_append.mp q with q | q
  · obtain ⟨y, hy, rfl⟩ := List.mem_map.mp q
    exact va_Nw.use rfl (h9 y hy)
  · obtain ⟨y, hy, rfl⟩ := List.mem_map.mp q
    exact va_Nw.use rfl (h10 y hy)
end XT
theorem x_ofTi {l : Launch} {y : MethodName} {ws ws' : List Cond} {rm : Room} {t : gP} {As : List Value} {u u' : uS} {g : Nat} {r : Int} {mc ms : Nat} {cc : ByteArray} {maxL : Nat} {ret : FieldType} {own : String} (hy : plainName y.cls = true) (hw : ws = Cond.code y cc maxL (some ret) :: ws') (ho : y.cls = own) (hL : (lg_sl As).length ≤ maxL)
    (body : ∀ p e s m args below meth c (Q : State → Prop), Q = vx_MQ below (xQti t g r u') (xXt t g u') args s mc ms (gA t) → xC t p s m args c cc ws own maxL → meth.locks = false → (∀ x ∈ c.exceptionTable.toList, False) →
      (∀ (H : Heap) (locs : List Loc) (ls : Array Slot) (pc k n : Nat), k ≤ mc → n ≤ ms → g = 0 → decode cc pc = .ok (.ireturn, 1) → narrow ret (.int (iI r)) = .int (iI r) → G t u' H → va_S (gA t) s.heap H locs → W p l e rm s m args below meth c H locs k n Q (F0 m pc ls [.int (iI r)])) →
      (∀ (H : Heap) (locs : List Loc) (ls : Array Slot) (pc k n : Nat) (rest : List Value) (ce : Cell) (q : Addr), k ≤ mc → n ≤ ms → g ≠ 0 → G t u' H → va_S (gA t) s.heap H locs → H[q]? = some ce → ce.vm = .none → s.vm.findClass (xE g) = some ce.cls → vx_W p l e rm s m args below meth c H locs k n Q (F0 m pc ls rest) q) →
      xG p l e rm s m args below meth c t Q maxL 0 0 0 u (lv_args 0 As) []) : xTi l y ws rm t As u g r u' mc ms := by
  refine vx_ofW (cc := cc) (maxL := maxL) (ret := some ret) hy hw ?_
  intro p e s m args below meth c s₁ B hml htab hv
  obtain ⟨rfl, hB1, hB2, hB3, hB4⟩ := hv
  have hts := atoms_spec (ws := ws) B.pre
  have hown : s.vm.findClass y.cls = some m.cls := findClass_of_methodNamed B.named
  rw [ho] at hown
  have hr := B.returns
  have hlk := B.notSynchronized
  have hl := lv_entry As (n := maxL) hL
  rw [lg_entry_eq]
  have X : xC t p s m As.toArray c cc ws own maxL := ⟨⟨B.exec, B.bytes, hml, hown, hts⟩, hB2, hB1, hB4⟩
  refine body p e s m As.toArray below meth c _ rfl X hlk htab (fun H locs ls pc k n hk hn hg hd hnr hG hS => ?_) (fun H locs ls pc k n rest ce q hk hn hg hG hS h7 h8 h9 => ?_) _ _ _ hB3 va_S.rf hl
  · refine W.widen (k := mc) (n := ms) hk hn ?_
    exact vx_ret (W.zret X.1.1 X.1.2.1 hr hnr (fun T hT hW => ⟨⟨iI r, u', rfl, ⟨hg, rfl, rfl⟩, (by show G t _ _; rw [hT]; exact hG)⟩, hS.F hT⟩) hS.2.2 hd hlk)
  · exact vx_out (fun x q => (htab x q).elim) hlk h7 h8 h9 (fun T hT _ => ⟨u', rfl, ⟨hg, rfl, (by show G t _ _; rw [hT]; exact hG)⟩, hS.F hT⟩) hS.2.2 hk hn
theorem x_ofTv {l : Launch} {y : MethodName} {ws ws' : List Cond} {rm : Room} {t : gP} {As : List Value} {u u' : uS} {g : Nat} {mc ms : Nat} {cc : ByteArray} {maxL : Nat} {own : String} (hy : plainName y.cls = true) (hw : ws = Cond.code y cc maxL none :: ws') (ho : y.cls = own) (hL : (lg_sl As).length ≤ maxL)
    (body : ∀ p e s m args below meth c (Q : State → Prop), Q = vx_MQ below (xQtv t g u') (xXt t g u') args s mc ms (gA t) → xC t p s m args c cc ws own maxL → meth.locks = false → (∀ x ∈ c.exceptionTable.toList, False) →
      (∀ (H : Heap) (locs : List Loc) (ls : Array Slot) (pc k n : Nat), k ≤ mc → n ≤ ms → g = 0 → decode cc pc = .ok (.return_, 1) → G t u' H → va_S (gA t) s.heap H locs → W p l e rm s m args below meth c H locs k n Q (F0 m pc ls [])) →
      (∀ (H : Heap) (locs : List Loc) (ls : Array Slot) (pc k n : Nat) (rest : List Value) (ce : Cell) (q : Addr), k ≤ mc → n ≤ ms → g ≠ 0 → G t u' H → va_S (gA t) s.heap H locs → H[q]? = some ce → ce.vm = .none → s.vm.findClass (xE g) = some ce.cls → vx_W p l e rm s m args below meth c H locs k n Q (F0 m pc ls rest) q) →
      xG p l e rm s m args below meth c t Q maxL 0 0 0 u (lv_args 0 As) []) : xTv l y ws rm t As u g u' mc ms := by
  refine vx_ofW (cc := cc) (maxL := maxL) (ret := none) hy hw ?_
  intro p e s m args below meth c s₁ B hml htab hv
  obtain ⟨rfl, hB1, hB2, hB3, hB4⟩ := hv
  have hts := atoms_spec (ws := ws) B.pre
  have hown : s.vm.findClass y.cls = some m.cls := findClass_of_methodNamed B.named
  rw [ho] at hown
  have hr := B.returns
  have hlk := B.notSynchronized
  have hl := lv_entry As (n := maxL) hL
  rw [lg_entry_eq]
  have X : xC t p s m As.toArray c cc ws own maxL := ⟨⟨B.exec, B.bytes, hml, hown, hts⟩, hB2, hB1, hB4⟩
  refine body p e s m As.toArray below meth c _ rfl X hlk htab (fun H locs ls pc k n hk hn hg hd hG hS => ?_) (fun H locs ls pc k n rest ce q hk hn hg hG hS h7 h8 h9 => ?_) _ _ _ hB3 va_S.rf hl
  · refine W.widen (k := mc) (n := ms) hk hn ?_
    exact vx_ret (W.vret X.1.1 X.1.2.1 hr (fun T hT hW => ⟨⟨u', rfl, ⟨hg, rfl⟩, (by show G t _ _; rw [hT]; exact hG)⟩, hS.F hT⟩) hS.2.2 hd hlk)
  · exact vx_out (fun x q => (htab x q).elim) hlk h7 h8 h9 (fun T hT _ => ⟨u', rfl, ⟨hg, rfl, (by show G t _ _; rw [hT]; exact hG)⟩, hS.F hT⟩) hS.2.2 hk hn
/-! a method that returns a string's cell -/
abbrev xQs (t : gP) (r : Int) (u' : uS) : Array Value → State → Outcome → State → Prop := va_Qr (fun (u2 : uS) => u2 = u') (fun u2 a U => a = t.2.2.1 r.toNat ∧ G t u2 U.heap) (gA t)
def xMs (l : Launch) (y : MethodName) (ws : List Cond) (rm : Room) (t : gP) (As : List Value) (u : uS) (r : Int) (u' : uS) (mc ms : Nat) : Prop := Met l y ws rm (va_Pc As (gB t u)) (xQs t r u') mc ms (gA t)
theorem x_ofWs {l : Launch} {y : MethodName} {ws ws' : List Cond} {rm : Room} {t : gP} {As : List Value} {u u' : uS} {r : Int} {cc : ByteArray} {maxL : Nat} {own nm : String} (hy : plainName y.cls = true) (hw : ws = Cond.code y cc maxL (some (.object nm)) :: ws') (ho : y.cls = own) (hL : (lg_sl As).length ≤ maxL)
    (body : ∀ p e s m args below meth c (Q : State → Prop), xC t p s m args c cc ws own maxL → (∀ (H : Heap) (locs : List Loc) (ls : Array Slot) (pc : Nat), decode cc pc = .ok (.areturn, 1) → G t u' H → va_S (gA t) s.heap H locs → W p l e rm s m args below meth c H locs 0 0 Q (F0 m pc ls [.ref (t.2.2.1 r.toNat)])) → xG p l e rm s m args below meth c t Q maxL 0 0 0 u (lv_args 0 As) []) : xMs l y ws rm t As u r u' 0 0 := by
  refine x_ofW (cc := cc) (maxL := maxL) (ret := some (.object nm)) hy hw hL ?_
  intro p e s m below meth c X hr hlk hG hS ls hl
  rw [ho] at X
  exact body p e s m _ below meth c _ X (fun H locs ls pc hd hG hS => W.aret X.1.1 X.1.2.1 hr (Or.inl ⟨nm, rfl⟩) (Or.inr ⟨_, rfl⟩) (fun T hT hW => ⟨⟨u', _, rfl, rfl, rfl, (by show G t _ _; rw [hT]; exact hG)⟩, hS.F hT⟩) hS.2.2 hd hlk) _ _ ls hG hS hl
section XS
variable {p : Program} {l : Launch} {e : Env} {R : Room} {s : State} {m : MethodId} {args : Array Value} {below : List Frame} {meth : Method} {c : Code} {H : Heap} {locs : List Loc} {cells slots : Nat} {Q : State → Prop}
variable {cc : ByteArray} {pc : Nat} {ls : Array Slot} {rest : List Value} {t : gP} {u : uS} {ws : List Cond} {own : String} {nL : Nat}
theorem x_callSs0 (X : xC t p s m args c cc ws own nL) (hG : G t u H) (hS : va_S (gA t) s.heap H locs) {y : MethodName} {ws2 : List Cond} {rm : Room} {As : List Value} {u' : uS} {r : Int} {n idx maxL : Nat} {bytes : ByteArray} {ret : Option FieldType} {st0 : List Value}
    (hM : xMs l y ws2 rm t As u r u' 0 0) (cw : CallB R s args own idx y bytes maxL ret ws2 rm 0 0 n ∧ (Cond.static y).before args s = true) (hn : As.length = n) (hl : ls.size = nL) (hW : (rest.map fun v => v.category).sum ≤ 8) (hdg : decode cc pc = .ok (.invokestatic idx, 3)) (hf : cells ≤ R.cells ∧ slots ≤ R.slots)
    (hst : st0 = As.reverse ++ rest)
    (kk : ∀ (H1 : Heap) (locs1 : List Loc), G t u' H1 → va_S (gA t) s.heap H1 locs1 → W p l e R s m args below meth c H1 locs1 cells slots Q (F0 m (pc + 3) ls (.ref (t.2.2.1 r.toNat) :: rest))) : W p l e R s m args below meth c H locs cells slots Q (F0 m pc ls st0) := by
  refine va_callr (va_runS (As := As) (rest := rest) X.1 hM cw ⟨x_blind, x_pre X hG hS⟩ rfl hn hl hst (lv_room hW) hdg hf) hS (fun q _ h => h) (fun q h => h) (fun u2 a U H1 locs1 hU hvm hw hB hz1 hk1 hS1 => ?_)
  subst hw
  obtain ⟨rfl, hB⟩ := hB
  exact kk H1 locs1 (by rw [← hU]; exact hB) hS1
end XS
