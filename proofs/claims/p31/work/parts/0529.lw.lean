/-! the law's three wrappers: what they catch is an IllegalStateException -/
def xWi (l : Launch) (y : MethodName) (ws : List Cond) (rm : Room) (t : gP) (As : List Value) (u : uS) (r : Int) (u' : uS) (mc ms : Nat) : Prop := vx_Met l y ws rm (va_Pc As (gB t u)) (xQti t 0 r u') (xXt t 0 u') mc ms (gA t)
theorem gS.ca {t : gP} {U : State} {H : Heap} (h : gS t U H) : ∀ y ∈ gCa, va_Nw (.castable y y) U := by
  obtain ⟨-, -, -, -, -, -, -, -, -, h10, -⟩ := h
  exact h10
section LW
variable {p : Program} {l : Launch} {e : Env} {R : Room} {s : State} {m : MethodId} {args : Array Value} {below : List Frame} {meth : Method} {c : Code} {H : Heap} {locs : List Loc} {cells slots : Nat} {Q : State → Prop}
variable {cc : ByteArray} {pc : Nat} {ls : Array Slot} {rest st0 : List Value} {t : gP} {u : uS} {ws : List Cond} {own : String} {nL : Nat}
theorem x_cat3 (X : xC t p s m args c cc ws own nL) {ce : Cell} {q : Nat} {hh : List (Nat × Nat × Nat × Nat)} (htab : c.exceptionTable.toList = tableOf hh) (x : ExceptionTableEntry) (hsplit : tableOf hh = [x]) (hx : covers x pc = true) (h0 : x.catchType ≠ 0) (hlink : Cond.classLink own x.catchType (xE 3) ∈ ws) (hcast : (Cond.castable (xE 3) (xE 3)).before args s = true)
    (hcell : H[q]? = some ce) (hv : ce.vm = .none) (hcl : s.vm.findClass (xE 3) = some ce.cls)
    (kk : W p l e R s m args below meth c H locs cells slots Q (F0 m x.handlerPc ls [.ref q])) : vx_W p l e R s m args below meth c H locs cells slots Q (F0 m pc ls rest) q :=
  vx_catch X.1.2.2.2.1 [] x [] (htab.trans hsplit) (fun z hz => by cases hz) hx h0 (X.1.2.2.2.2 _ hlink) hcast hcell hv hcl kk
/-- a wrapper's call -/
theorem x_callWi (X : xC t p s m args c cc ws own nL) (hG : G t u H) (hS : va_S (gA t) s.heap H locs) {y : MethodName} {ws2 : List Cond} {rm : Room} {As : List Value} {u' : uS} {r : Int} {mc ms n idx maxL : Nat} {bytes : ByteArray} {ret : Option FieldType} {hh : List (Nat × Nat × Nat × Nat)}
    (hM : xWi l y ws2 rm t As u r u' mc ms) (cw : vx_CSW R s args own idx y bytes maxL ret hh ws2 rm mc ms n) (hn : As.length = n) (hl : ls.size = nL) (hW : (rest.map fun v => v.category).sum ≤ 8) (hdg : decode cc pc = .ok (.invokestatic idx, 3)) (hf : cells + mc ≤ R.cells ∧ slots + ms ≤ R.slots)
    (hst : st0 = As.reverse ++ rest)
    (kk : ∀ (H1 : Heap) (locs1 : List Loc), G t u' H1 → va_S (gA t) s.heap H1 locs1 → W p l e R s m args below meth c H1 locs1 (cells + mc) (slots + ms) Q (F0 m (pc + 3) ls (.int (iI r) :: rest))) : W p l e R s m args below meth c H locs cells slots Q (F0 m pc ls st0) := by
  refine vx_calli (vx_runSX (As := As) (rest := rest) X.1 hM cw ⟨x_blind, x_pre X hG hS⟩ rfl hn hl hst (lv_room hW) hdg hf) hS (fun q _ h => h) (fun q h => h) (fun q _ h => h) (fun E ce q9 u2 U H1 locs1 hU hvm hw hB hz1 hk1 hS1 h7 h8 h9 => ?_) (fun r2 u2 U H1 locs1 hU hvm hw hB hz1 hk1 hS1 => ?_)
  · exact absurd rfl hB.1
  · obtain ⟨-, rfl, rfl⟩ := hw
    exact kk H1 locs1 (by rw [← hU]; exact hB) hS1
end LW
/-- a wrapper, entered -/
theorem x_ofWHi {l : Launch} {y : MethodName} {ws ws' : List Cond} {rm : Room} {t : gP} {As : List Value} {u u' : uS} {r : Int} {mc ms : Nat} {cc : ByteArray} {maxL : Nat} {ret : FieldType} {hh : List (Nat × Nat × Nat × Nat)} {own : String} (hy : plainName y.cls = true) (hw : ws = Cond.codeWith y cc maxL (some ret) hh :: ws') (ho : y.cls = own) (hL : (lg_sl As).length ≤ maxL)
    (body : ∀ p e s m args below meth c (Q : State → Prop), xC t p s m args c cc ws own maxL → c.exceptionTable.toList = tableOf hh →
      (∀ (H : Heap) (locs : List Loc) (ls : Array Slot) (pc k n : Nat), k ≤ mc → n ≤ ms → decode cc pc = .ok (.ireturn, 1) → narrow ret (.int (iI r)) = .int (iI r) → G t u' H → va_S (gA t) s.heap H locs → W p l e rm s m args below meth c H locs k n Q (F0 m pc ls [.int (iI r)])) →
      xG p l e rm s m args below meth c t Q maxL 0 0 0 u (lv_args 0 As) []) : xWi l y ws rm t As u r u' mc ms := by
  refine vx_ofWH (cc := cc) (maxL := maxL) (ret := some ret) hy hw ?_
  intro p e s m args below meth c s₁ B hml hv
  obtain ⟨rfl, hB1, hB2, hB3, hB4⟩ := hv
  have hts := atoms_spec (ws := ws) B.pre
  have hown : s.vm.findClass y.cls = some m.cls := findClass_of_methodNamed B.named
  rw [ho] at hown
  have htab := vx_table (x := y) B (hts _ (by rw [hw]; exact List.mem_cons_self))
  have hr := B.returns
  have hlk := B.notSynchronized
  have hl := lv_entry As (n := maxL) hL
  rw [lg_entry_eq]
  have X : xC t p s m As.toArray c cc ws own maxL := ⟨⟨B.exec, B.bytes, hml, hown, hts⟩, hB2, hB1, hB4⟩
  refine body p e s m As.toArray below meth c _ X htab (fun H locs ls pc k n hk hn hd hnr hG hS => ?_) _ _ _ hB3 va_S.rf hl
  refine W.widen (k := mc) (n := ms) hk hn ?_
  exact vx_ret (W.zret X.1.1 X.1.2.1 hr hnr (fun T hT hW => ⟨⟨iI r, u', rfl, ⟨rfl, rfl, rfl⟩, (by show G t _ _; rw [hT]; exact hG)⟩, hS.F hT⟩) hS.2.2 hd hlk)
abbrev rL_mutes : Room := { frames := max 6 (rX9_mute.frames + 1), cells := 2, slots := 12, locals := rX9_mute.locals + 60 }
set_option maxRecDepth 100000 in
set_option maxHeartbeats 8000000 in
theorem c_L_mutes (l : Launch) (hfl : l.stackTraces = false) (t : gP) (x1 : Int) (u : uS) (r : Int) (u' : uS) (h : f_L_mutes x1 u = some (r, u')) : xWi l yL_mutes wsL_mutes rL_mutes t [.ref (t.2.2.1 0), .int (iI x1)] u r u' 2 12 := by
  refine x_ofWHi (cc := cL_mutes) (maxL := 3) (ret := .int) (own := RL) (by decide) rfl rfl (Nat.le_of_ble_eq_true rfl) ?_
  intro p e s m args below meth c Q X htab hret H locs ls hG hS hl
  replace hl : lv_has ls 3 [(0, .ref (t.2.2.1 0)), (1, .int (iI x1))] := hl
  have q0 : 0 < NN ∧ sT 0 = 13 := by decide
  unfold f_L_mutes at h
  cases hf : f_X9_mute x1 u with
  | none => rw [hf] at h; cases h
  | some z =>
    obtain ⟨g, r1, u1⟩ := z
    rw [hf] at h
    obtain ⟨hg, h⟩ := xgd_of h
    refine lv_aload_n X.1.1 X.1.2.1 dL_mutes_0 rfl (lv_at hl 0 rfl) ?_
    refine lv_iload_n X.1.1 X.1.2.1 dL_mutes_1 rfl (lv_at hl 1 rfl) ?_
    refine x_callVTi X hG hS (c_X9_mute l hfl t x1 u g r1 u1 hf) (cwV 1 X.1.2.2.2.2 gL_mutes_X9_mute rfl rfl rfl hd_X9_mute ⟨Nat.le_of_ble_eq_true rfl, Nat.le_of_ble_eq_true rfl⟩) q0.1 q0.2 rfl (by decide) (by rfl) hl.1 (Nat.le_of_ble_eq_true rfl) dL_mutes_2 ⟨by decide, by decide⟩ rfl (fun hg0 H locs ce q9 hG hS h7 h8 h9 => ?_) (fun hg0 H locs hG hS => ?_)
    · have h3 : g = 3 := hg.resolve_left hg0
      subst h3
      cases h
      refine x_cat3 X htab ⟨0, 5, 6, 232⟩ rfl (by decide) (by decide) (x_w 1 rfl) (va_Nw.use rfl (X.2.2.1.ca (xE 3) (by decide))) h7 h8 h9 ?_
      refine lv_astore_n (lv' := [(2, .ref q9), (0, .ref (t.2.2.1 0)), (1, .int (iI x1))]) X.1.1 X.1.2.1 dL_mutes_6 rfl hl (by decide) rfl (fun ls hl => ?_)
      refine x_bipush X dL_mutes_7 (by decide) ?_
      exact hret _ _ _ _ _ _ (by decide) (by decide) dL_mutes_9 rfl hG hS
    · subst hg0
      cases h
      exact hret _ _ _ _ _ _ (by decide) (by decide) dL_mutes_5 rfl hG hS
theorem hds_L_mutes : yL_mutes.cls ≠ "java/lang/invoke/MethodHandle" ∧ yL_mutes.cls ≠ "java/lang/invoke/VarHandle" ∧ (parseMethodDescriptor yL_mutes.desc).map (fun d => d.parameters.length) = some 2 := by decide +kernel
abbrev rL_unmutes : Room := { frames := max 6 (rX9_unmute.frames + 1), cells := 2, slots := 12, locals := rX9_unmute.locals + 60 }
set_option maxRecDepth 100000 in
set_option maxHeartbeats 8000000 in
theorem c_L_unmutes (l : Launch) (hfl : l.stackTraces = false) (t : gP) (x1 : Int) (u : uS) (r : Int) (u' : uS) (h : f_L_unmutes x1 u = some (r, u')) : xWi l yL_unmutes wsL_unmutes rL_unmutes t [.ref (t.2.2.1 0), .int (iI x1)] u r u' 2 12 := by
  refine x_ofWHi (cc := cL_unmutes) (maxL := 3) (ret := .int) (own := RL) (by decide) rfl rfl (Nat.le_of_ble_eq_true rfl) ?_
  intro p e s m args below meth c Q X htab hret H locs ls hG hS hl
  replace hl : lv_has ls 3 [(0, .ref (t.2.2.1 0)), (1, .int (iI x1))] := hl
  have q0 : 0 < NN ∧ sT 0 = 13 := by decide
  unfold f_L_unmutes at h
  cases hf : f_X9_unmute x1 u with
  | none => rw [hf] at h; cases h
  | some z =>
    obtain ⟨g, r1, u1⟩ := z
    rw [hf] at h
    obtain ⟨hg, h⟩ := xgd_of h
    refine lv_aload_n X.1.1 X.1.2.1 dL_unmutes_0 rfl (lv_at hl 0 rfl) ?_
    refine lv_iload_n X.1.1 X.1.2.1 dL_unmutes_1 rfl (lv_at hl 1 rfl) ?_
    refine x_callVTi X hG hS (c_X9_unmute l hfl t x1 u g r1 u1 hf) (cwV 1 X.1.2.2.2.2 gL_unmutes_X9_unmute rfl rfl rfl hd_X9_unmute ⟨Nat.le_of_ble_eq_true rfl, Nat.le_of_ble_eq_true rfl⟩) q0.1 q0.2 rfl (by decide) (by rfl) hl.1 (Nat.le_of_ble_eq_true rfl) dL_unmutes_2 ⟨by decide, by decide⟩ rfl (fun hg0 H locs ce q9 hG hS h7 h8 h9 => ?_) (fun hg0 H locs hG hS => ?_)
    · have h3 : g = 3 := hg.resolve_left hg0
      subst h3
      cases h
      refine x_cat3 X htab ⟨0, 5, 6, 232⟩ rfl (by decide) (by decide) (x_w 1 rfl) (va_Nw.use rfl (X.2.2.1.ca (xE 3) (by decide))) h7 h8 h9 ?_
      refine lv_astore_n (lv' := [(2, .ref q9), (0, .ref (t.2.2.1 0)), (1, .int (iI x1))]) X.1.1 X.1.2.1 dL_unmutes_6 rfl hl (by decide) rfl (fun ls hl => ?_)
      refine x_bipush X dL_unmutes_7 (by decide) ?_
      exact hret _ _ _ _ _ _ (by decide) (by decide) dL_unmutes_9 rfl hG hS
    · subst hg0
      cases h
      exact hret _ _ _ _ _ _ (by decide) (by decide) dL_unmutes_5 rfl hG hS
theorem hds_L_unmutes : yL_unmutes.cls ≠ "java/lang/invoke/MethodHandle" ∧ yL_unmutes.cls ≠ "java/lang/invoke/VarHandle" ∧ (parseMethodDescriptor yL_unmutes.desc).map (fun d => d.parameters.length) = some 2 := by decide +kernel
abbrev rL_retracts : Room := { frames := max 6 (rX9_retract.frames + 1), cells := 2, slots := 12, locals := rX9_retract.locals + 60 }
set_option maxRecDepth 100000 in
set_option maxHeartbeats 8000000 in
theorem c_L_retracts (l : Launch) (hfl : l.stackTraces = false) (t : gP) (x1 : Int) (u : uS) (r : Int) (u' : uS) (h : f_L_retracts x1 u = some (r, u')) : xWi l yL_retracts wsL_retracts rL_retracts t [.ref (t.2.2.1 0), .int (iI x1)] u r u' 2 12 := by
  refine x_ofWHi (cc := cL_retracts) (maxL := 3) (ret := .int) (own := RL) (by decide) rfl rfl (Nat.le_of_ble_eq_true rfl) ?_
  intro p e s m args below meth c Q X htab hret H locs ls hG hS hl
  replace hl : lv_has ls 3 [(0, .ref (t.2.2.1 0)), (1, .int (iI x1))] := hl
  have q0 : 0 < NN ∧ sT 0 = 13 := by decide
  unfold f_L_retracts at h
  cases hf : f_X9_retract x1 u with
  | none => rw [hf] at h; cases h
  | some z =>
    obtain ⟨g, r1, u1⟩ := z
    rw [hf] at h
    obtain ⟨hg, h⟩ := xgd_of h
    refine lv_aload_n X.1.1 X.1.2.1 dL_retracts_0 rfl (lv_at hl 0 rfl) ?_
    refine lv_iload_n X.1.1 X.1.2.1 dL_retracts_1 rfl (lv_at hl 1 rfl) ?_
    refine x_callVTi X hG hS (c_X9_retract l hfl t x1 u g r1 u1 hf) (cwV 1 X.1.2.2.2.2 gL_retracts_X9_retract rfl rfl rfl hd_X9_retract ⟨Nat.le_of_ble_eq_true rfl, Nat.le_of_ble_eq_true rfl⟩) q0.1 q0.2 rfl (by decide) (by rfl) hl.1 (Nat.le_of_ble_eq_true rfl) dL_retracts_2 ⟨by decide, by decide⟩ rfl (fun hg0 H locs ce q9 hG hS h7 h8 h9 => ?_) (fun hg0 H locs hG hS => ?_)
    · have h3 : g = 3 := hg.resolve_left hg0
      subst h3
      cases h
      refine x_cat3 X htab ⟨0, 5, 6, 232⟩ rfl (by decide) (by decide) (x_w 1 rfl) (va_Nw.use rfl (X.2.2.1.ca (xE 3) (by decide))) h7 h8 h9 ?_
      refine lv_astore_n (lv' := [(2, .ref q9), (0, .ref (t.2.2.1 0)), (1, .int (iI x1))]) X.1.1 X.1.2.1 dL_retracts_6 rfl hl (by decide) rfl (fun ls hl => ?_)
      refine x_bipush X dL_retracts_7 (by decide) ?_
      exact hret _ _ _ _ _ _ (by decide) (by decide) dL_retracts_9 rfl hG hS
    · subst hg0
      cases h
      exact hret _ _ _ _ _ _ (by decide) (by decide) dL_retracts_5 rfl hG hS
theorem hds_L_retracts : yL_retracts.cls ≠ "java/lang/invoke/MethodHandle" ∧ yL_retracts.cls ≠ "java/lang/invoke/VarHandle" ∧ (parseMethodDescriptor yL_retracts.desc).map (fun d => d.parameters.length) = some 2 := by decide +kernel
