/-! X, part s: the law's wrapper of describe, whose picture moves -/
def xWim (l : Launch) (y : MethodName) (ws : List Cond) (rm : Room) (t : gP) (As : List Value) (u : uS) (r : Int) (u' : uS) (mc ms : Nat) : Prop := vx_Met l y ws rm (va_Pc As (gBn t u)) (xQtim t 0 r u') (xXtm t 0 u') mc ms (gA t)
theorem x_ofWHim {l : Launch} {y : MethodName} {ws ws' : List Cond} {rm : Room} {t : gP} {As : List Value} {u u' : uS} {r : Int} {mc ms : Nat} {cc : ByteArray} {maxL : Nat} {ret : FieldType} {hh : List (Nat × Nat × Nat × Nat)} {own : String} (hy : plainName y.cls = true) (hw : ws = Cond.codeWith y cc maxL (some ret) hh :: ws') (ho : y.cls = own) (hL : (lg_sl As).length ≤ maxL)
    (body : ∀ p e s m args below meth c (Q : State → Prop), xC t p s m args c cc ws own maxL → gN s → c.exceptionTable.toList = tableOf hh →
      (∀ (b : Nat) (H : Heap) (locs : List Loc) (ls : Array Slot) (pc k n : Nat), k ≤ mc → n ≤ ms → decode cc pc = .ok (.ireturn, 1) → narrow ret (.int (iI r)) = .int (iI r) → G (mv t b) u' H → va_S (gA t) s.heap H locs → W p l e rm s m args below meth c H locs k n Q (F0 m pc ls [.int (iI r)])) →
      xG p l e rm s m args below meth c t Q maxL 0 0 0 u (lv_args 0 As) []) : xWim l y ws rm t As u r u' mc ms := by
  refine vx_ofWH (cc := cc) (maxL := maxL) (ret := some ret) hy hw ?_
  intro p e s m args below meth c s₁ B hml hv
  obtain ⟨rfl, ⟨hB1, hB2, hB3, hB4⟩, hN⟩ := hv
  have hts := atoms_spec (ws := ws) B.pre
  have hown : s.vm.findClass y.cls = some m.cls := findClass_of_methodNamed B.named
  rw [ho] at hown
  have htab := vx_table (x := y) B (hts _ (by rw [hw]; exact List.mem_cons_self))
  have hr := B.returns
  have hlk := B.notSynchronized
  have hl := lv_entry As (n := maxL) hL
  rw [lg_entry_eq]
  have X : xC t p s m As.toArray c cc ws own maxL := ⟨⟨B.exec, B.bytes, hml, hown, hts⟩, hB2, hB1, hB4⟩
  refine body p e s m As.toArray below meth c _ X hN htab (fun b H locs ls pc k n hk hn hd hnr hG hS => ?_) _ _ _ hB3 va_S.rf hl
  refine W.widen (k := mc) (n := ms) hk hn ?_
  exact vx_ret (W.zret X.1.1 X.1.2.1 hr hnr (fun T hT hW => ⟨⟨iI r, u', rfl, ⟨rfl, rfl, rfl⟩, b, (by rw [hT]; exact hG)⟩, hS.F hT⟩) hS.2.2 hd hlk)
section XTM
variable {p : Program} {l : Launch} {e : Env} {R : Room} {s : State} {m : MethodId} {args : Array Value} {below : List Frame} {meth : Method} {c : Code} {H : Heap} {locs : List Loc} {cells slots : Nat} {Q : State → Prop}
variable {cc : ByteArray} {pc : Nat} {ls : Array Slot} {rest : List Value} {t : gP} {u : uS} {ws : List Cond} {own : String} {nL : Nat}
theorem x_callVTim (X : xC t p s m args c cc ws own nL) (hG : G t u H) (hS : va_S (gA t) s.heap H locs) {y : MethodName} {ws2 : List Cond} {rm : Room} {As : List Value} {u' : uS} {g : Nat} {r : Int} {mc ms k n ci N idx maxL : Nat} {C : String} {T : u_T} {bytes : ByteArray} {ret : Option FieldType} {st0 : List Value}
    (hM : xTim l y ws2 rm t (.ref (t.2.2.1 k) :: As) u g r u' mc ms) (cw : CallW R s args own C idx y bytes maxL ret ws2 rm mc ms n) (hk : k < NN) (hs : sT k = ci) (hci : vwCl[ci]? = some (C, T, N)) (h100 : ci < 100) (hn : As.length = n) (hl : ls.size = nL) (hW : (rest.map fun v => v.category).sum ≤ 8) (hdg : decode cc pc = .ok (.invokevirtual idx, 3)) (hf : cells + mc ≤ R.cells ∧ slots + ms ≤ R.slots)
    (hst : st0 = As.reverse ++ .ref (t.2.2.1 k) :: rest)
    (kx : g ≠ 0 → ∀ (b : Nat) (H1 : Heap) (locs1 : List Loc) (ce : Cell) (q9 : Addr), G (mv t b) u' H1 → va_S (gA t) s.heap H1 locs1 → H1[q9]? = some ce → ce.vm = .none → s.vm.findClass (xE g) = some ce.cls → vx_W p l e R s m args below meth c H1 locs1 (cells + mc) (slots + ms) Q (F0 m pc ls rest) q9)
    (kk : g = 0 → ∀ (b : Nat) (H1 : Heap) (locs1 : List Loc), G (mv t b) u' H1 → va_S (gA t) s.heap H1 locs1 → W p l e R s m args below meth c H1 locs1 (cells + mc) (slots + ms) Q (F0 m (pc + 3) ls (.int (iI r) :: rest))) : W p l e R s m args below meth c H locs cells slots Q (F0 m pc ls st0) := by
  refine vx_calli (vx_runV (As := As) (rest := rest) X.1 hM cw ⟨x_blind, va_recv X.2.1 hG.P hci (gL_o hk hs h100), x_pre X hG hS⟩ rfl hn hl hst (lv_room hW) hdg hf) hS (fun q _ h => h) (fun q h => h) (fun q _ h => h) (fun E ce q9 u2 U H1 locs1 hU hvm hw hB hz1 hk1 hS1 h7 h8 h9 => ?_) (fun r2 u2 U H1 locs1 hU hvm hw hB hz1 hk1 hS1 => ?_)
  · subst hw
    obtain ⟨q1, rfl, b, q2⟩ := hB
    exact kx q1 b H1 locs1 ce q9 (by rw [← hU]; exact q2) hS1 h7 h8 h9
  · obtain ⟨h0, rfl, rfl⟩ := hw
    obtain ⟨b, hB⟩ := hB
    exact kk h0 b H1 locs1 (by rw [← hU]; exact hB) hS1
end XTM
abbrev rL_describe : Room := { frames := rX9_describe.frames + 1, cells := 13, slots := 1206, locals := rX9_describe.locals + 30 }
set_option maxRecDepth 100000 in
set_option maxHeartbeats 8000000 in
theorem c_L_describe (l : Launch) (hfl : l.stackTraces = false) (t : gP) (x1 : Int) (u : uS) (g : Nat) (r : Int) (u1 : uS) (h : f_X9_describe x1 u = some (g, r, u1)) (hg : g = 0 ∨ g = 1) : xWim l yL_describe wsL_describe rL_describe t [.ref (t.2.2.1 0), .int (iI x1), .ref (t.2.2.1 39)] u (if g = 0 then 0 else 1) (if g = 0 then up u1 39 0 (iI r).toInt else u1) 13 1206 := by
  refine x_ofWHim (cc := cL_describe) (maxL := 4) (ret := .int) (own := RL) (by decide) rfl rfl (Nat.le_of_ble_eq_true rfl) ?_
  intro p e s m args below meth c Q X hN htab hret H locs ls hG hS hl
  replace hl : lv_has ls 4 [(0, .ref (t.2.2.1 0)), (1, .int (iI x1)), (2, .ref (t.2.2.1 39))] := hl
  have q0 : 0 < NN ∧ sT 0 = 13 := by decide
  have q39 : 39 < NN ∧ sT 39 = 103 := by decide
  refine lv_aload_n X.1.1 X.1.2.1 dL_describe_0 rfl (lv_at hl 2 rfl) ?_
  refine x_iconst X dL_describe_1 ?_
  refine lv_aload_n X.1.1 X.1.2.1 dL_describe_2 rfl (lv_at hl 0 rfl) ?_
  refine lv_iload_n X.1.1 X.1.2.1 dL_describe_3 rfl (lv_at hl 1 rfl) ?_
  refine x_callVTim X hG hS (c_X9_describe l hfl t x1 u g r u1 h) (cwV 1 X.1.2.2.2.2 gL_describe_X9_describe rfl rfl rfl hd_X9_describe ⟨Nat.le_of_ble_eq_true rfl, Nat.le_of_ble_eq_true rfl⟩) q0.1 q0.2 rfl (by decide) (by rfl) hl.1 (Nat.le_of_ble_eq_true rfl) dL_describe_4 ⟨by decide, by decide⟩ rfl (fun hg0 b H locs ce q9 hG hS h7 h8 h9 => ?_) (fun hg0 b H locs hG hS => ?_)
  · rw [if_neg hg0, if_neg hg0] at hret
    rcases hg with rfl | rfl
    · exact absurd rfl hg0
    · refine x_cat (g := 1) X hN htab [] ⟨0, 9, 12, 22⟩ [] rfl (fun z hz => by cases hz) (by decide) (by decide) (by decide +kernel) (X.2.2.1.2.2.2.2.2.2.2.2.2 (xE 1) (by decide)) h7 h8 h9 ?_
      refine lv_astore_n (lv' := [(3, .ref q9), (0, .ref (t.2.2.1 0)), (1, .int (iI x1)), (2, .ref (t.2.2.1 39))]) X.1.1 X.1.2.1 dL_describe_12 rfl hl (by decide) rfl (fun ls hl => ?_)
      refine x_iconst X dL_describe_13 ?_
      exact hret b _ _ _ _ _ _ (by decide) (by decide) dL_describe_14 (by decide) hG hS
  · rw [if_pos hg0, if_pos hg0] at hret
    rw [← iI_x (iI r)]
    refine x_i2l X (inR_x (iI r)) dL_describe_7 ?_
    have X1 := X.mv (b := b)
    have e39 : t.2.2.1 39 = (mv t b).2.2.1 39 := (mv_at (by decide)).symm
    rw [e39]
    refine x_last X1 hG hS q39.1 q39.2 (n := 1) (by decide +kernel) (by decide) (by decide) dL_describe_8 (fun H locs hG hS => ?_)
    refine lv_goto (tgt := 15) X.1.1 X.1.2.1 dL_describe_9 (by decide) ?_
    refine x_iconst X dL_describe_15 ?_
    exact hret b _ _ _ _ _ _ (by decide) (by decide) dL_describe_16 (by decide) hG hS
