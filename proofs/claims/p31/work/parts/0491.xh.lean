/-! X, part h: what may move the StringBuilder's bytes; Arrays.copyOf, newCapacity's tail and ensureCapacityInternal by hand -/
abbrev xQvm (t : gP) (u' : uS) : Array Value → State → Outcome → State → Prop := va_Qv (fun (u2 : uS) => u2 = u') (fun u2 U => ∃ b : Nat, G (mv t b) u2 U.heap) (gA t)
abbrev xQsm (t : gP) (r : Int) (u' : uS) : Array Value → State → Outcome → State → Prop := va_Qr (fun (u2 : uS) => u2 = u') (fun u2 a U => a = t.2.2.1 r.toNat ∧ ∃ b : Nat, G (mv t b) u2 U.heap) (gA t)
def xMvm (l : Launch) (y : MethodName) (ws : List Cond) (rm : Room) (t : gP) (As : List Value) (u : uS) (u' : uS) (mc ms : Nat) : Prop := Met l y ws rm (va_Pc As (gB t u)) (xQvm t u') mc ms (gA t)
def xMsm (l : Launch) (y : MethodName) (ws : List Cond) (rm : Room) (t : gP) (As : List Value) (u : uS) (r : Int) (u' : uS) (mc ms : Nat) : Prop := Met l y ws rm (va_Pc As (gB t u)) (xQsm t r u') mc ms (gA t)
theorem x_ofWvm {l : Launch} {y : MethodName} {ws ws' : List Cond} {rm : Room} {t : gP} {As : List Value} {u u' : uS} {mc ms : Nat} {cc : ByteArray} {maxL : Nat} {own : String} (hy : plainName y.cls = true) (hw : ws = Cond.code y cc maxL none :: ws') (ho : y.cls = own) (hL : (lg_sl As).length ≤ maxL)
    (body : ∀ p e s m args below meth c (Q : State → Prop), xC t p s m args c cc ws own maxL → (∀ (b : Nat) (H : Heap) (locs : List Loc) (ls : Array Slot) (pc k n : Nat), k ≤ mc → n ≤ ms → decode cc pc = .ok (.return_, 1) → G (mv t b) u' H → va_S (gA t) s.heap H locs → W p l e rm s m args below meth c H locs k n Q (F0 m pc ls [])) → xG p l e rm s m args below meth c t Q maxL 0 0 0 u (lv_args 0 As) []) : xMvm l y ws rm t As u u' mc ms := by
  refine x_ofW (cc := cc) (maxL := maxL) (ret := none) hy hw hL ?_
  intro p e s m below meth c X hr hlk hG hS ls hl
  rw [ho] at X
  refine body p e s m _ below meth c _ X (fun b H locs ls pc k n hk hn hd hG hS => W.widen (k := mc) (n := ms) hk hn ?_) _ _ ls hG hS hl
  exact W.vret X.1.1 X.1.2.1 hr (fun T hT hW => ⟨⟨u', rfl, rfl, b, (by rw [hT]; exact hG)⟩, hS.F hT⟩) hS.2.2 hd hlk
theorem x_ofWsm {l : Launch} {y : MethodName} {ws ws' : List Cond} {rm : Room} {t : gP} {As : List Value} {u u' : uS} {r : Int} {mc ms : Nat} {cc : ByteArray} {maxL : Nat} {own nm : String} (hy : plainName y.cls = true) (hw : ws = Cond.code y cc maxL (some (.object nm)) :: ws') (ho : y.cls = own) (hL : (lg_sl As).length ≤ maxL)
    (body : ∀ p e s m args below meth c (Q : State → Prop), xC t p s m args c cc ws own maxL → (∀ (b : Nat) (H : Heap) (locs : List Loc) (ls : Array Slot) (pc k n : Nat), k ≤ mc → n ≤ ms → decode cc pc = .ok (.areturn, 1) → G (mv t b) u' H → va_S (gA t) s.heap H locs → W p l e rm s m args below meth c H locs k n Q (F0 m pc ls [.ref (t.2.2.1 r.toNat)])) → xG p l e rm s m args below meth c t Q maxL 0 0 0 u (lv_args 0 As) []) : xMsm l y ws rm t As u r u' mc ms := by
  refine x_ofW (cc := cc) (maxL := maxL) (ret := some (.object nm)) hy hw hL ?_
  intro p e s m below meth c X hr hlk hG hS ls hl
  rw [ho] at X
  refine body p e s m _ below meth c _ X (fun b H locs ls pc k n hk hn hd hG hS => W.widen (k := mc) (n := ms) hk hn ?_) _ _ ls hG hS hl
  exact W.aret X.1.1 X.1.2.1 hr (Or.inl ⟨nm, rfl⟩) (Or.inr ⟨_, rfl⟩) (fun T hT hW => ⟨⟨u', _, rfl, rfl, rfl, b, (by rw [hT]; exact hG)⟩, hS.F hT⟩) hS.2.2 hd hlk
section XH
variable {p : Program} {l : Launch} {e : Env} {R : Room} {s : State} {m : MethodId} {args : Array Value} {below : List Frame} {meth : Method} {c : Code} {H : Heap} {locs : List Loc} {cells slots mc ms : Nat} {Q : State → Prop}
variable {cc : ByteArray} {pc : Nat} {ls : Array Slot} {rest st0 : List Value} {t : gP} {u u' : uS} {ws : List Cond} {own : String} {nL : Nat} {r : Int} {a : Array Value}
theorem x_ki (hS : va_S (gA t) s.heap H locs) (hr : va_Run p l e R s m args below meth c H locs cells slots mc ms (F0 m pc ls st0) rest (xQi t r u' a) (gA t))
    (kk : ∀ (H1 : Heap) (locs1 : List Loc), G t u' H1 → va_S (gA t) s.heap H1 locs1 → W p l e R s m args below meth c H1 locs1 (cells + mc) (slots + ms) Q (F0 m (pc + 3) ls (.int (iI r) :: rest))) : W p l e R s m args below meth c H locs cells slots Q (F0 m pc ls st0) := by
  refine va_calli hr hS (fun q _ h => h) (fun q h => h) (fun r2 u2 U H1 locs1 hU hvm hw hB hz1 hk1 hS1 => ?_)
  obtain ⟨rfl, rfl⟩ := hw
  exact kk H1 locs1 (by rw [← hU]; exact hB) hS1
theorem x_kv (hS : va_S (gA t) s.heap H locs) (hr : va_Run p l e R s m args below meth c H locs cells slots mc ms (F0 m pc ls st0) rest (xQv t u' a) (gA t))
    (kk : ∀ (H1 : Heap) (locs1 : List Loc), G t u' H1 → va_S (gA t) s.heap H1 locs1 → W p l e R s m args below meth c H1 locs1 (cells + mc) (slots + ms) Q (F0 m (pc + 3) ls rest)) : W p l e R s m args below meth c H locs cells slots Q (F0 m pc ls st0) := by
  refine va_callv hr hS (fun q _ h => h) (fun q h => h) (fun u2 U H1 locs1 hU hvm hw hB hz1 hk1 hS1 => ?_)
  subst hw
  exact kk H1 locs1 (by rw [← hU]; exact hB) hS1
theorem x_kvm (hS : va_S (gA t) s.heap H locs) (hr : va_Run p l e R s m args below meth c H locs cells slots mc ms (F0 m pc ls st0) rest (xQvm t u' a) (gA t))
    (kk : ∀ (b : Nat) (H1 : Heap) (locs1 : List Loc), G (mv t b) u' H1 → va_S (gA t) s.heap H1 locs1 → W p l e R s m args below meth c H1 locs1 (cells + mc) (slots + ms) Q (F0 m (pc + 3) ls rest)) : W p l e R s m args below meth c H locs cells slots Q (F0 m pc ls st0) := by
  refine va_callv hr hS (fun q _ h => h) (fun q h => h) (fun u2 U H1 locs1 hU hvm hw hB hz1 hk1 hS1 => ?_)
  subst hw
  obtain ⟨b, hB⟩ := hB
  exact kk b H1 locs1 (by rw [← hU]; exact hB) hS1
theorem x_ksm (hS : va_S (gA t) s.heap H locs) (hr : va_Run p l e R s m args below meth c H locs cells slots mc ms (F0 m pc ls st0) rest (xQsm t r u' a) (gA t))
    (kk : ∀ (b : Nat) (H1 : Heap) (locs1 : List Loc), G (mv t b) u' H1 → va_S (gA t) s.heap H1 locs1 → W p l e R s m args below meth c H1 locs1 (cells + mc) (slots + ms) Q (F0 m (pc + 3) ls (.ref (t.2.2.1 r.toNat) :: rest))) : W p l e R s m args below meth c H locs cells slots Q (F0 m pc ls st0) := by
  refine va_callr hr hS (fun q _ h => h) (fun q h => h) (fun u2 a U H1 locs1 hU hvm hw hB hz1 hk1 hS1 => ?_)
  subst hw
  obtain ⟨rfl, b, hB⟩ := hB
  exact kk b H1 locs1 (by rw [← hU]; exact hB) hS1
theorem al37 {t : gP} : al t 37 := al_c (k := 37) (ci := 1) (by decide) (by decide) (by decide)
/-- the StringBuilder as a receiver -/
theorem x_sbrecv (X : xC t p s m args c cc ws own nL) (hG : G t u H) : ∃ cell : Cell, H[t.2.2.1 37]? = some cell ∧ cell.vm.isStatics = false ∧ s.vm.findClass RJ4 = some cell.cls :=
  va_recv (ci := 1) (q0 := gi t 37) X.2.1 hG.P rfl (gL_o al37 (by decide) (by decide))
end XH
/-- what Arrays.copyOf makes -/
def cpyC (t : gP) (u : uS) (n : Nat) : Cell := vp_cell (t.2.1 102) (n, .inl (fun j => if (j : Int) < u 1000 1 then iI (u 38 (j : Int)) else 0))
abbrev rJ7_copyOf_9075b : Room := { frames := 1, cells := 1, slots := 600, locals := 60 }
set_option maxRecDepth 100000 in
set_option maxHeartbeats 8000000 in
theorem c_J7_copyOf_9075b (l : Launch) (t : gP) (x1 : Int) (u : uS) (h0 : sbOk u) (h1 : u 1000 1 < x1 ∧ x1 ≤ 600) : Met l yJ7_copyOf_9075b wsJ7_copyOf_9075b rJ7_copyOf_9075b (va_Pc [.ref (t.2.2.1 38), .int (iI x1)] (gB t u)) (va_Qr (fun (_ : Unit) => True) (fun _ a U => G t u U.heap ∧ U.heap[a]? = some (cpyC t u x1.toNat) ∧ (∀ k, al t k → gad t k ≠ a) ∧ t.2.2.2 ≤ a) (gA t)) 1 600 (gA t) := by
  refine x_ofW (cc := cJ7_copyOf_9075b) (maxL := 3) (ret := some (.array .byte)) (by decide) rfl (Nat.le_of_ble_eq_true rfl) ?_
  intro p e s m below meth c X hr hlk hG hS ls hl
  replace X : xC t p s m _ c cJ7_copyOf_9075b wsJ7_copyOf_9075b RJ7 3 := X
  replace hl : lv_has ls 3 [(0, .ref (t.2.2.1 38)), (1, .int (iI x1))] := hl
  generalize ([.ref (t.2.2.1 38), .int (iI x1)] : List Value).toArray = args at X ⊢
  obtain ⟨h0a, h0b, h0c⟩ := h0
  have hx : InR x1 := ⟨by omega, by omega⟩
  refine lv_iload_n X.1.1 X.1.2.1 dJ7_copyOf_9075b_0 rfl (lv_at hl 1 rfl) ?_
  refine lv_aload_n X.1.1 X.1.2.1 dJ7_copyOf_9075b_1 rfl (lv_at hl 0 rfl) ?_
  refine x_sblen X hG ⟨h0a, by omega⟩ dJ7_copyOf_9075b_2 ?_
  refine x_icmp_ne (tgt := 14) X hx ⟨by omega, by omega⟩ dJ7_copyOf_9075b_3 (by decide) (fun _ => ?_) (fun q => absurd q (by omega))
  refine lv_iload_n X.1.1 X.1.2.1 dJ7_copyOf_9075b_14 rfl (lv_at hl 1 rfl) ?_
  refine va_newa (D := t.1) (cl := vwCl) (atype := .byte) (ty := .byte) (ws := gL t u) (N' := x1.toNat) (a0 := (x1.toNat, .inl (fun _ => 0))) X.1.1 X.1.2.1 (X.1.2.2.2.2 _ (x_w 7 rfl)) rfl X.2.1 hG.P hG.D hS (fun q hq => Nat.le_trans X.2.2.2 hq) (fun cA => rfl) (fun q => by have := (iI_lt (b := 0) hx (by decide)).mp q; omega) (iI_cl hx) (by show x1.toNat * 1 ≤ _; omega) (by decide) (by show 0 + x1.toNat ≤ 600; omega) dJ7_copyOf_9075b_15 (fun q cA H1 hK hP hD hS1 => ?_)
  have hcA : cA = t.2.1 102 := by
    have q1 := (hK.2 7 (cA, .byte) rfl).2
    have q2 := (hK.2 2 (t.2.1 102, .byte) rfl).2
    exact Option.some.inj (Eq.trans (Eq.symm q1) q2)
  subst hcA
  refine lv_astore_n (lv' := [(2, .ref q), (0, .ref (t.2.2.1 38)), (1, .int (iI x1))]) X.1.1 X.1.2.1 dJ7_copyOf_9075b_17 rfl hl (by decide) rfl (fun ls hl => ?_)
  refine lv_aload_n X.1.1 X.1.2.1 dJ7_copyOf_9075b_18 rfl (lv_at hl 1 rfl) ?_
  refine x_iconst X dJ7_copyOf_9075b_19 ?_
  refine lv_aload_n X.1.1 X.1.2.1 dJ7_copyOf_9075b_20 rfl (lv_at hl 0 rfl) ?_
  refine x_iconst X dJ7_copyOf_9075b_21 ?_
  refine lv_aload_n X.1.1 X.1.2.1 dJ7_copyOf_9075b_22 rfl (lv_at hl 1 rfl) ?_
  have e38 : (gL t u ++ [(q, .inl (t.2.1 102, (x1.toNat, .inl (fun _ => 0))))])[gi t 38]? = some (t.2.2.1 38, .inl (t.2.1 102, (u 1000 1).toNat, .inl (fun j => iI (u 38 (j : Int))))) := by
    rw [List.getElem?_append_left (gi_lt al38)]; exact gL_sb
  have eq : (gL t u ++ [(q, .inl (t.2.1 102, (x1.toNat, .inl (fun _ => 0))))])[(gL t u).length]? = some (q, (.inl (t.2.1 102, (x1.toNat, .inl (fun _ => 0))) : va_E)) := by
    rw [List.getElem?_append_right (Nat.le_refl _), Nat.sub_self]; rfl
  refine va_alen (D := t.1) (cl := vwCl) X.1.1 X.1.2.1 X.2.1 hP (gi t 38) 2 e38 rfl ((iI_nat _).trans (by rw [Int.toNat_of_nonneg h0a])) dJ7_copyOf_9075b_23 ?_
  refine lv_iload_n X.1.1 X.1.2.1 dJ7_copyOf_9075b_24 rfl (lv_at hl 2 rfl) ?_
  refine x_mmin (R := rJ7_copyOf_9075b) X ⟨by omega, by omega⟩ hx hl.1 (x_w 8 rfl) (x_w 9 rfl) (x_w 10 rfl) (x_w 11 rfl) (by decide) (by decide) dJ7_copyOf_9075b_25 (Nat.le_of_ble_eq_true rfl) ⟨by decide, by show 0 + x1.toNat ≤ 600; omega⟩ ?_
  have hmin : minI (u 1000 1) x1 = u 1000 1 := if_pos (by omega)
  rw [hmin]
  have hl0 : InR (u 1000 1) := ⟨by omega, by omega⟩
  have hz : ¬ iI 0 < 0 := by decide
  have hc0 : (iI 0).toNatClampNeg = 0 := by decide
  have hw : nativeFrameWords "java/lang/System" "arraycopy" 5 + 11 ≤ 52 := by decide
  refine va_copyi (D := t.1) (cl := vwCl) (f := fun j => iI (u 38 (j : Int))) (g := fun _ => 0) (ty := .byte) X.1.1 X.1.2.1 (X.1.2.2.1.trans hl.1.symm) X.1.2.2.2.1 (X.1.2.2.2.2 _ (x_w 12 rfl)) (X.1.2.2.2.2 _ (x_w 13 rfl)) (X.1.2.2.2.2 _ (x_w 14 rfl)) (X.1.2.2.2.2 _ (x_w 15 rfl)) X.2.1 hP hD hS1 (gi t 38) (gL t u).length 2 2 e38 eq rfl rfl rfl hz hz (fun q => by have := (iI_lt (b := 0) hl0 (by decide)).mp q; omega) (by rw [iI_cl hl0, hc0]; omega) (by rw [iI_cl hl0, hc0]; omega) (fun i hi => ?_) (by decide) (by show _ + (nativeFrameWords "java/lang/System" "arraycopy" 5 + 11) ≤ 60; simp only [List.map_nil, List.sum_nil]; omega) dJ7_copyOf_9075b_28 (fun H2 locs2 hP2 hD2 hS2 => ?_)
  · rw [iI_cl hl0] at hi
    rw [hc0, Nat.zero_add]
    have hv := h0c i hi
    have hxv := iI_t (x := u 38 (i : Int)) ⟨by omega, by omega⟩
    show (decide (-128 ≤ iI (u 38 (i : Int))) && decide (iI (u 38 (i : Int)) ≤ 127)) = true
    rw [Bool.and_eq_true, decide_eq_true_eq, decide_eq_true_eq]
    exact ⟨Int32.le_iff_toInt_le.mpr (by rw [hxv]; exact (by omega : (-128 : Int) ≤ u 38 (i : Int))), Int32.le_iff_toInt_le.mpr (by rw [hxv]; exact (by omega : u 38 (i : Int) ≤ (127 : Int)))⟩
  · refine lv_aload_n X.1.1 X.1.2.1 dJ7_copyOf_9075b_31 rfl (lv_at hl 0 rfl) ?_
    refine W.widen (k := 1) (n := 600) (by decide) (by show 0 + x1.toNat ≤ 600; omega) ?_
    have hq : ∀ k, al t k → gad t k ≠ q := fun k hk hkq => by
      have h9 := hD.1 (gi t k) (gL t u).length _ _ (by rw [List.getElem?_append_left (gi_lt hk)]; exact gL_at hk) eq hkq
      have := gi_lt (u := u) hk
      omega
    have hG2 : G t u H2 := by
      refine ⟨fun k hk => ?_, hG.2.1, hG.2.2⟩
      have hg := gi_lt (u := u) hk
      have h9 := hP2 (gi t k) (gad t k, gE t u k) (by
        rw [List.getElem?_set_ne (by omega), List.getElem?_append_left hg]; exact gL_at hk)
      exact h9
    have hcell : H2[q]? = some (cpyC t u x1.toNat) := by
      have h9 := hP2 (gL t u).length _ (List.getElem?_set_self (by rw [List.length_append]; exact Nat.lt_succ_self _))
      have hf : va_cpy (fun j : Nat => iI (u 38 (j : Int))) (fun _ => (0 : Int32)) (iI 0).toNatClampNeg (iI 0).toNatClampNeg (iI (u 1000 1)).toNatClampNeg = fun j : Nat => if (j : Int) < u 1000 1 then iI (u 38 (j : Int)) else 0 := by
        rw [iI_cl hl0, hc0]
        funext j
        unfold va_cpy
        by_cases hj : (j : Int) < u 1000 1
        · rw [if_pos ⟨Nat.zero_le _, by omega⟩, if_pos hj, Nat.zero_add, Nat.sub_zero]
        · rw [if_neg (fun q => hj (by omega)), if_neg hj]
      rw [hf] at h9
      exact h9
    exact W.aret X.1.1 X.1.2.1 hr (Or.inr ⟨_, rfl⟩) (Or.inr ⟨_, rfl⟩) (fun T hT hW => ⟨⟨(), q, rfl, trivial, (by rw [hT]; exact hG2), (by rw [hT]; exact hcell), hq, hD.2 (gL t u).length _ eq⟩, hS2.F hT⟩) hS2.2.2 dJ7_copyOf_9075b_32 hlk
theorem hds_J7_copyOf_9075b : yJ7_copyOf_9075b.cls ≠ "java/lang/invoke/MethodHandle" ∧ yJ7_copyOf_9075b.cls ≠ "java/lang/invoke/VarHandle" ∧ (parseMethodDescriptor yJ7_copyOf_9075b.desc).map (fun d => d.parameters.length) = some 2 := by decide +kernel
theorem mv_ag {t : gP} {b : Nat} : ag 38 0 0 t (mv t b) := ⟨rfl, rfl, rfl, fun k h _ _ => mv_at (by omega)⟩
/-- a picture whose other cells stay, over other addresses of cell 38 -/
theorem gE_mv {t : gP} {u : uS} {b k : Nat} {n : Int} (hC : gC t u) (hk : al t k) (h37 : k ≠ 37) (h38 : k ≠ 38) (hd : (u 0 4).toNat ≠ 38 ∧ (u 0 5).toNat ≠ 38) : gE (mv t b) (grown u n) k = gE t u k := by
  have hl : k < 358 := al_lt hk
  refine gE_keep rfl (fun i => ?_) ⟨fun q => absurd ((sT_l k hl).1.mp q) h38, fun _ => rfl, fun _ => rfl⟩ (fun i hi => mv_at ?_)
  · unfold grown
    rw [if_neg (fun q => by omega), if_neg h38]
  · by_cases h264 : k < 264
    · rcases ref_c h264 h37 hi with q | ⟨-, q | q⟩
      · exact q.2.2
      · rw [q]; exact hd.1
      · rw [q]; exact hd.2
    · rcases ref_l hC hk (by omega) hi with ⟨-, q, -⟩ | ⟨-, rfl, -⟩ | ⟨-, q, q2⟩ | ⟨-, q, q2⟩ | ⟨-, rfl⟩ | ⟨-, rfl⟩
      · omega
      · omega
      · have := sT_16 i (al_lt q) q2; omega
      · have := sT_15 i (al_lt q) q2; omega
      · omega
      · omega
theorem gC_mv {t : gP} {u : uS} {b : Nat} {n : Int} (hC : gC t u) : gC (mv t b) (grown u n) := by
  have hal : ∀ {k}, al (mv t b) k ↔ al t k := fun {k} => by
    rw [al_iff, al_iff, mv_at (by omega)]
  refine ⟨fun k hk hs => hal.mpr (hC.1 k (hal.mp hk) hs), fun h => ?_, fun k hk hs j h0 h1 h2 => ?_⟩
  · obtain ⟨a1, a2, a3, a4, a5, a6⟩ := hC.2.1 (hal.mp h)
    exact ⟨hal.mpr a1, hal.mpr a2, hal.mpr a3, hal.mpr a4, hal.mpr a5, hal.mpr a6⟩
  · have hl : k < 358 := al_lt hk
    have e : grown u n k j = u k j := by
      unfold grown
      rw [if_neg (fun q => by omega), if_neg (fun q => by subst q; rcases hs with q | q <;> exact absurd q (by decide))]
    rw [e] at h2 ⊢
    have := hC.2.2 k (hal.mp hk) hs j h0 h1 h2
    exact ⟨hal.mpr this.1, this.2⟩
