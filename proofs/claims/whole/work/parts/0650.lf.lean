/-! L, part e: rows of the law's walk -/
theorem gN.warm {s U : State} (hW : s.WarmedH U.vm) (h : gN s) : gN U := by
  refine ⟨fun q hq => (h.1 q hq).moved hW.alike, fun w hw => ?_⟩
  exact word_at hW (Or.inl ((by decide +kernel : ∀ w ∈ gLk, (w.onTables && w.keeps) = true) w hw)) (h.2 w hw)
def sv (xs : Nat → Int32) (j : Int) : Int := (xs j.toNat).toInt
theorem sv_r {xs : Nat → Int32} {j : Int} : InR (sv xs j) := inR_x _
section XL
variable {p : Program} {l : Launch} {e : Env} {R : Room} {s : State} {m : MethodId} {args : Array Value} {below : List Frame} {meth : Method} {c : Code} {H : Heap} {locs : List Loc} {cells slots : Nat} {Q : State → Prop}
variable {cc : ByteArray} {pc : Nat} {ls : Array Slot} {rest : List Value} {t : gP} {u : uS} {ws : List Cond} {own : String} {nL : Nat}
theorem x_preN (X : xC t p s m args c cc ws own nL) (hN : gN s) (hG : G t u H) (hS : va_S (gA t) s.heap H locs) {As : List Value} : ∀ U : State, U.heap = H → s.WarmedH U.vm → va_Pc As (gBn t u) As.toArray U := fun U hU hW => ⟨rfl, (x_pre X hG hS (As := As) U hU hW).2, hN.warm hW⟩
theorem x_sld (X : xC t p s m args c cc ws own nL) {b L : Nat} {xs : Nat → Int32} (hX : va_X b L xs s s.heap) (hbl : b < s.heap.size) (ht : t.2.2.2 = s.heap.size) (hS : va_S (gA t) s.heap H locs) {j : Int} (hj : 0 ≤ j ∧ j < (L : Int)) (hL : L ≤ 3072) (hdg : decode cc pc = .ok (.iaload, 1))
    (kk : W p l e R s m args below meth c H locs cells slots Q (F0 m (pc + 1) ls (.int (iI (sv xs j)) :: rest))) : W p l e R s m args below meth c H locs cells slots Q (F0 m pc ls (.int (iI j) :: .ref b :: rest)) := by
  refine va_sld X.1.1 X.1.2.1 hX hbl (fun h => by unfold gA at h; rw [ht] at h; omega) hS (iI_in hj (by omega)) hdg ?_
  rw [iI_cl ⟨by omega, by omega⟩]
  unfold sv at kk
  rw [iI_x] at kk
  exact kk
theorem x_slen (X : xC t p s m args c cc ws own nL) {b L : Nat} {xs : Nat → Int32} (hX : va_X b L xs s s.heap) (hbl : b < s.heap.size) (ht : t.2.2.2 = s.heap.size) (hS : va_S (gA t) s.heap H locs) (hdg : decode cc pc = .ok (.arraylength, 1))
    (kk : W p l e R s m args below meth c H locs cells slots Q (F0 m (pc + 1) ls (.int (iI (L : Int)) :: rest))) : W p l e R s m args below meth c H locs cells slots Q (F0 m pc ls (.ref b :: rest)) := by
  refine va_slen X.1.1 X.1.2.1 hX hbl (fun h => by unfold gA at h; rw [ht] at h; omega) hS hdg ?_
  rw [iI_nat]
  exact kk
/-- a wrapper's call -/
theorem x_callWi (X : xC t p s m args c cc ws own nL) (hN : gN s) (hG : G t u H) (hS : va_S (gA t) s.heap H locs) {y : MethodName} {ws2 : List Cond} {rm : Room} {As : List Value} {u' : uS} {r : Int} {mc ms n idx maxL : Nat} {bytes : ByteArray} {ret : Option FieldType} {hh : List (Nat × Nat × Nat × Nat)} {st0 : List Value}
    (hM : xWi l y ws2 rm t As u r u' mc ms) (cw : vx_CSW R s args own idx y bytes maxL ret hh ws2 rm mc ms n) (hn : As.length = n) (hl : ls.size = nL) (hW : (rest.map fun v => v.category).sum ≤ 8) (hdg : decode cc pc = .ok (.invokestatic idx, 3)) (hf : cells + mc ≤ R.cells ∧ slots + ms ≤ R.slots)
    (hst : st0 = As.reverse ++ rest)
    (kk : ∀ (H1 : Heap) (locs1 : List Loc), G t u' H1 → va_S (gA t) s.heap H1 locs1 → W p l e R s m args below meth c H1 locs1 (cells + mc) (slots + ms) Q (F0 m (pc + 3) ls (.int (iI r) :: rest))) : W p l e R s m args below meth c H locs cells slots Q (F0 m pc ls st0) := by
  refine vx_calli (vx_runSX (As := As) (rest := rest) X.1 hM cw ⟨x_blindN, x_preN X hN hG hS⟩ rfl hn hl hst (lv_room hW) hdg hf) hS (fun q _ h => h) (fun q h => h) (fun q _ h => h) (fun E ce q9 u2 U H1 locs1 hU hvm hw hB hz1 hk1 hS1 h7 h8 h9 => ?_) (fun r2 u2 U H1 locs1 hU hvm hw hB hz1 hk1 hS1 => ?_)
  · exact absurd rfl hB.1
  · obtain ⟨-, rfl, rfl⟩ := hw
    exact kk H1 locs1 (by rw [← hU]; exact hB) hS1
theorem x_callWim (X : xC t p s m args c cc ws own nL) (hN : gN s) (hG : G t u H) (hS : va_S (gA t) s.heap H locs) {y : MethodName} {ws2 : List Cond} {rm : Room} {As : List Value} {u' : uS} {r : Int} {mc ms n idx maxL : Nat} {bytes : ByteArray} {ret : Option FieldType} {hh : List (Nat × Nat × Nat × Nat)} {st0 : List Value}
    (hM : xWim l y ws2 rm t As u r u' mc ms) (cw : vx_CSW R s args own idx y bytes maxL ret hh ws2 rm mc ms n) (hn : As.length = n) (hl : ls.size = nL) (hW : (rest.map fun v => v.category).sum ≤ 8) (hdg : decode cc pc = .ok (.invokestatic idx, 3)) (hf : cells + mc ≤ R.cells ∧ slots + ms ≤ R.slots)
    (hst : st0 = As.reverse ++ rest)
    (kk : ∀ (b : Nat) (H1 : Heap) (locs1 : List Loc), G (mv t b) u' H1 → va_S (gA t) s.heap H1 locs1 → W p l e R s m args below meth c H1 locs1 (cells + mc) (slots + ms) Q (F0 m (pc + 3) ls (.int (iI r) :: rest))) : W p l e R s m args below meth c H locs cells slots Q (F0 m pc ls st0) := by
  refine vx_calli (vx_runSX (As := As) (rest := rest) X.1 hM cw ⟨x_blindN, x_preN X hN hG hS⟩ rfl hn hl hst (lv_room hW) hdg hf) hS (fun q _ h => h) (fun q h => h) (fun q _ h => h) (fun E ce q9 u2 U H1 locs1 hU hvm hw hB hz1 hk1 hS1 h7 h8 h9 => ?_) (fun r2 u2 U H1 locs1 hU hvm hw hB hz1 hk1 hS1 => ?_)
  · exact absurd rfl hB.1
  · obtain ⟨-, rfl, rfl⟩ := hw
    obtain ⟨b, hB⟩ := hB
    exact kk b H1 locs1 (by rw [← hU]; exact hB) hS1
end XL
