/-! L, part e: rows of the law's walk -/
def sv (xs : Nat → Int32) (j : Int) : Int := (xs j.toNat).toInt
section XL
variable {p : Program} {l : Launch} {e : Env} {R : Room} {s : State} {m : MethodId} {args : Array Value} {below : List Frame} {meth : Method} {c : Code} {H : Heap} {locs : List Loc} {cells slots : Nat} {Q : State → Prop}
variable {cc : ByteArray} {pc : Nat} {ls : Array Slot} {rest : List Value} {t : gP} {u : uS} {ws : List Cond} {own : String} {nL : Nat}
theorem x_sld (X : xC t p s m args c cc ws own nL) {b L : Nat} {xs : Nat → Int32} (hX : va_X b L xs s s.heap) (hbl : b < s.heap.size) (ht : t.2.2.2 = s.heap.size) (hS : va_S (gA t) s.heap H locs) {j : Int} (hj : 0 ≤ j ∧ j < (L : Int)) (hL : L ≤ 260) (hdg : decode cc pc = .ok (.iaload, 1))
    (kk : W p l e R s m args below meth c H locs cells slots Q (F0 m (pc + 1) ls (.int (iI (sv xs j)) :: rest))) : W p l e R s m args below meth c H locs cells slots Q (F0 m pc ls (.int (iI j) :: .ref b :: rest)) := by
  refine va_sld X.1.1 X.1.2.1 hX hbl (fun h => by unfold gA at h; rw [ht] at h; omega) hS (iI_in hj (by omega)) hdg ?_
  rw [iI_cl ⟨by omega, by omega⟩]
  unfold sv at kk
  rw [iI_x] at kk
  exact kk
theorem x_slen (X : xC t p s m args c cc ws own nL) {b L : Nat} {xs : Nat → Int32} (hX : va_X b L xs s s.heap) (hbl : b < s.heap.size) (ht : t.2.2.2 = s.heap.size) (hS : va_S (gA t) s.heap H locs) (hdg : decode cc pc = .ok (.arraylength, 1))
    (kk : W p l e R s m args below meth c H locs cells slots Q (F0 m (pc + 1) ls (.int (iI (L : Int)) :: rest))) : W p l e R s m args below meth c H locs cells slots Q (F0 m pc ls (.ref b :: rest)) := by
  refine va_slen X.1.1 X.1.2.1 hX hbl (fun h => by unfold gA at h; rw [ht] at h; omega) hS hdg ?_
  rw [iI_nat]
  exact kk
end XL
