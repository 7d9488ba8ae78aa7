/-! X, part n: constructors: pictures as lists, the caller's before, the fresh cell behind -/
def cB (t : gP) (w : va_W) (sz : Nat) : State → Prop := fun U => gS t U U.heap ∧ va_K t.1 vwCl (gT t) U ∧ (va_P t.1 vwCl w U.heap ∧ va_D (gA t) w) ∧ U.heap.size = sz ∧ t.2.2.2 ≤ sz
abbrev cQ (t : gP) (w : va_W) (sz : Nat) {S : Type} (post : S → va_W) : Array Value → State → Outcome → State → Prop := va_Qv (fun (_ : S) => True) (fun as U => va_P t.1 vwCl (post as) U.heap ∧ va_D (va_A w sz) (post as)) (va_A w sz)
def cM (l : Launch) (y : MethodName) (ws : List Cond) (rm : Room) (t : gP) (As : List Value) (w : va_W) {S : Type} (post : S → va_W) (mc ms : Nat) : Prop := ∀ sz, Met l y ws rm (va_Pc As (cB t w sz)) (cQ t w sz post) mc ms (va_A w sz)
theorem cB.calling {t : gP} {w : va_W} {sz : Nat} (a : Array Value) (U : State) (g : JFrame) (mk : MethodId) (h : cB t w sz U) : cB t w sz (U.calling g mk a) :=
  ⟨h.1.calling, va_K.moved (Vm.Alike.refl _) h.2.1, h.2.2⟩
theorem c_blind {t : gP} {As : List Value} {w : va_W} {sz : Nat} : FrameBlind (va_Pc As (cB t w sz)) := fun a U g mk q => ⟨q.1, q.2.calling a U g mk⟩
theorem va_nd_range : ∀ n : Nat, va_nd (List.range n) = true := by
  have h : ∀ (l : List Nat), l.Nodup → va_nd l = true := by
    intro l
    induction l with
    | nil => intro _; rfl
    | cons a l ih =>
      intro h
      have h2 := List.nodup_cons.mp h
      show (decide (a ∉ l) && va_nd l) = true
      rw [Bool.and_eq_true, decide_eq_true_eq]
      exact ⟨h2.1, ih h2.2⟩
  exact fun n => h _ List.nodup_range
section CA
variable {p : Program} {l : Launch} {e : Env} {R : Room} {s : State} {m : MethodId} {args : Array Value} {below : List Frame} {meth : Method} {c : Code} {H : Heap} {locs : List Loc} {cells slots mc ms : Nat} {Q : State → Prop}
variable {cc : ByteArray} {pc : Nat} {ls : Array Slot} {rest st0 : List Value} {t : gP} {ws : List Cond} {own : String} {nL : Nat} {a : Array Value} {A : Nat → Prop}
/-- behind a constructor of a fresh cell -/
theorem x_kc {w : va_W} {x : Nat × va_E} {S : Type} {post : S → va_W} (hP : va_P t.1 vwCl (w ++ [x]) H) (hD : va_D A (w ++ [x])) (hS : va_S A s.heap H locs) (hA : ∀ q, s.heap.size ≤ q → A q)
    (hr : va_Run p l e R s m args below meth c H locs cells slots mc ms (F0 m pc ls st0) rest (cQ t [x] H.size post a) (va_A [x] H.size))
    (kk : ∀ (as : S) (H1 : Heap) (locs1 : List Loc), va_P t.1 vwCl (w ++ post as) H1 → va_D A (w ++ post as) → va_S A s.heap H1 locs1 → W p l e R s m args below meth c H1 locs1 (cells + mc) (slots + ms) Q (F0 m (pc + 3) ls rest)) : W p l e R s m args below meth c H locs cells slots Q (F0 m pc ls st0) := by
  have hlast : (w ++ [x])[w.length]? = some x := by
    rw [List.getElem?_append_right (Nat.le_refl _), Nat.sub_self]; rfl
  have hF : ∀ q, va_A [x] H.size q → A q := fun q hq => by
    rcases hq with ⟨k, e2, hk⟩ | hq
    · have h1 : k = 0 := by
        have h8 := (List.getElem?_eq_some_iff.mp hk).1
        simp only [List.length_singleton] at h8; omega
      subst h1
      have h2 : x = (q, e2) := Option.some.inj hk
      have h3 := hD.2 _ _ hlast
      rw [h2] at h3; exact h3
    · exact hA q (Nat.le_trans hS.1 hq)
  refine va_callv hr hS (fun q _ hq => hF q hq) hF (fun as U H1 locs1 hU hvm hw hB hz1 hk1 hS1 => ?_)
  obtain ⟨hP1, hD1⟩ := hB
  rw [hU] at hP1
  have hj := va_join (wc := [x]) (wr := w) hP hD [w.length] (List.range w.length) (by rw [List.map_singleton, hlast]; rfl) (by
    apply List.ext_getElem?
    intro i
    rw [List.getElem?_map, List.getElem?_map]
    by_cases hi : i < w.length
    · rw [List.getElem?_range hi, List.getElem?_eq_getElem hi]
      show some ((w ++ [x])[i]?) = some (some w[i])
      rw [List.getElem?_append_left hi, List.getElem?_eq_getElem hi]
    · rw [List.getElem?_eq_none (by rw [List.length_range]; omega), List.getElem?_eq_none (by omega)]
      rfl) (va_nd_range _) (fun i hi hc => by
        have h1 := List.mem_range.mp hi
        rw [List.mem_singleton] at hc
        omega) hk1 hF hP1 hD1
  exact kk as H1 locs1 hj.1 hj.2 hS1
theorem x_cpre (X : xC t p s m args c cc ws own nL) {x : Nat × va_E} {w : va_W} (hP : va_P t.1 vwCl (w ++ [x]) H) (hD : va_D A (w ++ [x])) (hS : va_S A s.heap H locs) (hAg : ∀ q, A q → gA t q) {As : List Value} : ∀ U : State, U.heap = H → s.WarmedH U.vm → va_Pc As (cB t [x] H.size) As.toArray U := fun U hU hW => by
  have hS2 : va_S (gA t) s.heap H locs := ⟨hS.1, fun q h1 h2 => hS.2.1 q h1 (fun h3 => h2 (hAg q h3)), fun l hl => hAg _ (hS.2.2 l hl)⟩
  have hlast : (w ++ [x])[w.length]? = some x := by
    rw [List.getElem?_append_right (Nat.le_refl _), Nat.sub_self]; rfl
  have h0 : ∀ (k : Nat) (z : Nat × va_E), [x][k]? = some z → k = 0 ∧ z = x := fun k z hz => by
    have h8 := (List.getElem?_eq_some_iff.mp hz).1
    have h9 : k = 0 := by simp only [List.length_singleton] at h8; omega
    subst h9
    exact ⟨rfl, (Option.some.inj hz).symm⟩
  refine ⟨rfl, X.2.2.1.to hS2 hU hW, va_K.moved hW.alike X.2.1, ⟨fun k z hz => ?_, fun i j y z hy hz _ => ?_, fun k z hz => ?_⟩, by rw [hU], Nat.le_trans X.2.2.2 hS.1⟩
  · obtain ⟨-, rfl⟩ := h0 k z hz
    rw [hU]; exact hP _ _ hlast
  · rw [(h0 i y hy).1, (h0 j z hz).1]
  · obtain ⟨-, rfl⟩ := h0 k z hz
    exact hAg _ (hD.2 _ _ hlast)
theorem x_cput (X : xC t p s m args c cc ws own nL) {w : va_W} {q ci : Nat} {fs : List Value} (hP : va_P t.1 vwCl ((q, .inr (ci, fs)) :: w) H) (hD : va_D A ((q, .inr (ci, fs)) :: w)) (hS : va_S A s.heap H locs) {C : String} {T : u_T} {N idx : Nat} (ty0 : Nat → FieldType) (hty : ∀ k, k < N → parseFieldDescriptor (T k).2.2.1 = some (ty0 k)) (hnm : ∀ a, a < N → ∀ b, b < N → a ≠ b → (T a).2.1 ≠ (T b).2.1) (inC : ∀ w ∈ u_ws C T N, w ∈ ws) (hc : vwCl[ci]? = some (C, T, N)) (j : Nat) (hj : j < N) (hw : Cond.fieldLink own idx (T j).1 (T j).2.1 (T j).2.2.1 ∈ ws) (hfin : (T j).2.2.2 = false) {ty : FieldType} {v : Value} (hd : parseFieldDescriptor (T j).2.2.1 = some ty) (hn : narrow ty v = v) (hfit : fits ty v = true) (hl : j < fs.length) (hdg : decode cc pc = .ok (.putfield idx, 3))
    (kk : ∀ (H1 : Heap) (locs1 : List Loc), va_P t.1 vwCl ((q, .inr (ci, fs.set j v)) :: w) H1 → va_D A ((q, .inr (ci, fs.set j v)) :: w) → va_S A s.heap H1 locs1 → W p l e R s m args below meth c H1 locs1 cells slots Q (F0 m (pc + 3) ls rest)) : W p l e R s m args below meth c H locs cells slots Q (F0 m pc ls (v :: .ref q :: rest)) :=
  va_put (D := t.1) (cl := vwCl) (C := C) (T := T) (N := N) X.1.1 X.1.2.1 X.1.2.2.2.2 inC ty0 hty hnm X.1.2.2.2.1 X.2.1 hP hD hS 0 rfl hc j hj (X.1.2.2.2.2 _ hw) (fun _ h9 => h9) hfin hd hn hfit hl hdg (fun H1 locs1 hP1 hD1 hS1 => kk H1 locs1 hP1 hD1 hS1)
theorem x_cputF (X : xC t p s m args c cc ws own nL) (hm : meth.name = "<init>") {w : va_W} {q ci : Nat} {fs : List Value} (hP : va_P t.1 vwCl ((q, .inr (ci, fs)) :: w) H) (hD : va_D A ((q, .inr (ci, fs)) :: w)) (hS : va_S A s.heap H locs) {C : String} {T : u_T} {N idx : Nat} (ty0 : Nat → FieldType) (hty : ∀ k, k < N → parseFieldDescriptor (T k).2.2.1 = some (ty0 k)) (hnm : ∀ a, a < N → ∀ b, b < N → a ≠ b → (T a).2.1 ≠ (T b).2.1) (inC : ∀ w ∈ u_ws C T N, w ∈ ws) (hc : vwCl[ci]? = some (C, T, N)) (j : Nat) (hj : j < N) (hw : Cond.fieldLink own idx (T j).1 (T j).2.1 (T j).2.2.1 ∈ ws) (hfin : (T j).2.2.2 = true) (hdecl : (T j).1 = own) {ty : FieldType} {v : Value} (hd : parseFieldDescriptor (T j).2.2.1 = some ty) (hn : narrow ty v = v) (hfit : fits ty v = true) (hl : j < fs.length) (hdg : decode cc pc = .ok (.putfield idx, 3))
    (kk : ∀ (H1 : Heap) (locs1 : List Loc), va_P t.1 vwCl ((q, .inr (ci, fs.set j v)) :: w) H1 → va_D A ((q, .inr (ci, fs.set j v)) :: w) → va_S A s.heap H1 locs1 → W p l e R s m args below meth c H1 locs1 cells slots Q (F0 m (pc + 3) ls rest)) : W p l e R s m args below meth c H locs cells slots Q (F0 m pc ls (v :: .ref q :: rest)) :=
  va_putF (D := t.1) (cl := vwCl) (C := C) (T := T) (N := N) X.1.1 X.1.2.1 X.1.2.2.2.2 inC ty0 hty hnm X.1.2.2.2.1 X.2.1 hP hD hS 0 rfl hc j hj (X.1.2.2.2.2 _ hw) (fun _ h9 => h9) hfin hm hdecl hd hn hfit hl hdg (fun H1 locs1 hP1 hD1 hS1 => kk H1 locs1 hP1 hD1 hS1)
theorem x_cnewi (X : xC t p s m args c cc ws own nL) {w : va_W} (hP : va_P t.1 vwCl w H) (hD : va_D A w) (hS : va_S A s.heap H locs) (hA : ∀ q, s.heap.size ≤ q → A q) {n : Int} {N' : Nat} (hw : Cond.arrayClass .int ∈ ws) (hN : n = (N' : Int) ∧ N' < 100000) (hcells : cells + 1 ≤ R.cells) (hslots : slots + N' ≤ R.slots) (hdg : decode cc pc = .ok (.newarray .int, 2))
    (kk : ∀ (q : Nat) (H1 : Heap), va_P t.1 vwCl (w ++ [(q, .inl (t.2.1 100, (N', .inl (fun _ => 0))))]) H1 → va_D A (w ++ [(q, .inl (t.2.1 100, (N', .inl (fun _ => 0))))]) → va_S A s.heap H1 locs → W p l e R s m args below meth c H1 locs (cells + 1) (slots + N') Q (F0 m (pc + 2) ls (.ref q :: rest))) : W p l e R s m args below meth c H locs cells slots Q (F0 m pc ls (.int (iI n) :: rest)) := by
  have hx : InR n := ⟨by omega, by omega⟩
  refine va_newa (D := t.1) (cl := vwCl) (atype := .int) (ty := .int) (N' := N') (a0 := (N', .inl (fun _ => 0))) X.1.1 X.1.2.1 (X.1.2.2.2.2 _ hw) rfl X.2.1 hP hD hS hA (fun cA => rfl) (fun q => by have := (iI_lt (b := 0) hx (by decide)).mp q; omega) ((iI_cl hx).trans (by omega)) (by show N' * 4 ≤ _; omega) hcells hslots hdg (fun q cA H1 hK hP1 hD1 hS1 => ?_)
  have hcA : cA = t.2.1 100 := by
    have q1 := (hK.2 7 (cA, .int) rfl).2
    have q2 := (hK.2 0 (t.2.1 100, .int) rfl).2
    exact Option.some.inj (Eq.trans (Eq.symm q1) q2)
  subst hcA
  exact kk q H1 hP1 hD1 hS1
theorem x_cobj (X : xC t p s m args c cc ws own nL) {idx a : Nat} (w1 : Cond.methodLink own idx Lib.objectInit ∈ ws) (w2 : Cond.instanceMethod Lib.objectInit ∈ ws) (w3 : Cond.code Lib.objectInit ⟨#[0xb1]⟩ 1 none ∈ ws) (hl : ls.size = nL) (hd : decode cc pc = .ok (.invokespecial idx, 3)) (hframes : 1 ≤ R.frames) (hlocals : 30 ≤ R.locals) (hW : (rest.map fun v => v.category).sum ≤ 8)
    (kk : W p l e R s m args below meth c H locs cells slots Q (F0 m (pc + 3) ls rest)) : W p l e R s m args below meth c H locs cells slots Q (F0 m pc ls (.ref a :: rest)) :=
  W.objInit (g := F0 m pc ls (.ref a :: rest)) X.1.1 X.1.2.1 X.1.2.2.2.1 (X.1.2.2.2.2 _ w1) (X.1.2.2.2.2 _ w2) (X.1.2.2.2.2 _ w3) rfl (hl.trans X.1.2.2.1.symm) rfl hd hframes (by show 2 * 0 + _ + 12 ≤ _; omega) kk
end CA
/-- a constructor, entered -/
theorem x_ofC {l : Launch} {y : MethodName} {ws ws' : List Cond} {rm : Room} {t : gP} {As : List Value} {w : va_W} {S : Type} {post : S → va_W} {mc ms : Nat} {cc : ByteArray} {maxL : Nat} {own : String} (hy : plainName y.cls = true) (hw : ws = Cond.code y cc maxL none :: ws') (ho : y.cls = own) (hL : (lg_sl As).length ≤ maxL)
    (body : ∀ p e s m args below meth c (Q : State → Prop), xC t p s m args c cc ws own maxL → meth.name = y.name → va_P t.1 vwCl w s.heap → va_D (va_A w s.heap.size) w → (∀ q, va_A w s.heap.size q → gA t q) → va_S (va_A w s.heap.size) s.heap s.heap [] →
      (∀ (as : S) (H : Heap) (locs : List Loc) (ls : Array Slot) (pc k n : Nat), k ≤ mc → n ≤ ms → decode cc pc = .ok (.return_, 1) → va_P t.1 vwCl (post as) H → va_D (va_A w s.heap.size) (post as) → va_S (va_A w s.heap.size) s.heap H locs → W p l e rm s m args below meth c H locs k n Q (F0 m pc ls [])) →
      ∀ ls, lv_has ls maxL (lv_args 0 As) → W p l e rm s m args below meth c s.heap [] 0 0 Q (F0 m 0 ls [])) : cM l y ws rm t As w post mc ms := by
  intro sz
  refine Met.ofW (cc := cc) (maxL := maxL) (ret := none) hy hw ?_
  intro p e s m args below meth c s₁ B hml hv
  obtain ⟨rfl, hB1, hB2, ⟨hB3, hB4⟩, hB5, hB6⟩ := hv
  have hts := atoms_spec (ws := ws) B.pre
  have hown : s.vm.findClass y.cls = some m.cls := findClass_of_methodNamed B.named
  rw [ho] at hown
  have hl := lv_entry As (n := maxL) hL
  rw [lg_entry_eq]
  subst hB5
  have X : xC t p s m As.toArray c cc ws own maxL := ⟨⟨B.exec, B.bytes, hml, hown, hts⟩, hB2, hB1, hB6⟩
  refine body p e s m As.toArray below meth c _ X (name_of_methodNamed B.named B.method).1 hB3 hB4.self (fun q hq => ?_) va_S.rf (fun as H locs ls pc k n hk hn hd hP hD hS => W.widen (k := mc) (n := ms) hk hn ?_) _ hl
  · rcases hq with ⟨k, e2, hk⟩ | hq
    · exact hB4.2 k _ hk
    · exact Nat.le_trans hB6 hq
  · exact W.vret X.1.1 X.1.2.1 B.returns (fun T hT hW => ⟨⟨as, rfl, trivial, (by rw [hT]; exact hP), hD⟩, hS.F hT⟩) hS.2.2 hd B.notSynchronized
