/-! X, part r: the memory's constructor: rows of Situations -/
def sitW (t : gP) (as : Nat → Nat) : va_W := [(as 0, .inr (11, [.int 0, .int 0, .int 0, .ref (as 1), .ref (as 2), .ref (as 3), .ref (as 4), .ref (as 5), .ref (as 6), .ref (as 7), .ref (as 8), .ref (as 9), .ref (as 10), .ref (as 11), .ref (as 12), .ref (as 13), .ref (as 14)])), (as 1, .inl (t.2.1 100, (8, .inl (fun _ => 0)))), (as 2, .inl (t.2.1 100, (792, .inl (fun _ => 0)))), (as 3, .inl (t.2.1 100, (8, .inl (fun _ => 0)))), (as 4, .inl (t.2.1 100, (8, .inl (fun _ => 0)))), (as 5, .inl (t.2.1 100, (8, .inl (fun _ => 0)))), (as 6, .inl (t.2.1 100, (8, .inl (fun _ => 0)))), (as 7, .inl (t.2.1 100, (8, .inl (fun _ => 0)))), (as 8, .inl (t.2.1 100, (60, .inl (fun _ => 0)))), (as 9, .inl (t.2.1 100, (60, .inl (fun _ => 0)))), (as 10, .inl (t.2.1 100, (60, .inl (fun _ => 0)))), (as 11, .inl (t.2.1 100, (60, .inl (fun _ => 0)))), (as 12, .inl (t.2.1 100, (60, .inl (fun _ => 0)))), (as 13, .inl (t.2.1 100, (20, .inl (fun _ => 0)))), (as 14, .inl (t.2.1 100, (20, .inl (fun _ => 0))))]
def sitsW (t : gP) (as : Nat → Nat → Nat) : Nat → va_W
  | 0 => []
  | n + 1 => sitsW t as n ++ sitW t (as n)
theorem sitsW_eq {t : gP} {as bs : Nat → Nat → Nat} : ∀ {n : Nat}, (∀ j, j < n → as j = bs j) → sitsW t as n = sitsW t bs n
  | 0, _ => rfl
  | n + 1, h => by
    show sitsW t as n ++ sitW t (as n) = sitsW t bs n ++ sitW t (bs n)
    rw [sitsW_eq (fun j hj => h j (Nat.lt_succ_of_lt hj)), h n (Nat.lt_succ_self n)]
theorem sitsW_len {t : gP} {as : Nat → Nat → Nat} : ∀ n : Nat, (sitsW t as n).length = 15 * n
  | 0 => rfl
  | n + 1 => by
    show (sitsW t as n ++ sitW t (as n)).length = _
    rw [List.length_append, sitsW_len n]
    show 15 * n + 15 = _
    omega
def w4 (t : gP) (a o0 o1 o2 : Nat) (as : Nat → Nat → Nat) (n k : Nat) : va_W := (a, .inr (8, [.ref o0, .ref o1, .ref o2, .int 0, .int 0])) :: (o0, .inl (t.2.1 104, (10, .inr (.inr (.inr (.inr (fun j => if j < n then some (as j 0) else none))))))) :: (o1, .inl (t.2.1 104, (2, .inr (.inr (.inr (.inr (fun j => if j < k then some (as (10 + j) 0) else none))))))) :: (o2, .inl (t.2.1 101, (2, .inl (fun _ => 0)))) :: sitsW t as (n + k)
theorem w4_len {t : gP} {a o0 o1 o2 n k : Nat} {as : Nat → Nat → Nat} : (w4 t a o0 o1 o2 as n k).length = 4 + 15 * (n + k) := by
  show (sitsW t as (n + k)).length + 1 + 1 + 1 + 1 = _
  rw [sitsW_len]; omega
/-- a new one, at the end -/
def asU (as : Nat → Nat → Nat) (n : Nat) (b : Nat → Nat) : Nat → Nat → Nat := fun j => if j = n then b else as j
theorem asU_s {as : Nat → Nat → Nat} {n : Nat} {b : Nat → Nat} : asU as n b n = b := if_pos rfl
theorem asU_o {as : Nat → Nat → Nat} {n j : Nat} {b : Nat → Nat} (h : j ≠ n) : asU as n b j = as j := if_neg h
theorem sitsW_up {t : gP} {as : Nat → Nat → Nat} {n : Nat} {b : Nat → Nat} : sitsW t as n ++ sitW t b = sitsW t (asU as n b) (n + 1) := by
  show _ = sitsW t (asU as n b) n ++ sitW t (asU as n b n)
  rw [asU_s, sitsW_eq (bs := as) (fun j hj => asU_o (Nat.ne_of_lt hj))]
theorem w4_a {t : gP} {a o0 o1 o2 n : Nat} {as : Nat → Nat → Nat} {b : Nat → Nat} : (w4 t a o0 o1 o2 as n 0 ++ sitW t b).set 1 (o0, .inl (t.2.1 104, (10, .inr (.inr (.inr (.inr (va_up (fun j => if j < n then some (as j 0) else none) n (some (b 0))))))))) = w4 t a o0 o1 o2 (asU as n b) (n + 1) 0 := by
  have h1 : va_up (fun j => if j < n then some (as j 0) else none) n (some (b 0)) = fun j => if j < n + 1 then some (asU as n b j 0) else none := by
    funext j
    unfold va_up
    by_cases h : j = n
    · subst h; rw [if_pos rfl, if_pos (Nat.lt_succ_self j), asU_s]
    · rw [if_neg h, asU_o h]
      dsimp only
      by_cases h2 : j < n
      · rw [if_pos h2, if_pos (by omega)]
      · rw [if_neg h2, if_neg (by omega)]
  rw [h1]
  show _ :: _ :: _ :: _ :: (sitsW t as n ++ sitW t b) = _ :: _ :: _ :: _ :: sitsW t (asU as n b) (n + 1)
  rw [sitsW_up]
  rfl
theorem w4_b {t : gP} {a o0 o1 o2 k : Nat} {as : Nat → Nat → Nat} {b : Nat → Nat} : (w4 t a o0 o1 o2 as 10 k ++ sitW t b).set 2 (o1, .inl (t.2.1 104, (2, .inr (.inr (.inr (.inr (va_up (fun j => if j < k then some (as (10 + j) 0) else none) k (some (b 0))))))))) = w4 t a o0 o1 o2 (asU as (10 + k) b) 10 (k + 1) := by
  have h1 : va_up (fun j => if j < k then some (as (10 + j) 0) else none) k (some (b 0)) = fun j => if j < k + 1 then some (asU as (10 + k) b (10 + j) 0) else none := by
    funext j
    unfold va_up
    by_cases h : j = k
    · subst h; rw [if_pos rfl, if_pos (Nat.lt_succ_self j), asU_s]
    · rw [if_neg h, asU_o (by omega)]
      dsimp only
      by_cases h2 : j < k
      · rw [if_pos h2, if_pos (by omega)]
      · rw [if_neg h2, if_neg (by omega)]
  have h2 : (fun j => if j < 10 then some (asU as (10 + k) b j 0) else none) = fun j => if j < 10 then some (as j 0) else none := by
    funext j
    by_cases h : j < 10
    · rw [if_pos h, if_pos h, asU_o (by omega)]
    · rw [if_neg h, if_neg h]
  rw [h1]
  unfold w4
  rw [h2]
  show _ :: _ :: _ :: _ :: (sitsW t as (10 + k) ++ sitW t b) = _ :: _ :: _ :: _ :: sitsW t (asU as (10 + k) b) (10 + k + 1)
  rw [sitsW_up]
/-- the precondition with the rows' class -/
def cBo (t : gP) (w : va_W) (sz : Nat) : State → Prop := fun U => cB t w sz U ∧ va_AO "TriggerNetwork$Situation" U
def cMo (l : Launch) (y : MethodName) (ws : List Cond) (rm : Room) (t : gP) (As : List Value) (w : va_W) {S : Type} (post : S → va_W) (mc ms : Nat) : Prop := ∀ sz, Met l y ws rm (va_Pc As (cBo t w sz)) (cQ t w sz post) mc ms (va_A w sz)
theorem cBo.calling {t : gP} {w : va_W} {sz : Nat} (a : Array Value) (U : State) (g : JFrame) (mk : MethodId) (h : cBo t w sz U) : cBo t w sz (U.calling g mk a) :=
  ⟨h.1.calling a U g mk, va_AO.moved (Vm.Alike.refl _) h.2⟩
theorem c_blindo {t : gP} {As : List Value} {w : va_W} {sz : Nat} : FrameBlind (va_Pc As (cBo t w sz)) := fun a U g mk q => ⟨q.1, q.2.calling a U g mk⟩
theorem x_ofCo {l : Launch} {y : MethodName} {ws ws' : List Cond} {rm : Room} {t : gP} {As : List Value} {w : va_W} {S : Type} {post : S → va_W} {mc ms : Nat} {cc : ByteArray} {maxL : Nat} {own : String} (hy : plainName y.cls = true) (hw : ws = Cond.code y cc maxL none :: ws') (ho : y.cls = own) (hL : (lg_sl As).length ≤ maxL)
    (body : ∀ p e s m args below meth c (Q : State → Prop), xC t p s m args c cc ws own maxL → meth.name = y.name → va_AO "TriggerNetwork$Situation" s → va_P t.1 vwCl w s.heap → va_D (va_A w s.heap.size) w → (∀ q, va_A w s.heap.size q → gA t q) → va_S (va_A w s.heap.size) s.heap s.heap [] →
      (∀ (as : S) (H : Heap) (locs : List Loc) (ls : Array Slot) (pc k n : Nat), k ≤ mc → n ≤ ms → decode cc pc = .ok (.return_, 1) → va_P t.1 vwCl (post as) H → va_D (va_A w s.heap.size) (post as) → va_S (va_A w s.heap.size) s.heap H locs → W p l e rm s m args below meth c H locs k n Q (F0 m pc ls [])) →
      ∀ ls, lv_has ls maxL (lv_args 0 As) → W p l e rm s m args below meth c s.heap [] 0 0 Q (F0 m 0 ls [])) : cMo l y ws rm t As w post mc ms := by
  intro sz
  refine Met.ofW (cc := cc) (maxL := maxL) (ret := none) hy hw ?_
  intro p e s m args below meth c s₁ B hml hv
  obtain ⟨rfl, ⟨hB1, hB2, ⟨hB3, hB4⟩, hB5, hB6⟩, hAO⟩ := hv
  have hts := atoms_spec (ws := ws) B.pre
  have hown : s.vm.findClass y.cls = some m.cls := findClass_of_methodNamed B.named
  rw [ho] at hown
  have hl := lv_entry As (n := maxL) hL
  rw [lg_entry_eq]
  subst hB5
  have X : xC t p s m As.toArray c cc ws own maxL := ⟨⟨B.exec, B.bytes, hml, hown, hts⟩, hB2, hB1, hB6⟩
  refine body p e s m As.toArray below meth c _ X (name_of_methodNamed B.named B.method).1 hAO hB3 hB4.self (fun q hq => ?_) va_S.rf (fun as H locs ls pc k n hk hn hd hP hD hS => W.widen (k := mc) (n := ms) hk hn ?_) _ hl
  · rcases hq with ⟨k, e2, hk⟩ | hq
    · exact hB4.2 k _ hk
    · exact Nat.le_trans hB6 hq
  · exact W.vret X.1.1 X.1.2.1 B.returns (fun T hT hW => ⟨⟨as, rfl, trivial, (by rw [hT]; exact hP), hD⟩, hS.F hT⟩) hS.2.2 hd B.notSynchronized
section CB5
variable {p : Program} {l : Launch} {e : Env} {R : Room} {s : State} {m : MethodId} {args : Array Value} {below : List Frame} {meth : Method} {c : Code} {H : Heap} {locs : List Loc} {cells slots mc ms : Nat} {Q : State → Prop}
variable {cc : ByteArray} {pc : Nat} {ls : Array Slot} {rest st0 : List Value} {t : gP} {ws : List Cond} {own : String} {nL : Nat} {a : Array Value} {A : Nat → Prop}
theorem x_cpreo (X : xC t p s m args c cc ws own nL) (hAO : va_AO "TriggerNetwork$Situation" s) {x : Nat × va_E} {w : va_W} (hP : va_P t.1 vwCl (w ++ [x]) H) (hD : va_D A (w ++ [x])) (hS : va_S A s.heap H locs) (hAg : ∀ q, A q → gA t q) {As : List Value} : ∀ U : State, U.heap = H → s.WarmedH U.vm → va_Pc As (cBo t [x] H.size) As.toArray U := fun U hU hW =>
  ⟨rfl, (x_cpre X hP hD hS hAg (As := As) U hU hW).2, va_AO.moved hW.alike hAO⟩
theorem x_cnewz (X : xC t p s m args c cc ws own nL) {w : va_W} (hP : va_P t.1 vwCl w H) (hD : va_D A w) (hS : va_S A s.heap H locs) (hA : ∀ q, s.heap.size ≤ q → A q) {n : Int} {N' : Nat} (hw : Cond.arrayClass .boolean ∈ ws) (hN : n = (N' : Int) ∧ N' < 100000) (hcells : cells + 1 ≤ R.cells) (hslots : slots + N' ≤ R.slots) (hdg : decode cc pc = .ok (.newarray .boolean, 2))
    (kk : ∀ (q : Nat) (H1 : Heap), va_P t.1 vwCl (w ++ [(q, .inl (t.2.1 101, (N', .inl (fun _ => 0))))]) H1 → va_D A (w ++ [(q, .inl (t.2.1 101, (N', .inl (fun _ => 0))))]) → va_S A s.heap H1 locs → W p l e R s m args below meth c H1 locs (cells + 1) (slots + N') Q (F0 m (pc + 2) ls (.ref q :: rest))) : W p l e R s m args below meth c H locs cells slots Q (F0 m pc ls (.int (iI n) :: rest)) := by
  have hx : InR n := ⟨by omega, by omega⟩
  refine va_newa (D := t.1) (cl := vwCl) (atype := .boolean) (ty := .boolean) (N' := N') (a0 := (N', .inl (fun _ => 0))) X.1.1 X.1.2.1 (X.1.2.2.2.2 _ hw) rfl X.2.1 hP hD hS hA (fun cA => rfl) (fun q => by have := (iI_lt (b := 0) hx (by decide)).mp q; omega) ((iI_cl hx).trans (by omega)) (by show N' * 1 ≤ _; omega) hcells hslots hdg (fun q cA H1 hK hP1 hD1 hS1 => ?_)
  have hcA : cA = t.2.1 101 := by
    have q1 := (hK.2 7 (cA, .boolean) rfl).2
    have q2 := (hK.2 1 (t.2.1 101, .boolean) rfl).2
    exact Option.some.inj (Eq.trans (Eq.symm q1) q2)
  subst hcA
  exact kk q H1 hP1 hD1 hS1
theorem x_cnewq (X : xC t p s m args c cc ws own nL) (hAO : va_AO "TriggerNetwork$Situation" s) {w : va_W} (hP : va_P t.1 vwCl w H) (hD : va_D A w) (hS : va_S A s.heap H locs) (hA : ∀ q, s.heap.size ≤ q → A q) {n : Int} {N' idx : Nat} (hw : Cond.classLink own idx "TriggerNetwork$Situation" ∈ ws) (hN : n = (N' : Int) ∧ N' < 100000) (hcells : cells + 1 ≤ R.cells) (hslots : slots + N' ≤ R.slots) (hdg : decode cc pc = .ok (.anewarray idx, 3))
    (kk : ∀ (q : Nat) (H1 : Heap), va_P t.1 vwCl (w ++ [(q, .inl (t.2.1 104, (N', .inr (.inr (.inr (.inr (fun _ => none)))))))]) H1 → va_D A (w ++ [(q, .inl (t.2.1 104, (N', .inr (.inr (.inr (.inr (fun _ => none)))))))]) → va_S A s.heap H1 locs → W p l e R s m args below meth c H1 locs (cells + 1) (slots + N') Q (F0 m (pc + 3) ls (.ref q :: rest))) : W p l e R s m args below meth c H locs cells slots Q (F0 m pc ls (.int (iI n) :: rest)) := by
  have hx : InR n := ⟨by omega, by omega⟩
  refine va_newq (D := t.1) (cl := vwCl) (N' := N') X.1.1 X.1.2.1 X.1.2.2.2.1 (X.1.2.2.2.2 _ hw) hAO X.2.1 hP hD hS hA (fun q => by have := (iI_lt (b := 0) hx (by decide)).mp q; omega) ((iI_cl hx).trans (by omega)) (by omega) hcells hslots hdg (fun q cA H1 hK hP1 hD1 hS1 => ?_)
  have hcA : cA = t.2.1 104 := by
    have q1 := (hK.2 7 (cA, .object "TriggerNetwork$Situation") rfl).2
    have q2 := (hK.2 4 (t.2.1 104, .object "TriggerNetwork$Situation") rfl).2
    obtain ⟨_, _, _, _, _, h1⟩ := q1
    obtain ⟨_, _, _, _, _, h2⟩ := q2
    exact Option.some.inj (Eq.trans (Eq.symm h1) h2)
  subst hcA
  exact kk q H1 hP1 hD1 hS1
abbrev rX4_init : Room := { frames := 2, cells := 183, slots := 14378, locals := 60 }
set_option maxRecDepth 100000 in
set_option maxHeartbeats 8000000 in
theorem l_X4_a (X : xC t p s m args c cX4_init wsX4_init RX4 2) (hA : ∀ q, s.heap.size ≤ q → A q) (hAg : ∀ q, A q → gA t q) (a o0 o1 o2 : Nat) (kk : ∀ (as : Nat → Nat → Nat) (H : Heap) (locs : List Loc) (ls : Array Slot), va_P t.1 vwCl (w4 t a o0 o1 o2 as 10 0) H → va_D A (w4 t a o0 o1 o2 as 10 0) → va_S A s.heap H locs → lv_has ls 2 [(1, .int (iI 10)), (0, .ref a)] → W p l e rX4_init s m args below meth c H locs (3 + 15 * 10) (14 + 1197 * 10) Q (F0 m 65 ls [])) :
    ∀ (k i : Nat) (as : Nat → Nat → Nat) (H : Heap) (locs : List Loc) (ls : Array Slot), i + k = 10 → va_P t.1 vwCl (w4 t a o0 o1 o2 as i 0) H → va_D A (w4 t a o0 o1 o2 as i 0) → va_S A s.heap H locs → lv_has ls 2 [(1, .int (iI (i : Int))), (0, .ref a)] → W p l e rX4_init s m args below meth c H locs (3 + 15 * i) (14 + 1197 * i) Q (F0 m 40 ls []) := by
  have iX4 : ∀ w ∈ wsX40, w ∈ wsX4_init := by decide +kernel
  have iX7 : ∀ w ∈ wsX70, w ∈ wsX4_init := by decide +kernel
  intro k
  induction k with
  | zero =>
    intro i as H locs ls hi hP hD hS hl
    have hi : i = 10 := by omega
    subst hi
    refine lv_iload_n X.1.1 X.1.2.1 dX4_init_40 rfl (lv_at hl 0 rfl) ?_
    refine x_bipush X dX4_init_41 (by decide) ?_
    refine x_icmp_ge (tgt := 65) X (by decide) (by decide) dX4_init_43 (by decide) (fun _ => ?_) (fun h => absurd (by decide) h)
    exact kk as H locs ls hP hD hS hl
  | succ k ih =>
    intro i as H locs ls hi hP hD hS hl
    refine lv_iload_n X.1.1 X.1.2.1 dX4_init_40 rfl (lv_at hl 0 rfl) ?_
    refine x_bipush X dX4_init_41 (by decide) ?_
    refine x_icmp_ge (tgt := 65) X ⟨by omega, by omega⟩ (by decide) dX4_init_43 (by decide) (fun h => by omega) (fun _ => ?_)
    refine lv_aload_n X.1.1 X.1.2.1 dX4_init_46 rfl (lv_at hl 1 rfl) ?_
    refine x_cgetk X (i := 0) rfl hP iX4 rfl 0 (by decide) (x_w 5 rfl) rfl dX4_init_47 ?_
    refine lv_iload_n X.1.1 X.1.2.1 dX4_init_50 rfl (lv_at hl 0 rfl) ?_
    refine x_cnew X hP hD hS hA tyX7 tyX7_ok iX7 (x_w 4 rfl) (x_w 11 rfl) (x_w 12 rfl) (ci := 11) rfl [.int 0, .int 0, .int 0, .null, .null, .null, .null, .null, .null, .null, .null, .null, .null, .null, .null, .null, .null] (by decide +kernel) (by show 3 + 15 * i + 1 ≤ 183; omega) (by show 14 + 1197 * i + 17 ≤ 14378; omega) dX4_init_51 (fun q H hP hD hS => ?_)
    refine lv_dup X.1.1 X.1.2.1 dX4_init_54 rfl ?_
    refine x_kc (w := w4 t a o0 o1 o2 as i 0) hP hD hS hA (va_runIN (As := []) (rest := [.ref q, .int (iI (i : Int)), .ref o0]) X.1 (c_X7_init l t q _) ⟨va_cnB 0 X.1.2.2.2.2 gX4_init_X7_init_n31 rfl rfl rfl (X.2.2.1.1 (RX4, 31, yX7_init, "TriggerNetwork") (x_m 7 rfl)) (X.1.2.2.2.2 _ (x_w 12 rfl)) hd_X7_init ⟨Nat.le_of_ble_eq_true rfl, Nat.le_of_ble_eq_true rfl⟩, rfl, X.1.2.2.2.2 _ (x_w 13 rfl)⟩ ⟨c_blind, x_cpre X hP hD hS hAg⟩ rfl rfl hl.1 rfl (lv_room (Nat.le_of_ble_eq_true rfl)) dX4_init_55 ⟨by show 3 + 15 * i + 1 + 14 ≤ 183; omega, by show 14 + 1197 * i + 17 + 1180 ≤ 14378; omega⟩) (fun bs H locs hP hD hS => ?_)
    replace hP : va_P t.1 vwCl (w4 t a o0 o1 o2 as i 0 ++ sitW t (fun j => Nat.casesOn j q bs)) H := hP
    replace hD : va_D A (w4 t a o0 o1 o2 as i 0 ++ sitW t (fun j => Nat.casesOn j q bs)) := hD
    refine va_astq (D := t.1) (cl := vwCl) X.1.1 X.1.2.1 X.2.1 hP hD hS 1 4 (4 + 15 * (i + 0)) 11 (v := q) rfl rfl (by rw [List.getElem?_append_right (by rw [w4_len]; omega), w4_len, Nat.sub_self]; rfl) rfl (iI_in ⟨by omega, by omega⟩ (by decide)) dX4_init_58 (fun H locs hP hD hS => ?_)
    rw [show (iI (i : Int)).toNatClampNeg = i by rw [iI_cl ⟨by omega, by omega⟩]; exact Int.toNat_natCast i] at hP hD
    replace hP := Eq.mp (congrArg (fun z => va_P t.1 vwCl z H) (w4_a (b := fun j => Nat.casesOn j q bs))) hP
    replace hD := Eq.mp (congrArg (fun z => va_D A z) (w4_a (b := fun j => Nat.casesOn j q bs))) hD
    refine lv_iinc (v := (iI ((i : Int) + 1))) (lv' := [(1, .int (iI ((i : Int) + 1))), (0, .ref a)]) X.1.1 X.1.2.1 dX4_init_59 hl (k := 0) rfl (iI_add _ _) (by decide) rfl (fun ls hl => ?_)
    refine lv_goto (tgt := 40) X.1.1 X.1.2.1 dX4_init_62 (by decide) ?_
    exact ih (i + 1) _ H locs ls (by omega) hP hD hS hl
set_option maxRecDepth 100000 in
set_option maxHeartbeats 8000000 in
theorem l_X4_b (X : xC t p s m args c cX4_init wsX4_init RX4 2) (hA : ∀ q, s.heap.size ≤ q → A q) (hAg : ∀ q, A q → gA t q) (a o0 o1 o2 : Nat) (kk : ∀ (as : Nat → Nat → Nat) (H : Heap) (locs : List Loc) (ls : Array Slot), va_P t.1 vwCl (w4 t a o0 o1 o2 as 10 2) H → va_D A (w4 t a o0 o1 o2 as 10 2) → va_S A s.heap H locs → lv_has ls 2 [(1, .int (iI 2)), (0, .ref a)] → W p l e rX4_init s m args below meth c H locs (3 + 15 * 12) (14 + 1197 * 12) Q (F0 m 91 ls [])) :
    ∀ (k i : Nat) (as : Nat → Nat → Nat) (H : Heap) (locs : List Loc) (ls : Array Slot), i + k = 2 → va_P t.1 vwCl (w4 t a o0 o1 o2 as 10 i) H → va_D A (w4 t a o0 o1 o2 as 10 i) → va_S A s.heap H locs → lv_has ls 2 [(1, .int (iI (i : Int))), (0, .ref a)] → W p l e rX4_init s m args below meth c H locs (3 + 15 * (10 + i)) (14 + 1197 * (10 + i)) Q (F0 m 67 ls []) := by
  have iX4 : ∀ w ∈ wsX40, w ∈ wsX4_init := by decide +kernel
  have iX7 : ∀ w ∈ wsX70, w ∈ wsX4_init := by decide +kernel
  intro k
  induction k with
  | zero =>
    intro i as H locs ls hi hP hD hS hl
    have hi : i = 2 := by omega
    subst hi
    refine lv_iload_n X.1.1 X.1.2.1 dX4_init_67 rfl (lv_at hl 0 rfl) ?_
    refine x_iconst X dX4_init_68 ?_
    refine x_icmp_ge (tgt := 91) X (by decide) (by decide) dX4_init_69 (by decide) (fun _ => ?_) (fun h => absurd (by decide) h)
    exact kk as H locs ls hP hD hS hl
  | succ k ih =>
    intro i as H locs ls hi hP hD hS hl
    refine lv_iload_n X.1.1 X.1.2.1 dX4_init_67 rfl (lv_at hl 0 rfl) ?_
    refine x_iconst X dX4_init_68 ?_
    refine x_icmp_ge (tgt := 91) X ⟨by omega, by omega⟩ (by decide) dX4_init_69 (by decide) (fun h => by omega) (fun _ => ?_)
    refine lv_aload_n X.1.1 X.1.2.1 dX4_init_72 rfl (lv_at hl 1 rfl) ?_
    refine x_cgetk X (i := 0) rfl hP iX4 rfl 1 (by decide) (x_w 6 rfl) rfl dX4_init_73 ?_
    refine lv_iload_n X.1.1 X.1.2.1 dX4_init_76 rfl (lv_at hl 0 rfl) ?_
    refine x_cnew X hP hD hS hA tyX7 tyX7_ok iX7 (x_w 4 rfl) (x_w 11 rfl) (x_w 12 rfl) (ci := 11) rfl [.int 0, .int 0, .int 0, .null, .null, .null, .null, .null, .null, .null, .null, .null, .null, .null, .null, .null, .null] (by decide +kernel) (by show 3 + 15 * (10 + i) + 1 ≤ 183; omega) (by show 14 + 1197 * (10 + i) + 17 ≤ 14378; omega) dX4_init_77 (fun q H hP hD hS => ?_)
    refine lv_dup X.1.1 X.1.2.1 dX4_init_80 rfl ?_
    refine x_kc (w := w4 t a o0 o1 o2 as 10 i) hP hD hS hA (va_runIN (As := []) (rest := [.ref q, .int (iI (i : Int)), .ref o1]) X.1 (c_X7_init l t q _) ⟨va_cnB 0 X.1.2.2.2.2 gX4_init_X7_init_n31 rfl rfl rfl (X.2.2.1.1 (RX4, 31, yX7_init, "TriggerNetwork") (x_m 7 rfl)) (X.1.2.2.2.2 _ (x_w 12 rfl)) hd_X7_init ⟨Nat.le_of_ble_eq_true rfl, Nat.le_of_ble_eq_true rfl⟩, rfl, X.1.2.2.2.2 _ (x_w 13 rfl)⟩ ⟨c_blind, x_cpre X hP hD hS hAg⟩ rfl rfl hl.1 rfl (lv_room (Nat.le_of_ble_eq_true rfl)) dX4_init_81 ⟨by show 3 + 15 * (10 + i) + 1 + 14 ≤ 183; omega, by show 14 + 1197 * (10 + i) + 17 + 1180 ≤ 14378; omega⟩) (fun bs H locs hP hD hS => ?_)
    replace hP : va_P t.1 vwCl (w4 t a o0 o1 o2 as 10 i ++ sitW t (fun j => Nat.casesOn j q bs)) H := hP
    replace hD : va_D A (w4 t a o0 o1 o2 as 10 i ++ sitW t (fun j => Nat.casesOn j q bs)) := hD
    refine va_astq (D := t.1) (cl := vwCl) X.1.1 X.1.2.1 X.2.1 hP hD hS 2 4 (4 + 15 * (10 + i)) 11 (v := q) rfl rfl (by rw [List.getElem?_append_right (by rw [w4_len]; omega), w4_len, Nat.sub_self]; rfl) rfl (iI_in ⟨by omega, by omega⟩ (by decide)) dX4_init_84 (fun H locs hP hD hS => ?_)
    rw [show (iI (i : Int)).toNatClampNeg = i by rw [iI_cl ⟨by omega, by omega⟩]; exact Int.toNat_natCast i] at hP hD
    replace hP := Eq.mp (congrArg (fun z => va_P t.1 vwCl z H) (w4_b (b := fun j => Nat.casesOn j q bs))) hP
    replace hD := Eq.mp (congrArg (fun z => va_D A z) (w4_b (b := fun j => Nat.casesOn j q bs))) hD
    refine lv_iinc (v := (iI ((i : Int) + 1))) (lv' := [(1, .int (iI ((i : Int) + 1))), (0, .ref a)]) X.1.1 X.1.2.1 dX4_init_85 hl (k := 0) rfl (iI_add _ _) (by decide) rfl (fun ls hl => ?_)
    refine lv_goto (tgt := 67) X.1.1 X.1.2.1 dX4_init_88 (by decide) ?_
    exact ih (i + 1) _ H locs ls (by omega) hP hD hS hl
end CB5
set_option maxRecDepth 100000 in
set_option maxHeartbeats 8000000 in
theorem c_X4_init (l : Launch) (t : gP) (a : Nat) : cMo l yX4_init wsX4_init rX4_init t [.ref a] [(a, .inr (8, [.null, .null, .null, .int 0, .int 0]))] (fun (as : Nat → Nat → Nat) => w4 t a (as 12 0) (as 12 1) (as 12 2) as 10 2) 183 14378 := by
  refine x_ofCo (cc := cX4_init) (maxL := 2) (own := RX4) (by decide) rfl rfl (Nat.le_of_ble_eq_true rfl) ?_
  intro p e s m args below meth c Q X hm hAO hP hD hAg hS hret ls hl
  have hA : ∀ q, s.heap.size ≤ q → va_A [(a, .inr (8, [.null, .null, .null, .int 0, .int 0]))] s.heap.size q := fun q hq => Or.inr hq
  replace hl : lv_has ls 2 [(0, .ref a)] := hl
  generalize va_A [(a, .inr (8, [.null, .null, .null, .int 0, .int 0]))] s.heap.size = A at hD hAg hS hret hA
  have iX4 : ∀ w ∈ wsX40, w ∈ wsX4_init := by decide +kernel
  refine lv_aload_n X.1.1 X.1.2.1 dX4_init_0 rfl (lv_at hl 0 rfl) ?_
  refine x_cobj X (x_w 1 rfl) (x_w 2 rfl) (x_w 3 rfl) hl.1 dX4_init_1 (by decide) (by decide) (by decide) ?_
  refine lv_aload_n X.1.1 X.1.2.1 dX4_init_4 rfl (lv_at hl 0 rfl) ?_
  refine x_bipush X dX4_init_5 (by decide) ?_
  refine x_cnewq (N' := 10) X hAO hP hD hS hA (x_w 4 rfl) ⟨rfl, by decide⟩ (by decide) (by decide) dX4_init_7 (fun o0 H hP hD hS => ?_)
  refine x_cputF X hm hP hD hS tyX4 tyX4_ok nmX4 iX4 rfl 0 (by decide) (x_w 5 rfl) rfl rfl (ty := .array (.object "TriggerNetwork$Situation")) (by decide +kernel) rfl rfl (Nat.le_of_ble_eq_true rfl) dX4_init_10 (fun H locs hP hD hS => ?_)
  refine lv_aload_n X.1.1 X.1.2.1 dX4_init_13 rfl (lv_at hl 0 rfl) ?_
  refine x_iconst X dX4_init_14 ?_
  refine x_cnewq (N' := 2) X hAO hP hD hS hA (x_w 4 rfl) ⟨rfl, by decide⟩ (by decide) (by decide) dX4_init_15 (fun o1 H hP hD hS => ?_)
  refine x_cputF X hm hP hD hS tyX4 tyX4_ok nmX4 iX4 rfl 1 (by decide) (x_w 6 rfl) rfl rfl (ty := .array (.object "TriggerNetwork$Situation")) (by decide +kernel) rfl rfl (Nat.le_of_ble_eq_true rfl) dX4_init_18 (fun H locs hP hD hS => ?_)
  refine lv_aload_n X.1.1 X.1.2.1 dX4_init_21 rfl (lv_at hl 0 rfl) ?_
  refine x_iconst X dX4_init_22 ?_
  refine x_cnewz (N' := 2) X hP hD hS hA (x_w 7 rfl) ⟨rfl, by decide⟩ (by decide) (by decide) dX4_init_23 (fun o2 H hP hD hS => ?_)
  refine x_cputF X hm hP hD hS tyX4 tyX4_ok nmX4 iX4 rfl 2 (by decide) (x_w 8 rfl) rfl rfl (ty := .array .boolean) (by decide +kernel) rfl rfl (Nat.le_of_ble_eq_true rfl) dX4_init_25 (fun H locs hP hD hS => ?_)
  refine lv_aload_n X.1.1 X.1.2.1 dX4_init_28 rfl (lv_at hl 0 rfl) ?_
  refine x_iconst X dX4_init_29 ?_
  refine x_cput X hP hD hS tyX4 tyX4_ok nmX4 iX4 rfl 3 (by decide) (x_w 9 rfl) rfl rfl (ty := .int) rfl rfl (Nat.le_of_ble_eq_true rfl) dX4_init_30 (fun H locs hP hD hS => ?_)
  refine lv_aload_n X.1.1 X.1.2.1 dX4_init_33 rfl (lv_at hl 0 rfl) ?_
  refine x_iconst X dX4_init_34 ?_
  refine x_cput X hP hD hS tyX4 tyX4_ok nmX4 iX4 rfl 4 (by decide) (x_w 10 rfl) rfl rfl (ty := .int) rfl rfl (Nat.le_of_ble_eq_true rfl) dX4_init_35 (fun H locs hP hD hS => ?_)
  refine x_iconst X dX4_init_38 ?_
  refine lv_istore_n (lv' := [(1, .int (iI 0)), (0, .ref a)]) X.1.1 X.1.2.1 dX4_init_39 rfl hl (by decide) rfl (fun ls hl => ?_)
  have e2 : w4 t a o0 o1 o2 (fun _ _ => 0) 0 0 = (a, .inr (8, [.ref o0, .ref o1, .ref o2, .int 0, .int 0])) :: (o0, .inl (t.2.1 104, (10, .inr (.inr (.inr (.inr (fun _ => none))))))) :: (o1, .inl (t.2.1 104, (2, .inr (.inr (.inr (.inr (fun _ => none))))))) :: (o2, .inl (t.2.1 101, (2, .inl (fun _ => 0)))) :: [] := by
    simp only [w4, Nat.not_lt_zero, if_false]; rfl
  refine l_X4_a X hA hAg a o0 o1 o2 (fun as H locs ls hP hD hS hl => ?_) 10 0 (fun _ _ => 0) H _ ls rfl (by rw [e2]; exact hP) (by rw [e2]; exact hD) hS hl
  refine x_iconst X dX4_init_65 ?_
  refine lv_istore_n (lv' := [(1, .int (iI 0)), (0, .ref a)]) X.1.1 X.1.2.1 dX4_init_66 rfl hl (by decide) rfl (fun ls hl => ?_)
  refine l_X4_b X hA hAg a o0 o1 o2 (fun as H locs ls hP hD hS hl => ?_) 2 0 as H _ ls rfl hP hD hS hl
  have e3 : w4 t a o0 o1 o2 as 10 2 = w4 t a o0 o1 o2 (asU as 12 (fun j => [o0, o1, o2].getD j 0)) 10 2 := by
    have e4 : ∀ j, j < 12 → asU as 12 (fun j => [o0, o1, o2].getD j 0) j = as j := fun j hj => asU_o (Nat.ne_of_lt hj)
    unfold w4
    rw [sitsW_eq (fun j hj => e4 j hj)]
    have e5 : (fun j => if j < 10 then some (asU as 12 (fun j => [o0, o1, o2].getD j 0) j 0) else none) = fun j => if j < 10 then some (as j 0) else none := by
      funext j
      by_cases h : j < 10
      · rw [if_pos h, if_pos h, e4 j (by omega)]
      · rw [if_neg h, if_neg h]
    have e6 : (fun j => if j < 2 then some (asU as 12 (fun j => [o0, o1, o2].getD j 0) (10 + j) 0) else none) = fun j => if j < 2 then some (as (10 + j) 0) else none := by
      funext j
      by_cases h : j < 2
      · rw [if_pos h, if_pos h, e4 (10 + j) (by omega)]
      · rw [if_neg h, if_neg h]
    rw [e5, e6]
  rw [e3] at hP hD
  exact hret (asU as 12 (fun j => [o0, o1, o2].getD j 0)) _ _ _ _ _ _ (by decide) (by decide) dX4_init_91 hP hD hS
theorem hd_X4_init : yX4_init.cls ≠ "java/lang/invoke/MethodHandle" ∧ yX4_init.cls ≠ "java/lang/invoke/VarHandle" ∧ (parseMethodDescriptor yX4_init.desc).map (fun d => d.parameters.length) = some 0 := by decide +kernel
