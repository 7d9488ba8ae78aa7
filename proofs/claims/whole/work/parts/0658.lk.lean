/-! L, part i: the start -/
section CB8
variable {p : Program} {l : Launch} {e : Env} {R : Room} {s : State} {m : MethodId} {args : Array Value} {below : List Frame} {meth : Method} {c : Code} {H : Heap} {locs : List Loc} {cells slots mc ms : Nat} {Q : State → Prop}
variable {cc : ByteArray} {pc : Nat} {ls : Array Slot} {rest st0 : List Value} {t : gP} {ws : List Cond} {own : String} {nL : Nat} {a : Array Value} {A : Nat → Prop}
theorem x_cnewl (X : xC t p s m args c cc ws own nL) {w : va_W} (hP : va_P t.1 vwCl w H) (hD : va_D A w) (hS : va_S A s.heap H locs) (hA : ∀ q, s.heap.size ≤ q → A q) {n : Int} {N' : Nat} (hw : Cond.arrayClass .long ∈ ws) (hN : n = (N' : Int) ∧ N' < 100000) (hcells : cells + 1 ≤ R.cells) (hslots : slots + N' ≤ R.slots) (hdg : decode cc pc = .ok (.newarray .long, 2))
    (kk : ∀ (q : Nat) (H1 : Heap), va_P t.1 vwCl (w ++ [(q, .inl (t.2.1 103, (N', .inr (.inl (fun _ => 0)))))]) H1 → va_D A (w ++ [(q, .inl (t.2.1 103, (N', .inr (.inl (fun _ => 0)))))]) → va_S A s.heap H1 locs → W p l e R s m args below meth c H1 locs (cells + 1) (slots + N') Q (F0 m (pc + 2) ls (.ref q :: rest))) : W p l e R s m args below meth c H locs cells slots Q (F0 m pc ls (.int (iI n) :: rest)) := by
  have hx : InR n := ⟨by omega, by omega⟩
  refine va_newa (D := t.1) (cl := vwCl) (atype := .long) (ty := .long) (N' := N') (a0 := (N', .inr (.inl (fun _ => 0)))) X.1.1 X.1.2.1 (X.1.2.2.2.2 _ hw) rfl X.2.1 hP hD hS hA (fun cA => rfl) (fun q => by have := (iI_lt (b := 0) hx (by decide)).mp q; omega) ((iI_cl hx).trans (by omega)) (by show N' * 8 ≤ _; omega) hcells hslots hdg (fun q cA H1 hK hP1 hD1 hS1 => ?_)
  have hcA : cA = t.2.1 103 := by
    have q1 := (hK.2 5 (cA, .long) rfl).2
    have q2 := (hK.2 3 (t.2.1 103, .long) rfl).2
    exact Option.some.inj (Eq.trans (Eq.symm q1) q2)
  subst hcA
  exact kk q H1 hP1 hD1 hS1
end CB8
set_option maxRecDepth 100000 in
set_option maxHeartbeats 8000000 in
theorem whole_start {p : Program} {e : Env} {s : State} {m : MethodId} {below : List Frame} {meth : Method} {c : Code} (l : Launch) (hflags : l.flags = flags0) {b L : Nat} {xs : Nat → Int32} (hL : L ≤ 3072) (C0 : lw_At p s m meth c b L xs) : W p l e room_1 s m #[Value.ref b] below meth c s.heap [] 0 0 (lw_Z below #[Value.ref b] s) (entryFrame m ([Value.ref b] : List Value).toArray 7) := by
  obtain ⟨hx, hb, hr, hml, hown, hts, hX, hbl, hlocks, hgv⟩ := id C0
  have hn := flat_of_before _ hgv
  have htl := lw_ts hts
  obtain ⟨D, cls, hK⟩ := vK_start hts
  obtain ⟨aK, aV, hSt⟩ := gS_start hts hn
  have hN := gN_start hts hn
  have hAO := va_AO_start hts
  have hfl : l.stackTraces = false := by unfold Launch.stackTraces; rw [hflags]; decide
  have X : xC (D, cls, (fun k => if k < 3000 then aK (k - 2000) else aV (k - 3000)), s.heap.size) p s m #[.ref b] c cL_law wsL_law RL 7 :=
    ⟨⟨hx, hb, hml, hown, htl⟩, hK _ rfl rfl, hSt _ rfl (fun i hi => by show (if 2000 + i < 3000 then _ else _) = _; rw [if_pos (by omega), show 2000 + i - 2000 = i by omega]) (fun i hi => by show (if 3000 + i < 3000 then _ else _) = _; rw [if_neg (by omega), show 3000 + i - 3000 = i by omega]), Nat.le_refl _⟩
  generalize ht0 : ((D, cls, (fun k => if k < 3000 then aK (k - 2000) else aV (k - 3000)), s.heap.size) : gP) = t0 at X
  have f1 : t0.1 = D := by subst ht0; rfl
  have f2 : t0.2.1 = cls := by subst ht0; rfl
  have f4 : t0.2.2.2 = s.heap.size := by subst ht0; rfl
  have hAg : ∀ q, gA t0 q → gA t0 q := fun q h => h
  have hA : ∀ q : Nat, s.heap.size ≤ q → gA t0 q := fun q h => by unfold gA; rw [f4]; exact h
  have hS : va_S (gA t0) s.heap s.heap [] := va_S.rf
  have hP : va_P t0.1 vwCl [] s.heap := fun k q h => by simp at h
  have hD : va_D (gA t0) [] := ⟨fun i j p q h => by simp at h, fun k q h => by simp at h⟩
  have hl := lv_entry ([.ref b]) (n := 7) (Nat.le_of_ble_eq_true rfl)
  rw [lg_entry_eq]
  generalize (lg_sl ([.ref b]) ++ List.replicate (7 - (lg_sl ([.ref b])).length) Slot.unset).toArray = ls at hl ⊢
  replace hl : lv_has ls 7 [(0, .ref b)] := hl
  refine x_cnew X hP hD hS hA tyX9 tyX9_ok inlX9 (x_w 0 rfl) (x_w 1 rfl) (x_w 2 rfl) (ci := 13) rfl [.null, .int 0, .int 0, .null, .null, .null, .null, .null, .null, .null, .null, .null] (by decide +kernel) (Nat.le_of_ble_eq_true rfl) (Nat.le_of_ble_eq_true rfl) dL_law_0 (fun q0 H hP hD hS => ?_)
  refine lv_dup X.1.1 X.1.2.1 dL_law_3 rfl ?_
  refine x_kc (w := []) hP hD hS hA (va_runI (As := []) (rest := [.ref q0]) X.1 (c_X9_init l t0 q0 _) (x_cwI 0 X.1.2.2.2.2 gL_law_X9_init rfl rfl rfl (x_w 7 rfl) (x_w 2 rfl) (x_w 8 rfl) rfl hd_X9_init ⟨Nat.le_of_ble_eq_true rfl, Nat.le_of_ble_eq_true rfl⟩) ⟨c_blindo, x_cpreo X hAO hP hD hS hAg⟩ rfl rfl hl.1 rfl (lv_room (Nat.le_of_ble_eq_true rfl)) dL_law_4 ⟨Nat.le_of_ble_eq_true rfl, Nat.le_of_ble_eq_true rfl⟩) (fun ad H locs hP hD hS => ?_)
  obtain ⟨ad, had⟩ := ad
  replace hP : va_P t0.1 vwCl (mainW t0 ad) H := hP
  replace hD : va_D (gA t0) (mainW t0 ad) := hD
  rw [← had]
  refine lv_astore_n (lv' := [(1, .ref (ad 0)), (0, .ref b)]) X.1.1 X.1.2.1 dL_law_7 rfl hl (by decide) rfl (fun ls hl => ?_)
  refine x_cnew X hP hD hS hA tyX10 tyX10_ok inlX10 (x_w 3 rfl) (x_w 4 rfl) (x_w 5 rfl) (ci := 14) rfl [.int 0, .null, .null, .null, .null, .null, .null, .null, .int 0, .int 0, .int 0, .int 0, .int 0, .int 0, .int 0, .int 0, .int 0, .int 0, .null, .null, .int 0, .null, .int 0, .null, .null, .null] (by decide +kernel) (Nat.le_of_ble_eq_true rfl) (Nat.le_of_ble_eq_true rfl) dL_law_8 (fun q1 H hP hD hS => ?_)
  refine lv_dup X.1.1 X.1.2.1 dL_law_11 rfl ?_
  refine x_kc (w := mainW t0 ad) hP hD hS hA (va_runI (As := []) (rest := [.ref q1]) X.1 (c_X10_init l t0 q1 _) (x_cwI 0 X.1.2.2.2.2 gL_law_X10_init rfl rfl rfl (x_w 168 rfl) (x_w 5 rfl) (x_w 169 rfl) rfl hd_X10_init ⟨Nat.le_of_ble_eq_true rfl, Nat.le_of_ble_eq_true rfl⟩) ⟨c_blind, x_cpre X hP hD hS hAg⟩ rfl rfl hl.1 rfl (lv_room (Nat.le_of_ble_eq_true rfl)) dL_law_12 ⟨Nat.le_of_ble_eq_true rfl, Nat.le_of_ble_eq_true rfl⟩) (fun md H locs hP hD hS => ?_)
  obtain ⟨md, hmd⟩ := md
  replace hP : va_P t0.1 vwCl (mainW t0 ad ++ modW t0 md (tdF, (fun _ => 0), (fun _ => 0), (fun _ => 0), (fun _ => 0))) H := hP
  replace hD : va_D (gA t0) (mainW t0 ad ++ modW t0 md (tdF, (fun _ => 0), (fun _ => 0), (fun _ => 0), (fun _ => 0))) := hD
  rw [← hmd]
  refine lv_astore_n (lv' := [(2, .ref (md 0)), (1, .ref (ad 0)), (0, .ref b)]) X.1.1 X.1.2.1 dL_law_15 rfl hl (by decide) rfl (fun ls hl => ?_)
  refine x_iconst X dL_law_16 ?_
  refine x_cnewl (N' := 1) X hP hD hS hA (x_w 6 rfl) ⟨rfl, by decide⟩ (Nat.le_of_ble_eq_true rfl) (Nat.le_of_ble_eq_true rfl) dL_law_17 (fun q2 H hP hD hS => ?_)
  refine lv_astore_n (lv' := [(3, .ref q2), (2, .ref (md 0)), (1, .ref (ad 0)), (0, .ref b)]) X.1.1 X.1.2.1 dL_law_19 rfl hl (by decide) rfl (fun ls hl => ?_)
  refine x_iconst X dL_law_20 ?_
  refine lv_istore (lv' := [(4, .int (iI 0)), (3, .ref q2), (2, .ref (md 0)), (1, .ref (ad 0)), (0, .ref b)]) X.1.1 X.1.2.1 dL_law_21 hl (by decide) rfl (fun ls hl => ?_)
  -- the one picture
  have X1 : xC (D, cls, (fun k => if k < 39 then ad k else if k = 39 then q2 else if k < 54 then md (k - 40) else if k < 264 then ad k else if k < 3000 then aK (k - 2000) else aV (k - 3000)), s.heap.size) p s m #[.ref b] c cL_law wsL_law RL 7 :=
    ⟨⟨hx, hb, hml, hown, htl⟩, hK _ rfl rfl, hSt _ rfl (fun i hi => by
      show (if 2000 + i < 39 then _ else if 2000 + i = 39 then _ else if 2000 + i < 54 then _ else if 2000 + i < 264 then _ else if 2000 + i < 3000 then _ else _) = _
      rw [if_neg (by omega), if_neg (by omega), if_neg (by omega), if_neg (by omega), if_pos (by omega), show 2000 + i - 2000 = i by omega]) (fun i hi => by
      show (if 3000 + i < 39 then _ else if 3000 + i = 39 then _ else if 3000 + i < 54 then _ else if 3000 + i < 264 then _ else if 3000 + i < 3000 then _ else _) = _
      rw [if_neg (by omega), if_neg (by omega), if_neg (by omega), if_neg (by omega), if_neg (by omega), show 3000 + i - 3000 = i by omega]), Nat.le_refl _⟩
  generalize had2 : (fun k => if k < 39 then ad k else if k = 39 then q2 else if k < 54 then md (k - 40) else if k < 264 then ad k else if k < 3000 then aK (k - 2000) else aV (k - 3000) : Nat → Nat) = AD at X1
  generalize ht1 : ((D, cls, AD, s.heap.size) : gP) = t1 at X1
  have g1 : t1.1 = t0.1 := by rw [f1, ← ht1]
  have g2 : t1.2.1 = t0.2.1 := by rw [f2, ← ht1]
  have g3 : t1.2.2.1 = AD := by rw [← ht1]
  have g4 : t1.2.2.2 = s.heap.size := by rw [← ht1]
  have gAe : gA t0 = gA t1 := by funext q; unfold gA; rw [f4, g4]
  have h84 : ∀ i j : Nat, i < 12 → j < 15 → AD (84 + 15 * i + j) = ad (84 + 15 * i + j) := fun i j hi hj => by
    rw [← had2]
    dsimp only
    rw [if_neg (by omega), if_neg (by omega), if_neg (by omega), if_pos (by omega)]
  have e1 : mainW t0 ad = mainW t1 AD := by
    have e0 : mainW t0 ad = mainW t1 ad := by
      unfold mainW grW netW x0W x3W jW w4
      have hs : ∀ (f : Nat → Nat → Nat) (n : Nat), sitsW t0 f n = sitsW t1 f n := fun f n => by
        induction n with
        | zero => rfl
        | succ n ih =>
          show sitsW t0 f n ++ sitW t0 (f n) = sitsW t1 f n ++ sitW t1 (f n)
          rw [ih]
          unfold sitW
          rw [g2]
      unfold sitW
      rw [hs, g2]
    rw [e0]
    unfold mainW
    rw [w4_eq (t := t1) (as := fun i j => ad (84 + 15 * i + j)) (bs := fun i j => AD (84 + 15 * i + j)) (fun i j hi hj => (h84 i j hi hj).symm)]
    generalize hz : (fun i j => AD (84 + 15 * i + j)) = z
    subst had2
    rfl
  have e2 : modW t0 md (tdF, (fun _ => 0), (fun _ => 0), (fun _ => 0), (fun _ => 0)) = modW t1 (fun j => AD (40 + j)) (tdF, (fun _ => 0), (fun _ => 0), (fun _ => 0), (fun _ => 0)) := by
    unfold modW iA
    rw [g2]
    subst had2
    rfl
  have e3 : (mainW t0 ad ++ modW t0 md (tdF, (fun _ => 0), (fun _ => 0), (fun _ => 0), (fun _ => 0))) ++ [(q2, .inl (t0.2.1 103, (1, .inr (.inl (fun _ => 0)))))] = allW t1 t1.2.2.1 := by
    rw [e1, e2, ← g2, g3]
    unfold allW
    have e39 : AD 39 = q2 := by subst had2; rfl
    rw [e39]
  rw [e3] at hP hD
  rw [← g1] at hP
  rw [gAe] at hD hS
  have hG : G t1 u0 H := allW_G hP hD
  have l0 : ad 0 = t1.2.2.1 0 := by rw [g3]; subst had2; rfl
  have l40 : md 0 = t1.2.2.1 40 := by rw [g3]; subst had2; rfl
  have l39 : q2 = t1.2.2.1 39 := by rw [g3]; subst had2; rfl
  rw [l0, l40, l39] at hl
  exact law_loop hL C0 hfl hN 512 t1 u0 0 H _ ls _ _ X1 g4 ji_0 hG hS hl (by decide) (by decide) (by omega) (Nat.le_of_ble_eq_true rfl) (Nat.le_of_ble_eq_true rfl)
