/-! L, part i: the start -/
set_option maxRecDepth 100000 in
set_option maxHeartbeats 8000000 in
theorem whole_start {p : Program} {e : Env} {s : State} {m : MethodId} {below : List Frame} {meth : Method} {c : Code} (l : Launch) (hflags : l.flags = flags0) {b L : Nat} {xs : Nat → Int32} (hL : L ≤ 260) (C0 : lw_At p s m meth c b L xs) : W p l e room_1 s m #[Value.ref b] below meth c s.heap [] 0 0 (lw_Z below #[Value.ref b] s) (entryFrame m ([Value.ref b] : List Value).toArray 4) := by
  obtain ⟨hx, hb, hr, hml, hown, hts, hX, hbl, hlocks, hgv⟩ := id C0
  have hn := flat_of_before _ hgv
  have htl := lw_ts hts
  obtain ⟨D, cls, hK⟩ := vK_start hts
  obtain ⟨aK, aV, hSt⟩ := gS_start hts hn
  have hAO := va_AO_start hts
  have hfl : l.stackTraces = false := by unfold Launch.stackTraces; rw [hflags]; decide
  have X : xC (D, cls, (fun k => if k < 3000 then aK (k - 2000) else aV (k - 3000)), s.heap.size) p s m #[.ref b] c cL_law wsL_law RL 4 :=
    ⟨⟨hx, hb, hml, hown, htl⟩, hK _ rfl rfl, hSt _ rfl (fun i hi => by show (if 2000 + i < 3000 then _ else _) = _; rw [if_pos (by omega), show 2000 + i - 2000 = i by omega]) (fun i hi => by show (if 3000 + i < 3000 then _ else _) = _; rw [if_neg (by omega), show 3000 + i - 3000 = i by omega]), Nat.le_refl _⟩
  generalize ht0 : ((D, cls, (fun k => if k < 3000 then aK (k - 2000) else aV (k - 3000)), s.heap.size) : gP) = t0 at X
  have f1 : t0.1 = D := by subst ht0; rfl
  have f2 : t0.2.1 = cls := by subst ht0; rfl
  have f4 : t0.2.2.2 = s.heap.size := by subst ht0; rfl
  have hAg : ∀ q, gA t0 q → gA t0 q := fun q h => h
  have hA : ∀ q : Nat, s.heap.size ≤ q → gA t0 q := fun q h => by unfold gA; rw [f4]; exact h
  have hS : va_S (gA t0) s.heap s.heap [] := va_S.rf
  have hP : va_P t0.1 vwCl [] s.heap := fun k q h => by simp at h
  have hD : va_D (gA t0) [] := ⟨fun i j p q h => by simp at h, fun k q h => by simp at h⟩
  have hl := lv_entry ([.ref b]) (n := 4) (Nat.le_of_ble_eq_true rfl)
  rw [lg_entry_eq]
  generalize (lg_sl ([.ref b]) ++ List.replicate (4 - (lg_sl ([.ref b])).length) Slot.unset).toArray = ls at hl ⊢
  replace hl : lv_has ls 4 [(0, .ref b)] := hl
  refine x_cnew X hP hD hS hA tyX9 tyX9_ok inlX9 (x_w 0 rfl) (x_w 1 rfl) (x_w 2 rfl) (ci := 13) rfl [.null, .int 0, .int 0, .null, .null, .null, .null, .null, .null, .null, .null, .null] (by decide +kernel) (Nat.le_of_ble_eq_true rfl) (Nat.le_of_ble_eq_true rfl) dL_law_0 (fun q0 H hP hD hS => ?_)
  refine lv_dup X.1.1 X.1.2.1 dL_law_3 rfl ?_
  refine x_kc (w := []) hP hD hS hA (va_runI (As := []) (rest := [.ref q0]) X.1 (c_X9_init l t0 q0 _) (x_cwI 0 X.1.2.2.2.2 gL_law_X9_init rfl rfl rfl (x_w 4 rfl) (x_w 2 rfl) (x_w 5 rfl) rfl hd_X9_init ⟨Nat.le_of_ble_eq_true rfl, Nat.le_of_ble_eq_true rfl⟩) ⟨c_blindo, x_cpreo X hAO hP hD hS hAg⟩ rfl rfl hl.1 rfl (lv_room (Nat.le_of_ble_eq_true rfl)) dL_law_4 ⟨Nat.le_of_ble_eq_true rfl, Nat.le_of_ble_eq_true rfl⟩) (fun ad H locs hP hD hS => ?_)
  obtain ⟨ad, had⟩ := ad
  replace hP : va_P t0.1 vwCl (mainW t0 ad) H := hP
  replace hD : va_D (gA t0) (mainW t0 ad) := hD
  rw [← had]
  refine lv_astore_n (lv' := [(1, .ref (ad 0)), (0, .ref b)]) X.1.1 X.1.2.1 dL_law_7 rfl hl (by decide) rfl (fun ls hl => ?_)
  refine lv_aload_n X.1.1 X.1.2.1 dL_law_8 rfl (lv_at hl 1 rfl) ?_
  refine x_slen X hX hbl f4 hS dL_law_9 ?_
  refine lv_istore_n (lv' := [(2, .int (iI (L : Int))), (1, .ref (ad 0)), (0, .ref b)]) X.1.1 X.1.2.1 dL_law_10 rfl hl (by decide) rfl (fun ls hl => ?_)
  refine x_iconst X dL_law_11 ?_
  refine lv_istore_n (lv' := [(3, .int (iI 0)), (2, .int (iI (L : Int))), (1, .ref (ad 0)), (0, .ref b)]) X.1.1 X.1.2.1 dL_law_12 rfl hl (by decide) rfl (fun ls hl => ?_)
  -- the one picture
  have X1 : xC (D, cls, (fun k => if k = 39 then ad 37 else if k < 264 then ad k else if k < 2000 then 0 else if k < 3000 then aK (k - 2000) else aV (k - 3000)), s.heap.size) p s m #[.ref b] c cL_law wsL_law RL 4 :=
    ⟨⟨hx, hb, hml, hown, htl⟩, hK _ rfl rfl, hSt _ rfl (fun i hi => by
      show (if 2000 + i = 39 then _ else if 2000 + i < 264 then _ else if 2000 + i < 2000 then _ else if 2000 + i < 3000 then _ else _) = _
      rw [if_neg (by omega), if_neg (by omega), if_neg (by omega), if_pos (by omega), show 2000 + i - 2000 = i by omega]) (fun i hi => by
      show (if 3000 + i = 39 then _ else if 3000 + i < 264 then _ else if 3000 + i < 2000 then _ else if 3000 + i < 3000 then _ else _) = _
      rw [if_neg (by omega), if_neg (by omega), if_neg (by omega), if_neg (by omega), show 3000 + i - 3000 = i by omega]), Nat.le_refl _⟩
  generalize had2 : (fun k => if k = 39 then ad 37 else if k < 264 then ad k else if k < 2000 then 0 else if k < 3000 then aK (k - 2000) else aV (k - 3000) : Nat → Nat) = AD at X1
  generalize ht1 : ((D, cls, AD, s.heap.size) : gP) = t1 at X1
  have g1 : t1.1 = t0.1 := by rw [f1, ← ht1]
  have g2 : t1.2.1 = t0.2.1 := by rw [f2, ← ht1]
  have g3 : t1.2.2.1 = AD := by rw [← ht1]
  have g4 : t1.2.2.2 = s.heap.size := by rw [← ht1]
  have gAe : gA t0 = gA t1 := by funext q; unfold gA; rw [f4, g4]
  have h84 : ∀ i j : Nat, i < 12 → j < 15 → AD (84 + 15 * i + j) = ad (84 + 15 * i + j) := fun i j hi hj => by
    rw [← had2]
    dsimp only
    rw [if_neg (by omega), if_pos (by omega)]
  have e1 : mainW t0 ad = mainW t1 AD := by
    have e0 : mainW t0 ad = mainW t1 ad := by
      unfold mainW grW netW x0W x3W jW w4
      have hs : ∀ (f : Nat → Nat → Nat) (n : Nat), sitsW t0 f n = sitsW t1 f n := fun f n => by
        induction n with
        | zero => rfl
        | succ n ih =>
          show sitsW t0 f n ++ sitW t0 (f n) = sitsW t1 f n ++ sitW t1 (f n)
          rw [ih]
          unfold sitW
          rw [g2]
      unfold sitW
      rw [hs, g2]
    rw [e0]
    unfold mainW
    rw [w4_eq (t := t1) (as := fun i j => ad (84 + 15 * i + j)) (bs := fun i j => AD (84 + 15 * i + j)) (fun i j hi hj => (h84 i j hi hj).symm)]
    generalize hz : (fun i j => AD (84 + 15 * i + j)) = z
    subst had2
    rfl
  rw [e1, ← g3] at hP hD
  rw [← g1] at hP
  rw [gAe] at hD hS
  have h39 : t1.2.2.1 39 = t1.2.2.1 37 := by rw [g3, ← had2]; rfl
  have hz : ∀ k, 264 ≤ k → k < 358 → t1.2.2.1 (1000 + k) = 0 := fun k k0 k1 => by
    rw [g3, ← had2]
    dsimp only
    rw [if_neg (by omega), if_neg (by omega), if_pos (by omega)]
  have hG : G t1 u0 H := mainW_G h39 hz hP hD
  have l0 : ad 0 = t1.2.2.1 0 := by rw [g3, ← had2]; rfl
  rw [l0] at hl
  exact law_loop hL C0 hfl 5 t1 u0 0 H _ ls _ _ X1 g4 qs_0 hG hS hl (by decide) (by decide) (by decide) (Nat.le_of_ble_eq_true rfl) (Nat.le_of_ble_eq_true rfl)
