/-! X, part t: the reference's constructor -/
def iA (t : gP) (n : Nat) (f : Int → Int) : va_E := .inl (t.2.1 100, (n, .inl (fun j : Nat => iI (f (j : Int)))))
def fU (f : Int → Int) (i x : Int) : Int → Int := fun j => if j = i then x else f j
theorem upd_fU {f : Int → Int} {i x : Int} (hi : 0 ≤ i) : (fun j : Nat => iI (fU f i x (j : Int))) = upd (fun j : Nat => iI (f (j : Int))) i.toNat (iI x) := by
  funext j
  unfold upd fU
  by_cases h : j = i.toNat
  · rw [if_pos (by omega), if_pos h]
  · rw [if_neg (fun q => h (by omega)), if_neg h]
section CB7
variable {p : Program} {l : Launch} {e : Env} {R : Room} {s : State} {m : MethodId} {args : Array Value} {below : List Frame} {meth : Method} {c : Code} {H : Heap} {locs : List Loc} {cells slots : Nat} {Q : State → Prop}
variable {cc : ByteArray} {pc : Nat} {ls : Array Slot} {rest : List Value} {t : gP} {ws : List Cond} {own : String} {nL : Nat} {A : Nat → Prop}
theorem x_cald (X : xC t p s m args c cc ws own nL) {w : va_W} {o n : Nat} {f : Int → Int} (k : Nat) {i : Int} (hk : w[k]? = some (o, iA t n f)) (hP : va_P t.1 vwCl w H) (hi : 0 ≤ i ∧ i < (n : Int)) (h2 : n < 2147483648) (hdg : decode cc pc = .ok (.iaload, 1))
    (kk : W p l e R s m args below meth c H locs cells slots Q (F0 m (pc + 1) ls (.int (iI (f i)) :: rest))) : W p l e R s m args below meth c H locs cells slots Q (F0 m pc ls (.int (iI i) :: .ref o :: rest)) := by
  refine va_iald (D := t.1) (cl := vwCl) X.1.1 X.1.2.1 X.2.1 hP k 0 hk rfl (iI_in hi h2) hdg ?_
  rw [iI_cl ⟨by omega, by omega⟩, Int.toNat_of_nonneg hi.1]
  exact kk
theorem x_cast (X : xC t p s m args c cc ws own nL) {w : va_W} {o n : Nat} {f : Int → Int} (k : Nat) {i x : Int} (hk : w[k]? = some (o, iA t n f)) (hP : va_P t.1 vwCl w H) (hD : va_D A w) (hS : va_S A s.heap H locs) (hi : 0 ≤ i ∧ i < (n : Int)) (h2 : n < 2147483648) (hdg : decode cc pc = .ok (.iastore, 1))
    (kk : ∀ (H1 : Heap) (locs1 : List Loc), va_P t.1 vwCl (w.set k (o, iA t n (fU f i x))) H1 → va_D A (w.set k (o, iA t n (fU f i x))) → va_S A s.heap H1 locs1 → W p l e R s m args below meth c H1 locs1 cells slots Q (F0 m (pc + 1) ls rest)) : W p l e R s m args below meth c H locs cells slots Q (F0 m pc ls (.int (iI x) :: .int (iI i) :: .ref o :: rest)) := by
  refine va_iast (D := t.1) (cl := vwCl) X.1.1 X.1.2.1 X.2.1 hP hD hS k 0 hk rfl (iI_in hi h2) hdg (fun H1 locs1 hP hD hS1 => ?_)
  have e1 : iA t n (fU f i x) = .inl (t.2.1 100, (n, .inl (upd (fun j : Nat => iI (f (j : Int))) (iI i).toNatClampNeg (iI x)))) := by
    unfold iA
    rw [upd_fU hi.1, iI_cl ⟨by omega, by omega⟩]
  refine kk H1 locs1 ?_ ?_ hS1
  · rw [e1]; exact hP
  · rw [e1]; exact hD
theorem x_czast0 (X : xC t p s m args c cc ws own nL) {w : va_W} {o n : Nat} (k : Nat) {i : Int} (hk : w[k]? = some (o, .inl (t.2.1 101, (n, .inl (fun _ => 0))))) (hP : va_P t.1 vwCl w H) (hD : va_D A w) (hS : va_S A s.heap H locs) (hi : 0 ≤ i ∧ i < (n : Int)) (h2 : n < 2147483648) (hdg : decode cc pc = .ok (.bastore, 1))
    (kk : ∀ (H1 : Heap) (locs1 : List Loc), va_P t.1 vwCl (w.set k (o, .inl (t.2.1 101, (n, .inl (fun _ => 0))))) H1 → va_D A (w.set k (o, .inl (t.2.1 101, (n, .inl (fun _ => 0))))) → va_S A s.heap H1 locs1 → W p l e R s m args below meth c H1 locs1 cells slots Q (F0 m (pc + 1) ls rest)) : W p l e R s m args below meth c H locs cells slots Q (F0 m pc ls (.int (iI 0) :: .int (iI i) :: .ref o :: rest)) := by
  refine va_zast (D := t.1) (cl := vwCl) X.1.1 X.1.2.1 X.2.1 hP hD hS k 1 hk rfl (iI_in hi h2) hdg (fun H1 locs1 hP hD hS1 => ?_)
  have e1 : ∀ b : Nat, upd (fun _ => (0 : Int32)) b (vp_nar .boolean (iI 0)) = fun _ => 0 := fun b => by
    funext j
    unfold upd
    by_cases h : j = b
    · rw [if_pos h]; rfl
    · rw [if_neg h]
  rw [e1] at hP hD
  exact kk H1 locs1 hP hD hS1
theorem x_calen (X : xC t p s m args c cc ws own nL) {w : va_W} {o n : Nat} {f : Int → Int} (k : Nat) (hk : w[k]? = some (o, iA t n f)) (hP : va_P t.1 vwCl w H) (hdg : decode cc pc = .ok (.arraylength, 1))
    (kk : W p l e R s m args below meth c H locs cells slots Q (F0 m (pc + 1) ls (.int (iI (n : Int)) :: rest))) : W p l e R s m args below meth c H locs cells slots Q (F0 m pc ls (.ref o :: rest)) :=
  va_alen (D := t.1) (cl := vwCl) X.1.1 X.1.2.1 X.2.1 hP k 0 hk rfl (iI_nat _) hdg kk
end CB7
abbrev fS5 : Type := (Int → Int) × (Int → Int) × (Int → Int) × (Int → Int) × (Int → Int)
def modW (t : gP) (ad : Nat → Nat) (fs : fS5) : va_W := [(ad 0, .inr (14, [.int 0, .ref (ad 1), .ref (ad 2), .ref (ad 3), .ref (ad 4), .ref (ad 5), .ref (ad 6), .ref (ad 7), .int 0, .int 0, .int 0, .int 0, .int 0, .int 0, .int 0, .int (iI (-1)), .int 0, .int 0, .ref (ad 8), .ref (ad 9), .int 0, .ref (ad 10), .int 0, .ref (ad 11), .ref (ad 12), .ref (ad 13)])), (ad 1, iA t 1167 (fun _ => 0)), (ad 2, iA t 30 fs.1), (ad 3, iA t 16 fs.2.1), (ad 4, iA t 16 fs.2.2.1), (ad 5, iA t 16 fs.2.2.2.1), (ad 6, iA t 16 fs.2.2.2.2), (ad 7, .inl (t.2.1 102, (500, .inl (fun _ => 0)))), (ad 8, iA t 101 (fun _ => 0)), (ad 9, iA t 80 (fun _ => 0)), (ad 10, iA t 1167 (fun _ => 0)), (ad 11, iA t 11670 (fun _ => 0)), (ad 12, iA t 2334 (fun _ => 0)), (ad 13, .inl (t.2.1 101, (2, .inl (fun _ => 0))))]
abbrev rZ0 : Room := { frames := 0, cells := 0, slots := 0, locals := 0 }
abbrev rZ1 : Room := { frames := 1, cells := 0, slots := 0, locals := 30 }
set_option maxRecDepth 100000 in
set_option maxHeartbeats 8000000 in
theorem k_X10_draft (l : Launch) (t : gP) (ad : Nat → Nat) (fs : fS5) (k v : Int) (hk : 0 ≤ k ∧ k < 15) : cM l yX10_draft wsX10_draft rZ0 t [.ref (ad 0), .int (iI k), .int (iI v)] (modW t ad fs) (fun (_ : Unit) => modW t ad (fU fs.1 (15 + k) v, fs.2)) 0 0 := by
  refine x_ofC (cc := cX10_draft) (maxL := 3) (own := RX10) (by decide) rfl rfl (Nat.le_of_ble_eq_true rfl) ?_
  intro p e s m args below meth c Q X hm hP hD hAg hS hret ls hl
  have hA : ∀ q, s.heap.size ≤ q → va_A (modW t ad fs) s.heap.size q := fun q hq => Or.inr hq
  replace hl : lv_has ls 3 [(0, .ref (ad 0)), (1, .int (iI k)), (2, .int (iI v))] := hl
  generalize va_A (modW t ad fs) s.heap.size = A at hD hAg hS hret hA
  have iX10 : ∀ w ∈ wsX100, w ∈ wsX10_draft := by decide +kernel
  refine lv_aload_n X.1.1 X.1.2.1 dX10_draft_0 rfl (lv_at hl 0 rfl) ?_
  refine x_cgetk X (i := 0) rfl hP iX10 rfl 2 (by decide) (x_w 1 rfl) rfl dX10_draft_1 ?_
  refine x_bipush X dX10_draft_4 (by decide) ?_
  refine lv_iload_n X.1.1 X.1.2.1 dX10_draft_6 rfl (lv_at hl 1 rfl) ?_
  refine x_iadd X dX10_draft_7 ?_
  refine lv_iload_n X.1.1 X.1.2.1 dX10_draft_8 rfl (lv_at hl 2 rfl) ?_
  refine x_cast X (o := ad 2) (n := 30) (f := fs.1) 2 rfl hP hD hS (by omega) (by decide) dX10_draft_9 (fun H locs hP hD hS => ?_)
  exact hret () _ _ _ _ _ _ (by decide) (by decide) dX10_draft_10 hP hD hS
def cdF (f : Int → Int) : Int → Int := fU (fU (fU (fU (fU (fU (fU (fU (fU (fU (fU (fU (fU (fU (fU (f) 15 0) 16 0) 17 0) 18 0) 19 5) 20 5) 21 20) 22 60) 23 3) 24 12) 25 300) 26 150) 27 3) 28 2) 29 1
set_option maxRecDepth 100000 in
set_option maxHeartbeats 8000000 in
theorem k_X10_clearDraft (l : Launch) (t : gP) (ad : Nat → Nat) (fs : fS5) : cM l yX10_clearDraft wsX10_clearDraft rZ1 t [.ref (ad 0)] (modW t ad fs) (fun (_ : Unit) => modW t ad (cdF fs.1, fs.2)) 0 0 := by
  refine x_ofC (cc := cX10_clearDraft) (maxL := 1) (own := RX10) (by decide) rfl rfl (Nat.le_of_ble_eq_true rfl) ?_
  intro p e s m args below meth c Q X hm hP hD hAg hS hret ls hl
  have hA : ∀ q, s.heap.size ≤ q → va_A (modW t ad fs) s.heap.size q := fun q hq => Or.inr hq
  replace hl : lv_has ls 1 [(0, .ref (ad 0))] := hl
  generalize va_A (modW t ad fs) s.heap.size = A at hD hAg hS hret hA
  refine lv_aload_n X.1.1 X.1.2.1 dX10_clearDraft_0 rfl (lv_at hl 0 rfl) ?_
  refine x_iconst X dX10_clearDraft_1 ?_
  refine x_iconst X dX10_clearDraft_2 ?_
  refine x_ka hD hS hA (va_runV (As := [.int (iI 0), .int (iI 0)]) (rest := []) X.1 (k_X10_draft l t ad fs 0 0 (by decide) _) (cwV 2 X.1.2.2.2.2 gX10_clearDraft_X10_draft rfl rfl rfl hd_X10_draft ⟨Nat.le_of_ble_eq_true rfl, Nat.le_of_ble_eq_true rfl⟩) ⟨c_blind, va_recv (q0 := 0) X.2.1 hP rfl rfl, x_cpreA X hP hD hS hAg⟩ rfl rfl hl.1 rfl (lv_room (Nat.le_of_ble_eq_true rfl)) dX10_clearDraft_3 ⟨by decide, by decide⟩) (fun _ H locs hP hD hS => ?_)
  generalize hf1 : fU fs.1 (15 + 0) 0 = f1 at hP hD
  refine lv_aload_n X.1.1 X.1.2.1 dX10_clearDraft_6 rfl (lv_at hl 0 rfl) ?_
  refine x_iconst X dX10_clearDraft_7 ?_
  refine x_iconst X dX10_clearDraft_8 ?_
  refine x_ka hD hS hA (va_runV (As := [.int (iI 1), .int (iI 0)]) (rest := []) X.1 (k_X10_draft l t ad (f1, fs.2) 1 0 (by decide) _) (cwV 2 X.1.2.2.2.2 gX10_clearDraft_X10_draft rfl rfl rfl hd_X10_draft ⟨Nat.le_of_ble_eq_true rfl, Nat.le_of_ble_eq_true rfl⟩) ⟨c_blind, va_recv (q0 := 0) X.2.1 hP rfl rfl, x_cpreA X hP hD hS hAg⟩ rfl rfl hl.1 rfl (lv_room (Nat.le_of_ble_eq_true rfl)) dX10_clearDraft_9 ⟨by decide, by decide⟩) (fun _ H locs hP hD hS => ?_)
  generalize hf2 : fU f1 (15 + 1) 0 = f2 at hP hD
  refine lv_aload_n X.1.1 X.1.2.1 dX10_clearDraft_12 rfl (lv_at hl 0 rfl) ?_
  refine x_iconst X dX10_clearDraft_13 ?_
  refine x_iconst X dX10_clearDraft_14 ?_
  refine x_ka hD hS hA (va_runV (As := [.int (iI 2), .int (iI 0)]) (rest := []) X.1 (k_X10_draft l t ad (f2, fs.2) 2 0 (by decide) _) (cwV 2 X.1.2.2.2.2 gX10_clearDraft_X10_draft rfl rfl rfl hd_X10_draft ⟨Nat.le_of_ble_eq_true rfl, Nat.le_of_ble_eq_true rfl⟩) ⟨c_blind, va_recv (q0 := 0) X.2.1 hP rfl rfl, x_cpreA X hP hD hS hAg⟩ rfl rfl hl.1 rfl (lv_room (Nat.le_of_ble_eq_true rfl)) dX10_clearDraft_15 ⟨by decide, by decide⟩) (fun _ H locs hP hD hS => ?_)
  generalize hf3 : fU f2 (15 + 2) 0 = f3 at hP hD
  refine lv_aload_n X.1.1 X.1.2.1 dX10_clearDraft_18 rfl (lv_at hl 0 rfl) ?_
  refine x_iconst X dX10_clearDraft_19 ?_
  refine x_iconst X dX10_clearDraft_20 ?_
  refine x_ka hD hS hA (va_runV (As := [.int (iI 3), .int (iI 0)]) (rest := []) X.1 (k_X10_draft l t ad (f3, fs.2) 3 0 (by decide) _) (cwV 2 X.1.2.2.2.2 gX10_clearDraft_X10_draft rfl rfl rfl hd_X10_draft ⟨Nat.le_of_ble_eq_true rfl, Nat.le_of_ble_eq_true rfl⟩) ⟨c_blind, va_recv (q0 := 0) X.2.1 hP rfl rfl, x_cpreA X hP hD hS hAg⟩ rfl rfl hl.1 rfl (lv_room (Nat.le_of_ble_eq_true rfl)) dX10_clearDraft_21 ⟨by decide, by decide⟩) (fun _ H locs hP hD hS => ?_)
  generalize hf4 : fU f3 (15 + 3) 0 = f4 at hP hD
  refine lv_aload_n X.1.1 X.1.2.1 dX10_clearDraft_24 rfl (lv_at hl 0 rfl) ?_
  refine x_iconst X dX10_clearDraft_25 ?_
  refine x_iconst X dX10_clearDraft_26 ?_
  refine x_ka hD hS hA (va_runV (As := [.int (iI 4), .int (iI 5)]) (rest := []) X.1 (k_X10_draft l t ad (f4, fs.2) 4 5 (by decide) _) (cwV 2 X.1.2.2.2.2 gX10_clearDraft_X10_draft rfl rfl rfl hd_X10_draft ⟨Nat.le_of_ble_eq_true rfl, Nat.le_of_ble_eq_true rfl⟩) ⟨c_blind, va_recv (q0 := 0) X.2.1 hP rfl rfl, x_cpreA X hP hD hS hAg⟩ rfl rfl hl.1 rfl (lv_room (Nat.le_of_ble_eq_true rfl)) dX10_clearDraft_27 ⟨by decide, by decide⟩) (fun _ H locs hP hD hS => ?_)
  generalize hf5 : fU f4 (15 + 4) 5 = f5 at hP hD
  refine lv_aload_n X.1.1 X.1.2.1 dX10_clearDraft_30 rfl (lv_at hl 0 rfl) ?_
  refine x_iconst X dX10_clearDraft_31 ?_
  refine x_iconst X dX10_clearDraft_32 ?_
  refine x_ka hD hS hA (va_runV (As := [.int (iI 5), .int (iI 5)]) (rest := []) X.1 (k_X10_draft l t ad (f5, fs.2) 5 5 (by decide) _) (cwV 2 X.1.2.2.2.2 gX10_clearDraft_X10_draft rfl rfl rfl hd_X10_draft ⟨Nat.le_of_ble_eq_true rfl, Nat.le_of_ble_eq_true rfl⟩) ⟨c_blind, va_recv (q0 := 0) X.2.1 hP rfl rfl, x_cpreA X hP hD hS hAg⟩ rfl rfl hl.1 rfl (lv_room (Nat.le_of_ble_eq_true rfl)) dX10_clearDraft_33 ⟨by decide, by decide⟩) (fun _ H locs hP hD hS => ?_)
  generalize hf6 : fU f5 (15 + 5) 5 = f6 at hP hD
  refine lv_aload_n X.1.1 X.1.2.1 dX10_clearDraft_36 rfl (lv_at hl 0 rfl) ?_
  refine x_bipush X dX10_clearDraft_37 (by decide) ?_
  refine x_bipush X dX10_clearDraft_39 (by decide) ?_
  refine x_ka hD hS hA (va_runV (As := [.int (iI 6), .int (iI 20)]) (rest := []) X.1 (k_X10_draft l t ad (f6, fs.2) 6 20 (by decide) _) (cwV 2 X.1.2.2.2.2 gX10_clearDraft_X10_draft rfl rfl rfl hd_X10_draft ⟨Nat.le_of_ble_eq_true rfl, Nat.le_of_ble_eq_true rfl⟩) ⟨c_blind, va_recv (q0 := 0) X.2.1 hP rfl rfl, x_cpreA X hP hD hS hAg⟩ rfl rfl hl.1 rfl (lv_room (Nat.le_of_ble_eq_true rfl)) dX10_clearDraft_41 ⟨by decide, by decide⟩) (fun _ H locs hP hD hS => ?_)
  generalize hf7 : fU f6 (15 + 6) 20 = f7 at hP hD
  refine lv_aload_n X.1.1 X.1.2.1 dX10_clearDraft_44 rfl (lv_at hl 0 rfl) ?_
  refine x_bipush X dX10_clearDraft_45 (by decide) ?_
  refine x_bipush X dX10_clearDraft_47 (by decide) ?_
  refine x_ka hD hS hA (va_runV (As := [.int (iI 7), .int (iI 60)]) (rest := []) X.1 (k_X10_draft l t ad (f7, fs.2) 7 60 (by decide) _) (cwV 2 X.1.2.2.2.2 gX10_clearDraft_X10_draft rfl rfl rfl hd_X10_draft ⟨Nat.le_of_ble_eq_true rfl, Nat.le_of_ble_eq_true rfl⟩) ⟨c_blind, va_recv (q0 := 0) X.2.1 hP rfl rfl, x_cpreA X hP hD hS hAg⟩ rfl rfl hl.1 rfl (lv_room (Nat.le_of_ble_eq_true rfl)) dX10_clearDraft_49 ⟨by decide, by decide⟩) (fun _ H locs hP hD hS => ?_)
  generalize hf8 : fU f7 (15 + 7) 60 = f8 at hP hD
  refine lv_aload_n X.1.1 X.1.2.1 dX10_clearDraft_52 rfl (lv_at hl 0 rfl) ?_
  refine x_bipush X dX10_clearDraft_53 (by decide) ?_
  refine x_iconst X dX10_clearDraft_55 ?_
  refine x_ka hD hS hA (va_runV (As := [.int (iI 8), .int (iI 3)]) (rest := []) X.1 (k_X10_draft l t ad (f8, fs.2) 8 3 (by decide) _) (cwV 2 X.1.2.2.2.2 gX10_clearDraft_X10_draft rfl rfl rfl hd_X10_draft ⟨Nat.le_of_ble_eq_true rfl, Nat.le_of_ble_eq_true rfl⟩) ⟨c_blind, va_recv (q0 := 0) X.2.1 hP rfl rfl, x_cpreA X hP hD hS hAg⟩ rfl rfl hl.1 rfl (lv_room (Nat.le_of_ble_eq_true rfl)) dX10_clearDraft_56 ⟨by decide, by decide⟩) (fun _ H locs hP hD hS => ?_)
  generalize hf9 : fU f8 (15 + 8) 3 = f9 at hP hD
  refine lv_aload_n X.1.1 X.1.2.1 dX10_clearDraft_59 rfl (lv_at hl 0 rfl) ?_
  refine x_bipush X dX10_clearDraft_60 (by decide) ?_
  refine x_bipush X dX10_clearDraft_62 (by decide) ?_
  refine x_ka hD hS hA (va_runV (As := [.int (iI 9), .int (iI 12)]) (rest := []) X.1 (k_X10_draft l t ad (f9, fs.2) 9 12 (by decide) _) (cwV 2 X.1.2.2.2.2 gX10_clearDraft_X10_draft rfl rfl rfl hd_X10_draft ⟨Nat.le_of_ble_eq_true rfl, Nat.le_of_ble_eq_true rfl⟩) ⟨c_blind, va_recv (q0 := 0) X.2.1 hP rfl rfl, x_cpreA X hP hD hS hAg⟩ rfl rfl hl.1 rfl (lv_room (Nat.le_of_ble_eq_true rfl)) dX10_clearDraft_64 ⟨by decide, by decide⟩) (fun _ H locs hP hD hS => ?_)
  generalize hf10 : fU f9 (15 + 9) 12 = f10 at hP hD
  refine lv_aload_n X.1.1 X.1.2.1 dX10_clearDraft_67 rfl (lv_at hl 0 rfl) ?_
  refine x_bipush X dX10_clearDraft_68 (by decide) ?_
  refine x_sipush X dX10_clearDraft_70 (by decide) ?_
  refine x_ka hD hS hA (va_runV (As := [.int (iI 10), .int (iI 300)]) (rest := []) X.1 (k_X10_draft l t ad (f10, fs.2) 10 300 (by decide) _) (cwV 2 X.1.2.2.2.2 gX10_clearDraft_X10_draft rfl rfl rfl hd_X10_draft ⟨Nat.le_of_ble_eq_true rfl, Nat.le_of_ble_eq_true rfl⟩) ⟨c_blind, va_recv (q0 := 0) X.2.1 hP rfl rfl, x_cpreA X hP hD hS hAg⟩ rfl rfl hl.1 rfl (lv_room (Nat.le_of_ble_eq_true rfl)) dX10_clearDraft_73 ⟨by decide, by decide⟩) (fun _ H locs hP hD hS => ?_)
  generalize hf11 : fU f10 (15 + 10) 300 = f11 at hP hD
  refine lv_aload_n X.1.1 X.1.2.1 dX10_clearDraft_76 rfl (lv_at hl 0 rfl) ?_
  refine x_bipush X dX10_clearDraft_77 (by decide) ?_
  refine x_sipush X dX10_clearDraft_79 (by decide) ?_
  refine x_ka hD hS hA (va_runV (As := [.int (iI 11), .int (iI 150)]) (rest := []) X.1 (k_X10_draft l t ad (f11, fs.2) 11 150 (by decide) _) (cwV 2 X.1.2.2.2.2 gX10_clearDraft_X10_draft rfl rfl rfl hd_X10_draft ⟨Nat.le_of_ble_eq_true rfl, Nat.le_of_ble_eq_true rfl⟩) ⟨c_blind, va_recv (q0 := 0) X.2.1 hP rfl rfl, x_cpreA X hP hD hS hAg⟩ rfl rfl hl.1 rfl (lv_room (Nat.le_of_ble_eq_true rfl)) dX10_clearDraft_82 ⟨by decide, by decide⟩) (fun _ H locs hP hD hS => ?_)
  generalize hf12 : fU f11 (15 + 11) 150 = f12 at hP hD
  refine lv_aload_n X.1.1 X.1.2.1 dX10_clearDraft_85 rfl (lv_at hl 0 rfl) ?_
  refine x_bipush X dX10_clearDraft_86 (by decide) ?_
  refine x_iconst X dX10_clearDraft_88 ?_
  refine x_ka hD hS hA (va_runV (As := [.int (iI 12), .int (iI 3)]) (rest := []) X.1 (k_X10_draft l t ad (f12, fs.2) 12 3 (by decide) _) (cwV 2 X.1.2.2.2.2 gX10_clearDraft_X10_draft rfl rfl rfl hd_X10_draft ⟨Nat.le_of_ble_eq_true rfl, Nat.le_of_ble_eq_true rfl⟩) ⟨c_blind, va_recv (q0 := 0) X.2.1 hP rfl rfl, x_cpreA X hP hD hS hAg⟩ rfl rfl hl.1 rfl (lv_room (Nat.le_of_ble_eq_true rfl)) dX10_clearDraft_89 ⟨by decide, by decide⟩) (fun _ H locs hP hD hS => ?_)
  generalize hf13 : fU f12 (15 + 12) 3 = f13 at hP hD
  refine lv_aload_n X.1.1 X.1.2.1 dX10_clearDraft_92 rfl (lv_at hl 0 rfl) ?_
  refine x_bipush X dX10_clearDraft_93 (by decide) ?_
  refine x_iconst X dX10_clearDraft_95 ?_
  refine x_ka hD hS hA (va_runV (As := [.int (iI 13), .int (iI 2)]) (rest := []) X.1 (k_X10_draft l t ad (f13, fs.2) 13 2 (by decide) _) (cwV 2 X.1.2.2.2.2 gX10_clearDraft_X10_draft rfl rfl rfl hd_X10_draft ⟨Nat.le_of_ble_eq_true rfl, Nat.le_of_ble_eq_true rfl⟩) ⟨c_blind, va_recv (q0 := 0) X.2.1 hP rfl rfl, x_cpreA X hP hD hS hAg⟩ rfl rfl hl.1 rfl (lv_room (Nat.le_of_ble_eq_true rfl)) dX10_clearDraft_96 ⟨by decide, by decide⟩) (fun _ H locs hP hD hS => ?_)
  generalize hf14 : fU f13 (15 + 13) 2 = f14 at hP hD
  refine lv_aload_n X.1.1 X.1.2.1 dX10_clearDraft_99 rfl (lv_at hl 0 rfl) ?_
  refine x_bipush X dX10_clearDraft_100 (by decide) ?_
  refine x_iconst X dX10_clearDraft_102 ?_
  refine x_ka hD hS hA (va_runV (As := [.int (iI 14), .int (iI 1)]) (rest := []) X.1 (k_X10_draft l t ad (f14, fs.2) 14 1 (by decide) _) (cwV 2 X.1.2.2.2.2 gX10_clearDraft_X10_draft rfl rfl rfl hd_X10_draft ⟨Nat.le_of_ble_eq_true rfl, Nat.le_of_ble_eq_true rfl⟩) ⟨c_blind, va_recv (q0 := 0) X.2.1 hP rfl rfl, x_cpreA X hP hD hS hAg⟩ rfl rfl hl.1 rfl (lv_room (Nat.le_of_ble_eq_true rfl)) dX10_clearDraft_103 ⟨by decide, by decide⟩) (fun _ H locs hP hD hS => ?_)
  generalize hf15 : fU f14 (15 + 14) 1 = f15 at hP hD
  have he : f15 = cdF fs.1 := by
    subst hf15; subst hf14; subst hf13; subst hf12; subst hf11; subst hf10; subst hf9; subst hf8; subst hf7; subst hf6; subst hf5; subst hf4; subst hf3; subst hf2; subst hf1
    rfl
  rw [he] at hP hD
  exact hret () _ _ _ _ _ _ (by decide) (by decide) dX10_clearDraft_106 hP hD hS
def lfF (h : Nat) (f : Int → Int) : Int → Int := fun j => if 0 ≤ j ∧ j < (h : Int) then f ((h : Int) + j) else f j
def lfI (h : Nat) (i : Int) (f : Int → Int) : Int → Int := fun j => if 0 ≤ j ∧ j < i then f ((h : Int) + j) else f j
theorem lfI_0 (h : Nat) (f : Int → Int) : lfI h 0 f = f := by funext j; unfold lfI; rw [if_neg (by omega)]
theorem lfI_s {h : Nat} {i : Int} {f : Int → Int} (hi : 0 ≤ i ∧ i < (h : Int)) : fU (lfI h i f) i (lfI h i f ((h : Int) + i)) = lfI h (i + 1) f := by
  funext j
  unfold fU
  by_cases h1 : j = i
  · rw [if_pos h1]; subst h1; unfold lfI; rw [if_neg (by omega), if_pos (by omega)]
  · rw [if_neg h1]; unfold lfI
    by_cases h2 : 0 ≤ j ∧ j < i
    · rw [if_pos h2, if_pos (by omega)]
    · rw [if_neg h2, if_neg (by omega)]
set_option maxRecDepth 100000 in
set_option maxHeartbeats 8000000 in
theorem k_X10_lifts (l : Launch) (t : gP) (o k h : Nat) (w : va_W) (f : Int → Int) (hk : w[k]? = some (o, iA t (2 * h) f)) (hh : h < 1000) : cM l yX10_lifts wsX10_lifts rZ0 t [.ref o] w (fun (_ : Unit) => w.set k (o, iA t (2 * h) (lfF h f))) 0 0 := by
  refine x_ofC (cc := cX10_lifts) (maxL := 2) (own := RX10) (by decide) rfl rfl (Nat.le_of_ble_eq_true rfl) ?_
  intro p e s m args below meth c Q X hm hP hD hAg hS hret ls hl
  have hA : ∀ q, s.heap.size ≤ q → va_A (w) s.heap.size q := fun q hq => Or.inr hq
  replace hl : lv_has ls 2 [(0, .ref o)] := hl
  generalize va_A (w) s.heap.size = A at hD hAg hS hret hA
  have hn2 : (((2 * h : Nat) : Int)).tdiv 2 = (h : Int) := by
    rw [show ((2 * h : Nat) : Int) = (h : Int) * 2 by omega]; exact Int.mul_tdiv_cancel _ (by decide)
  have L : ∀ (n i : Nat) (H : Heap) (locs : List Loc) (ls : Array Slot), i + n = h → va_P t.1 vwCl (w.set k (o, iA t (2 * h) (lfI h (i : Int) f))) H → va_D A (w.set k (o, iA t (2 * h) (lfI h (i : Int) f))) → va_S A s.heap H locs → lv_has ls 2 [(1, .int (iI (i : Int))), (0, .ref o)] → W p l e rZ0 s m args below meth c H locs 0 0 Q (F0 m 2 ls []) := by
    intro n
    induction n with
    | zero =>
      intro i H locs ls hi hP hD hS hl
      refine lv_iload_n X.1.1 X.1.2.1 dX10_lifts_2 rfl (lv_at hl 0 rfl) ?_
      refine lv_aload_n X.1.1 X.1.2.1 dX10_lifts_3 rfl (lv_at hl 1 rfl) ?_
      refine x_calen X k (set_at hk) hP dX10_lifts_4 ?_
      refine x_iconst X dX10_lifts_5 ?_
      refine x_idiv X ⟨by omega, by omega⟩ (by decide) (by decide) dX10_lifts_6 ?_
      rw [hn2]
      refine x_icmp_ge (tgt := 27) X ⟨by omega, by omega⟩ ⟨by omega, by omega⟩ dX10_lifts_7 (by decide) (fun _ => ?_) (fun h9 => absurd (by omega) h9)
      have e1 : lfI h (i : Int) f = lfF h f := by rw [show i = h by omega]; rfl
      rw [e1] at hP hD
      exact hret () _ _ _ _ _ _ (by decide) (by decide) dX10_lifts_27 hP hD hS
    | succ n ih =>
      intro i H locs ls hi hP hD hS hl
      refine lv_iload_n X.1.1 X.1.2.1 dX10_lifts_2 rfl (lv_at hl 0 rfl) ?_
      refine lv_aload_n X.1.1 X.1.2.1 dX10_lifts_3 rfl (lv_at hl 1 rfl) ?_
      refine x_calen X k (set_at hk) hP dX10_lifts_4 ?_
      refine x_iconst X dX10_lifts_5 ?_
      refine x_idiv X ⟨by omega, by omega⟩ (by decide) (by decide) dX10_lifts_6 ?_
      rw [hn2]
      refine x_icmp_ge (tgt := 27) X ⟨by omega, by omega⟩ ⟨by omega, by omega⟩ dX10_lifts_7 (by decide) (fun h9 => by omega) (fun _ => ?_)
      refine lv_aload_n X.1.1 X.1.2.1 dX10_lifts_10 rfl (lv_at hl 1 rfl) ?_
      refine lv_iload_n X.1.1 X.1.2.1 dX10_lifts_11 rfl (lv_at hl 0 rfl) ?_
      refine lv_aload_n X.1.1 X.1.2.1 dX10_lifts_12 rfl (lv_at hl 1 rfl) ?_
      refine lv_aload_n X.1.1 X.1.2.1 dX10_lifts_13 rfl (lv_at hl 1 rfl) ?_
      refine x_calen X k (set_at hk) hP dX10_lifts_14 ?_
      refine x_iconst X dX10_lifts_15 ?_
      refine x_idiv X ⟨by omega, by omega⟩ (by decide) (by decide) dX10_lifts_16 ?_
      rw [hn2]
      refine lv_iload_n X.1.1 X.1.2.1 dX10_lifts_17 rfl (lv_at hl 0 rfl) ?_
      refine x_iadd X dX10_lifts_18 ?_
      refine x_cald X k (set_at hk) hP (by omega) (by omega) dX10_lifts_19 ?_
      refine x_cast X k (set_at hk) hP hD hS (by omega) (by omega) dX10_lifts_20 (fun H locs hP hD hS => ?_)
      rw [List.set_set, lfI_s (by omega)] at hP hD
      refine lv_iinc (v := (iI ((i : Int) + 1))) (lv' := [(1, .int (iI ((i : Int) + 1))), (0, .ref o)]) X.1.1 X.1.2.1 dX10_lifts_21 hl (k := 0) rfl (iI_add _ _) (by decide) rfl (fun ls hl => ?_)
      refine lv_goto (tgt := 2) X.1.1 X.1.2.1 dX10_lifts_24 (by decide) ?_
      exact ih (i + 1) H locs ls (by omega) hP hD hS hl
  refine x_iconst X dX10_lifts_0 ?_
  refine lv_istore_n (lv' := [(1, .int (iI 0)), (0, .ref o)]) X.1.1 X.1.2.1 dX10_lifts_1 rfl hl (by decide) rfl (fun ls hl => ?_)
  have e0 : w.set k (o, iA t (2 * h) (lfI h ((0 : Nat) : Int) f)) = w := by
    rw [show ((0 : Nat) : Int) = 0 from rfl, lfI_0]
    apply List.ext_getElem?
    intro i
    by_cases hi : i = k
    · subst hi; rw [set_at hk, hk]
    · rw [List.getElem?_set_ne (Ne.symm hi)]
  exact L h 0 _ _ ls (by omega) (by rw [e0]; exact hP) (by rw [e0]; exact hD) hS hl
set_option maxRecDepth 100000 in
set_option maxHeartbeats 8000000 in
theorem k_X10_liftsAll (l : Launch) (t : gP) (ad : Nat → Nat) (fs : fS5) : cM l yX10_liftsAll wsX10_liftsAll rZ1 t [.ref (ad 0)] (modW t ad fs) (fun (_ : Unit) => modW t ad (lfF 15 fs.1, lfF 8 fs.2.1, lfF 8 fs.2.2.1, lfF 8 fs.2.2.2.1, lfF 8 fs.2.2.2.2)) 0 0 := by
  refine x_ofC (cc := cX10_liftsAll) (maxL := 1) (own := RX10) (by decide) rfl rfl (Nat.le_of_ble_eq_true rfl) ?_
  intro p e s m args below meth c Q X hm hP hD hAg hS hret ls hl
  have hA : ∀ q, s.heap.size ≤ q → va_A (modW t ad fs) s.heap.size q := fun q hq => Or.inr hq
  replace hl : lv_has ls 1 [(0, .ref (ad 0))] := hl
  generalize va_A (modW t ad fs) s.heap.size = A at hD hAg hS hret hA
  have iX10 : ∀ w ∈ wsX100, w ∈ wsX10_liftsAll := by decide +kernel
  refine lv_aload_n X.1.1 X.1.2.1 dX10_liftsAll_0 rfl (lv_at hl 0 rfl) ?_
  refine x_cgetk X (i := 0) rfl hP iX10 rfl 2 (by decide) (x_w 1 rfl) rfl dX10_liftsAll_1 ?_
  refine x_ka (post := fun (_ : Unit) => modW t ad (lfF 15 fs.1, fs.2.1, fs.2.2.1, fs.2.2.2.1, fs.2.2.2.2)) hD hS hA (va_runS (As := [.ref (ad 2)]) (rest := []) X.1 (k_X10_lifts l t (ad 2) 2 15 _ fs.1 rfl (by decide) _) (va_cwS 1 X.1.2.2.2.2 gX10_liftsAll_X10_lifts rfl rfl rfl hds_X10_lifts ⟨Nat.le_of_ble_eq_true rfl, Nat.le_of_ble_eq_true rfl⟩) ⟨c_blind, x_cpreA X hP hD hS hAg⟩ rfl rfl hl.1 rfl (lv_room (Nat.le_of_ble_eq_true rfl)) dX10_liftsAll_4 ⟨by decide, by decide⟩) (fun _ H locs hP hD hS => ?_)
  refine lv_aload_n X.1.1 X.1.2.1 dX10_liftsAll_7 rfl (lv_at hl 0 rfl) ?_
  refine x_cgetk X (i := 0) rfl hP iX10 rfl 3 (by decide) (x_w 2 rfl) rfl dX10_liftsAll_8 ?_
  refine x_ka (post := fun (_ : Unit) => modW t ad (lfF 15 fs.1, lfF 8 fs.2.1, fs.2.2.1, fs.2.2.2.1, fs.2.2.2.2)) hD hS hA (va_runS (As := [.ref (ad 3)]) (rest := []) X.1 (k_X10_lifts l t (ad 3) 3 8 _ fs.2.1 rfl (by decide) _) (va_cwS 1 X.1.2.2.2.2 gX10_liftsAll_X10_lifts rfl rfl rfl hds_X10_lifts ⟨Nat.le_of_ble_eq_true rfl, Nat.le_of_ble_eq_true rfl⟩) ⟨c_blind, x_cpreA X hP hD hS hAg⟩ rfl rfl hl.1 rfl (lv_room (Nat.le_of_ble_eq_true rfl)) dX10_liftsAll_11 ⟨by decide, by decide⟩) (fun _ H locs hP hD hS => ?_)
  refine lv_aload_n X.1.1 X.1.2.1 dX10_liftsAll_14 rfl (lv_at hl 0 rfl) ?_
  refine x_cgetk X (i := 0) rfl hP iX10 rfl 4 (by decide) (x_w 3 rfl) rfl dX10_liftsAll_15 ?_
  refine x_ka (post := fun (_ : Unit) => modW t ad (lfF 15 fs.1, lfF 8 fs.2.1, lfF 8 fs.2.2.1, fs.2.2.2.1, fs.2.2.2.2)) hD hS hA (va_runS (As := [.ref (ad 4)]) (rest := []) X.1 (k_X10_lifts l t (ad 4) 4 8 _ fs.2.2.1 rfl (by decide) _) (va_cwS 1 X.1.2.2.2.2 gX10_liftsAll_X10_lifts rfl rfl rfl hds_X10_lifts ⟨Nat.le_of_ble_eq_true rfl, Nat.le_of_ble_eq_true rfl⟩) ⟨c_blind, x_cpreA X hP hD hS hAg⟩ rfl rfl hl.1 rfl (lv_room (Nat.le_of_ble_eq_true rfl)) dX10_liftsAll_18 ⟨by decide, by decide⟩) (fun _ H locs hP hD hS => ?_)
  refine lv_aload_n X.1.1 X.1.2.1 dX10_liftsAll_21 rfl (lv_at hl 0 rfl) ?_
  refine x_cgetk X (i := 0) rfl hP iX10 rfl 5 (by decide) (x_w 4 rfl) rfl dX10_liftsAll_22 ?_
  refine x_ka (post := fun (_ : Unit) => modW t ad (lfF 15 fs.1, lfF 8 fs.2.1, lfF 8 fs.2.2.1, lfF 8 fs.2.2.2.1, fs.2.2.2.2)) hD hS hA (va_runS (As := [.ref (ad 5)]) (rest := []) X.1 (k_X10_lifts l t (ad 5) 5 8 _ fs.2.2.2.1 rfl (by decide) _) (va_cwS 1 X.1.2.2.2.2 gX10_liftsAll_X10_lifts rfl rfl rfl hds_X10_lifts ⟨Nat.le_of_ble_eq_true rfl, Nat.le_of_ble_eq_true rfl⟩) ⟨c_blind, x_cpreA X hP hD hS hAg⟩ rfl rfl hl.1 rfl (lv_room (Nat.le_of_ble_eq_true rfl)) dX10_liftsAll_25 ⟨by decide, by decide⟩) (fun _ H locs hP hD hS => ?_)
  refine lv_aload_n X.1.1 X.1.2.1 dX10_liftsAll_28 rfl (lv_at hl 0 rfl) ?_
  refine x_cgetk X (i := 0) rfl hP iX10 rfl 6 (by decide) (x_w 5 rfl) rfl dX10_liftsAll_29 ?_
  refine x_ka (post := fun (_ : Unit) => modW t ad (lfF 15 fs.1, lfF 8 fs.2.1, lfF 8 fs.2.2.1, lfF 8 fs.2.2.2.1, lfF 8 fs.2.2.2.2)) hD hS hA (va_runS (As := [.ref (ad 6)]) (rest := []) X.1 (k_X10_lifts l t (ad 6) 6 8 _ fs.2.2.2.2 rfl (by decide) _) (va_cwS 1 X.1.2.2.2.2 gX10_liftsAll_X10_lifts rfl rfl rfl hds_X10_lifts ⟨Nat.le_of_ble_eq_true rfl, Nat.le_of_ble_eq_true rfl⟩) ⟨c_blind, x_cpreA X hP hD hS hAg⟩ rfl rfl hl.1 rfl (lv_room (Nat.le_of_ble_eq_true rfl)) dX10_liftsAll_32 ⟨by decide, by decide⟩) (fun _ H locs hP hD hS => ?_)
  exact hret () _ _ _ _ _ _ (by decide) (by decide) dX10_liftsAll_35 hP hD hS
theorem fU_0 (i : Int) : fU (fun _ => 0) i 0 = fun _ => 0 := by
  funext j
  unfold fU
  by_cases h : j = i
  · rw [if_pos h]
  · rw [if_neg h]
set_option maxRecDepth 100000 in
set_option maxHeartbeats 8000000 in
theorem k_X10_begins (l : Launch) (t : gP) (ad : Nat → Nat) (fs : fS5) : cM l yX10_begins wsX10_begins rZ0 t [.ref (ad 0)] (modW t ad fs) (fun (_ : Unit) => modW t ad fs) 0 0 := by
  refine x_ofC (cc := cX10_begins) (maxL := 2) (own := RX10) (by decide) rfl rfl (Nat.le_of_ble_eq_true rfl) ?_
  intro p e s m args below meth c Q X hm hP hD hAg hS hret ls hl
  have hA : ∀ q, s.heap.size ≤ q → va_A (modW t ad fs) s.heap.size q := fun q hq => Or.inr hq
  replace hl : lv_has ls 2 [(0, .ref (ad 0))] := hl
  generalize va_A (modW t ad fs) s.heap.size = A at hD hAg hS hret hA
  have iX10 : ∀ w ∈ wsX100, w ∈ wsX10_begins := by decide +kernel
  have L : ∀ (n i : Nat) (H : Heap) (locs : List Loc) (ls : Array Slot), i + n = 1167 → va_P t.1 vwCl (modW t ad fs) H → va_D A (modW t ad fs) → va_S A s.heap H locs → lv_has ls 2 [(1, .int (iI (i : Int))), (0, .ref (ad 0))] → W p l e rZ0 s m args below meth c H locs 0 0 Q (F0 m 2 ls []) := by
    intro n
    induction n with
    | zero =>
      intro i H locs ls hi hP hD hS hl
      refine lv_iload_n X.1.1 X.1.2.1 dX10_begins_2 rfl (lv_at hl 0 rfl) ?_
      refine x_sipush X dX10_begins_3 (by decide) ?_
      refine x_icmp_ge (tgt := 22) X ⟨by omega, by omega⟩ (by decide) dX10_begins_6 (by decide) (fun _ => ?_) (fun h9 => absurd (by omega) h9)
      refine lv_aload_n X.1.1 X.1.2.1 dX10_begins_22 rfl (lv_at hl 1 rfl) ?_
      refine x_iconst X dX10_begins_23 ?_
      refine x_cputk X (i := 0) rfl hP hD hS tyX10 tyX10_ok nmX10 iX10 rfl 22 (by decide) (x_w 2 rfl) rfl rfl (ty := .int) rfl rfl (Nat.le_of_ble_eq_true rfl) dX10_begins_24 (fun H locs hP hD hS => ?_)
      replace hP : va_P t.1 vwCl (modW t ad fs) H := hP
      replace hD : va_D A (modW t ad fs) := hD
      refine lv_aload_n X.1.1 X.1.2.1 dX10_begins_27 rfl (lv_at hl 1 rfl) ?_
      refine x_cgetk X (i := 0) rfl hP iX10 rfl 25 (by decide) (x_w 3 rfl) rfl dX10_begins_28 ?_
      refine x_iconst X dX10_begins_31 ?_
      refine x_iconst X dX10_begins_32 ?_
      refine x_czast0 X (o := ad 13) (n := 2) 13 rfl hP hD hS (by decide) (by decide) dX10_begins_33 (fun H locs hP hD hS => ?_)
      replace hP : va_P t.1 vwCl (modW t ad fs) H := hP
      replace hD : va_D A (modW t ad fs) := hD
      refine lv_aload_n X.1.1 X.1.2.1 dX10_begins_34 rfl (lv_at hl 1 rfl) ?_
      refine x_cgetk X (i := 0) rfl hP iX10 rfl 25 (by decide) (x_w 3 rfl) rfl dX10_begins_35 ?_
      refine x_iconst X dX10_begins_38 ?_
      refine x_iconst X dX10_begins_39 ?_
      refine x_czast0 X (o := ad 13) (n := 2) 13 rfl hP hD hS (by decide) (by decide) dX10_begins_40 (fun H locs hP hD hS => ?_)
      exact hret () _ _ _ _ _ _ (by decide) (by decide) dX10_begins_41 hP hD hS
    | succ n ih =>
      intro i H locs ls hi hP hD hS hl
      refine lv_iload_n X.1.1 X.1.2.1 dX10_begins_2 rfl (lv_at hl 0 rfl) ?_
      refine x_sipush X dX10_begins_3 (by decide) ?_
      refine x_icmp_ge (tgt := 22) X ⟨by omega, by omega⟩ (by decide) dX10_begins_6 (by decide) (fun h9 => by omega) (fun _ => ?_)
      refine lv_aload_n X.1.1 X.1.2.1 dX10_begins_9 rfl (lv_at hl 1 rfl) ?_
      refine x_cgetk X (i := 0) rfl hP iX10 rfl 1 (by decide) (x_w 1 rfl) rfl dX10_begins_10 ?_
      refine lv_iload_n X.1.1 X.1.2.1 dX10_begins_13 rfl (lv_at hl 0 rfl) ?_
      refine x_iconst X dX10_begins_14 ?_
      refine x_cast X (o := ad 1) (n := 1167) (f := fun _ => 0) 1 rfl hP hD hS (by omega) (by decide) dX10_begins_15 (fun H locs hP hD hS => ?_)
      rw [fU_0] at hP hD
      refine lv_iinc (v := (iI ((i : Int) + 1))) (lv' := [(1, .int (iI ((i : Int) + 1))), (0, .ref (ad 0))]) X.1.1 X.1.2.1 dX10_begins_16 hl (k := 0) rfl (iI_add _ _) (by decide) rfl (fun ls hl => ?_)
      refine lv_goto (tgt := 2) X.1.1 X.1.2.1 dX10_begins_19 (by decide) ?_
      exact ih (i + 1) H locs ls (by omega) hP hD hS hl
  refine x_iconst X dX10_begins_0 ?_
  refine lv_istore_n (lv' := [(1, .int (iI 0)), (0, .ref (ad 0))]) X.1.1 X.1.2.1 dX10_begins_1 rfl hl (by decide) rfl (fun ls hl => ?_)
  exact L 1167 0 _ _ ls (by omega) hP hD hS hl
def tdF : Int → Int := lfF 15 (cdF (fun _ => 0))
theorem lfF_0 (h : Nat) : lfF h (fun _ => 0) = fun _ => 0 := by
  funext j; unfold lfF
  by_cases h1 : 0 ≤ j ∧ j < (h : Int)
  · rw [if_pos h1]
  · rw [if_neg h1]
abbrev rX10_init : Room := { frames := 2, cells := 13, slots := 17115, locals := 60 }
set_option maxRecDepth 100000 in
set_option maxHeartbeats 8000000 in
theorem c_X10_init (l : Launch) (t : gP) (a : Nat) : cM l yX10_init wsX10_init rX10_init t [.ref a] [(a, .inr (14, [.int 0, .null, .null, .null, .null, .null, .null, .null, .int 0, .int 0, .int 0, .int 0, .int 0, .int 0, .int 0, .int 0, .int 0, .int 0, .null, .null, .int 0, .null, .int 0, .null, .null, .null]))] (fun (ad : {ad : Nat → Nat // ad 0 = a}) => modW t ad.1 (tdF, (fun _ => 0), (fun _ => 0), (fun _ => 0), (fun _ => 0))) 13 17115 := by
  refine x_ofC (cc := cX10_init) (maxL := 1) (own := RX10) (by decide) rfl rfl (Nat.le_of_ble_eq_true rfl) ?_
  intro p e s m args below meth c Q X hm hP hD hAg hS hret ls hl
  have hA : ∀ q, s.heap.size ≤ q → va_A ([(a, .inr (14, [.int 0, .null, .null, .null, .null, .null, .null, .null, .int 0, .int 0, .int 0, .int 0, .int 0, .int 0, .int 0, .int 0, .int 0, .int 0, .null, .null, .int 0, .null, .int 0, .null, .null, .null]))]) s.heap.size q := fun q hq => Or.inr hq
  replace hl : lv_has ls 1 [(0, .ref a)] := hl
  generalize va_A ([(a, .inr (14, [.int 0, .null, .null, .null, .null, .null, .null, .null, .int 0, .int 0, .int 0, .int 0, .int 0, .int 0, .int 0, .int 0, .int 0, .int 0, .null, .null, .int 0, .null, .int 0, .null, .null, .null]))]) s.heap.size = A at hD hAg hS hret hA
  have iX10 : ∀ w ∈ wsX100, w ∈ wsX10_init := by decide +kernel
  refine lv_aload_n X.1.1 X.1.2.1 dX10_init_0 rfl (lv_at hl 0 rfl) ?_
  refine x_cobj X (x_w 1 rfl) (x_w 2 rfl) (x_w 3 rfl) hl.1 dX10_init_1 (by decide) (by decide) (by decide) ?_
  refine lv_aload_n X.1.1 X.1.2.1 dX10_init_4 rfl (lv_at hl 0 rfl) ?_
  refine x_sipush X dX10_init_5 (by decide) ?_
  refine x_cnewi (N' := 1167) X hP hD hS hA (x_w 4 rfl) ⟨rfl, by decide⟩ (by decide) (by decide) dX10_init_8 (fun b0 H hP hD hS => ?_)
  refine x_cputF X hm hP hD hS tyX10 tyX10_ok nmX10 iX10 rfl 1 (by decide) (x_w 5 rfl) rfl rfl (ty := .array .int) (by decide +kernel) rfl rfl (Nat.le_of_ble_eq_true rfl) dX10_init_10 (fun H locs hP hD hS => ?_)
  refine lv_aload_n X.1.1 X.1.2.1 dX10_init_13 rfl (lv_at hl 0 rfl) ?_
  refine x_bipush X dX10_init_14 (by decide) ?_
  refine x_cnewi (N' := 30) X hP hD hS hA (x_w 4 rfl) ⟨rfl, by decide⟩ (by decide) (by decide) dX10_init_16 (fun b1 H hP hD hS => ?_)
  refine x_cputF X hm hP hD hS tyX10 tyX10_ok nmX10 iX10 rfl 2 (by decide) (x_w 6 rfl) rfl rfl (ty := .array .int) (by decide +kernel) rfl rfl (Nat.le_of_ble_eq_true rfl) dX10_init_18 (fun H locs hP hD hS => ?_)
  refine lv_aload_n X.1.1 X.1.2.1 dX10_init_21 rfl (lv_at hl 0 rfl) ?_
  refine x_bipush X dX10_init_22 (by decide) ?_
  refine x_cnewi (N' := 16) X hP hD hS hA (x_w 4 rfl) ⟨rfl, by decide⟩ (by decide) (by decide) dX10_init_24 (fun b2 H hP hD hS => ?_)
  refine x_cputF X hm hP hD hS tyX10 tyX10_ok nmX10 iX10 rfl 3 (by decide) (x_w 7 rfl) rfl rfl (ty := .array .int) (by decide +kernel) rfl rfl (Nat.le_of_ble_eq_true rfl) dX10_init_26 (fun H locs hP hD hS => ?_)
  refine lv_aload_n X.1.1 X.1.2.1 dX10_init_29 rfl (lv_at hl 0 rfl) ?_
  refine x_bipush X dX10_init_30 (by decide) ?_
  refine x_cnewi (N' := 16) X hP hD hS hA (x_w 4 rfl) ⟨rfl, by decide⟩ (by decide) (by decide) dX10_init_32 (fun b3 H hP hD hS => ?_)
  refine x_cputF X hm hP hD hS tyX10 tyX10_ok nmX10 iX10 rfl 4 (by decide) (x_w 8 rfl) rfl rfl (ty := .array .int) (by decide +kernel) rfl rfl (Nat.le_of_ble_eq_true rfl) dX10_init_34 (fun H locs hP hD hS => ?_)
  refine lv_aload_n X.1.1 X.1.2.1 dX10_init_37 rfl (lv_at hl 0 rfl) ?_
  refine x_bipush X dX10_init_38 (by decide) ?_
  refine x_cnewi (N' := 16) X hP hD hS hA (x_w 4 rfl) ⟨rfl, by decide⟩ (by decide) (by decide) dX10_init_40 (fun b4 H hP hD hS => ?_)
  refine x_cputF X hm hP hD hS tyX10 tyX10_ok nmX10 iX10 rfl 5 (by decide) (x_w 9 rfl) rfl rfl (ty := .array .int) (by decide +kernel) rfl rfl (Nat.le_of_ble_eq_true rfl) dX10_init_42 (fun H locs hP hD hS => ?_)
  refine lv_aload_n X.1.1 X.1.2.1 dX10_init_45 rfl (lv_at hl 0 rfl) ?_
  refine x_bipush X dX10_init_46 (by decide) ?_
  refine x_cnewi (N' := 16) X hP hD hS hA (x_w 4 rfl) ⟨rfl, by decide⟩ (by decide) (by decide) dX10_init_48 (fun b5 H hP hD hS => ?_)
  refine x_cputF X hm hP hD hS tyX10 tyX10_ok nmX10 iX10 rfl 6 (by decide) (x_w 10 rfl) rfl rfl (ty := .array .int) (by decide +kernel) rfl rfl (Nat.le_of_ble_eq_true rfl) dX10_init_50 (fun H locs hP hD hS => ?_)
  refine lv_aload_n X.1.1 X.1.2.1 dX10_init_53 rfl (lv_at hl 0 rfl) ?_
  refine x_sipush X dX10_init_54 (by decide) ?_
  refine x_cnewb (N' := 500) X hP hD hS hA (x_w 11 rfl) ⟨rfl, by decide⟩ (by decide) (by decide) dX10_init_57 (fun b6 H hP hD hS => ?_)
  refine x_cputF X hm hP hD hS tyX10 tyX10_ok nmX10 iX10 rfl 7 (by decide) (x_w 12 rfl) rfl rfl (ty := .array .byte) (by decide +kernel) rfl rfl (Nat.le_of_ble_eq_true rfl) dX10_init_59 (fun H locs hP hD hS => ?_)
  refine lv_aload_n X.1.1 X.1.2.1 dX10_init_62 rfl (lv_at hl 0 rfl) ?_
  refine x_iconst X dX10_init_63 ?_
  refine x_cput X hP hD hS tyX10 tyX10_ok nmX10 iX10 rfl 15 (by decide) (x_w 13 rfl) rfl rfl (ty := .int) (by decide) (by decide) (Nat.le_of_ble_eq_true rfl) dX10_init_64 (fun H locs hP hD hS => ?_)
  refine lv_aload_n X.1.1 X.1.2.1 dX10_init_67 rfl (lv_at hl 0 rfl) ?_
  refine x_bipush X dX10_init_68 (by decide) ?_
  refine x_cnewi (N' := 101) X hP hD hS hA (x_w 4 rfl) ⟨rfl, by decide⟩ (by decide) (by decide) dX10_init_70 (fun b7 H hP hD hS => ?_)
  refine x_cputF X hm hP hD hS tyX10 tyX10_ok nmX10 iX10 rfl 18 (by decide) (x_w 14 rfl) rfl rfl (ty := .array .int) (by decide +kernel) rfl rfl (Nat.le_of_ble_eq_true rfl) dX10_init_72 (fun H locs hP hD hS => ?_)
  refine lv_aload_n X.1.1 X.1.2.1 dX10_init_75 rfl (lv_at hl 0 rfl) ?_
  refine x_bipush X dX10_init_76 (by decide) ?_
  refine x_cnewi (N' := 80) X hP hD hS hA (x_w 4 rfl) ⟨rfl, by decide⟩ (by decide) (by decide) dX10_init_78 (fun b8 H hP hD hS => ?_)
  refine x_cputF X hm hP hD hS tyX10 tyX10_ok nmX10 iX10 rfl 19 (by decide) (x_w 15 rfl) rfl rfl (ty := .array .int) (by decide +kernel) rfl rfl (Nat.le_of_ble_eq_true rfl) dX10_init_80 (fun H locs hP hD hS => ?_)
  refine lv_aload_n X.1.1 X.1.2.1 dX10_init_83 rfl (lv_at hl 0 rfl) ?_
  refine x_sipush X dX10_init_84 (by decide) ?_
  refine x_cnewi (N' := 1167) X hP hD hS hA (x_w 4 rfl) ⟨rfl, by decide⟩ (by decide) (by decide) dX10_init_87 (fun b9 H hP hD hS => ?_)
  refine x_cputF X hm hP hD hS tyX10 tyX10_ok nmX10 iX10 rfl 21 (by decide) (x_w 16 rfl) rfl rfl (ty := .array .int) (by decide +kernel) rfl rfl (Nat.le_of_ble_eq_true rfl) dX10_init_89 (fun H locs hP hD hS => ?_)
  refine lv_aload_n X.1.1 X.1.2.1 dX10_init_92 rfl (lv_at hl 0 rfl) ?_
  refine x_sipush X dX10_init_93 (by decide) ?_
  refine x_cnewi (N' := 11670) X hP hD hS hA (x_w 4 rfl) ⟨rfl, by decide⟩ (by decide) (by decide) dX10_init_96 (fun b10 H hP hD hS => ?_)
  refine x_cputF X hm hP hD hS tyX10 tyX10_ok nmX10 iX10 rfl 23 (by decide) (x_w 17 rfl) rfl rfl (ty := .array .int) (by decide +kernel) rfl rfl (Nat.le_of_ble_eq_true rfl) dX10_init_98 (fun H locs hP hD hS => ?_)
  refine lv_aload_n X.1.1 X.1.2.1 dX10_init_101 rfl (lv_at hl 0 rfl) ?_
  refine x_sipush X dX10_init_102 (by decide) ?_
  refine x_cnewi (N' := 2334) X hP hD hS hA (x_w 4 rfl) ⟨rfl, by decide⟩ (by decide) (by decide) dX10_init_105 (fun b11 H hP hD hS => ?_)
  refine x_cputF X hm hP hD hS tyX10 tyX10_ok nmX10 iX10 rfl 24 (by decide) (x_w 18 rfl) rfl rfl (ty := .array .int) (by decide +kernel) rfl rfl (Nat.le_of_ble_eq_true rfl) dX10_init_107 (fun H locs hP hD hS => ?_)
  refine lv_aload_n X.1.1 X.1.2.1 dX10_init_110 rfl (lv_at hl 0 rfl) ?_
  refine x_iconst X dX10_init_111 ?_
  refine x_cnewz (N' := 2) X hP hD hS hA (x_w 19 rfl) ⟨rfl, by decide⟩ (by decide) (by decide) dX10_init_112 (fun b12 H hP hD hS => ?_)
  refine x_cputF X hm hP hD hS tyX10 tyX10_ok nmX10 iX10 rfl 25 (by decide) (x_w 20 rfl) rfl rfl (ty := .array .boolean) (by decide +kernel) rfl rfl (Nat.le_of_ble_eq_true rfl) dX10_init_114 (fun H locs hP hD hS => ?_)
  generalize had : (fun k => [a, b0, b1, b2, b3, b4, b5, b6, b7, b8, b9, b10, b11, b12].getD k 0 : Nat → Nat) = ad
  have h0 : a = ad 0 := by subst had; rfl
  replace hP : va_P t.1 vwCl (modW t ad ((fun _ => 0), (fun _ => 0), (fun _ => 0), (fun _ => 0), (fun _ => 0))) H := by subst had; exact hP
  replace hD : va_D A (modW t ad ((fun _ => 0), (fun _ => 0), (fun _ => 0), (fun _ => 0), (fun _ => 0))) := by subst had; exact hD
  rw [h0] at hl
  refine lv_aload_n X.1.1 X.1.2.1 dX10_init_117 rfl (lv_at hl 0 rfl) ?_
  refine x_ka hD hS hA (va_runV (As := []) (rest := []) X.1 (k_X10_clearDraft l t ad _ _) (cwV 0 X.1.2.2.2.2 gX10_init_X10_clearDraft rfl rfl rfl hd_X10_clearDraft ⟨Nat.le_of_ble_eq_true rfl, Nat.le_of_ble_eq_true rfl⟩) ⟨c_blind, va_recv (q0 := 0) X.2.1 hP rfl rfl, x_cpreA X hP hD hS hAg⟩ rfl rfl hl.1 rfl (lv_room (Nat.le_of_ble_eq_true rfl)) dX10_init_118 ⟨by decide, by decide⟩) (fun _ H locs hP hD hS => ?_)
  refine lv_aload_n X.1.1 X.1.2.1 dX10_init_121 rfl (lv_at hl 0 rfl) ?_
  refine x_ka hD hS hA (va_runV (As := []) (rest := []) X.1 (k_X10_liftsAll l t ad _ _) (cwV 0 X.1.2.2.2.2 gX10_init_X10_liftsAll rfl rfl rfl hd_X10_liftsAll ⟨Nat.le_of_ble_eq_true rfl, Nat.le_of_ble_eq_true rfl⟩) ⟨c_blind, va_recv (q0 := 0) X.2.1 hP rfl rfl, x_cpreA X hP hD hS hAg⟩ rfl rfl hl.1 rfl (lv_room (Nat.le_of_ble_eq_true rfl)) dX10_init_122 ⟨by decide, by decide⟩) (fun _ H locs hP hD hS => ?_)
  refine lv_aload_n X.1.1 X.1.2.1 dX10_init_125 rfl (lv_at hl 0 rfl) ?_
  refine x_ka hD hS hA (va_runV (As := []) (rest := []) X.1 (k_X10_begins l t ad _ _) (cwV 0 X.1.2.2.2.2 gX10_init_X10_begins rfl rfl rfl hd_X10_begins ⟨Nat.le_of_ble_eq_true rfl, Nat.le_of_ble_eq_true rfl⟩) ⟨c_blind, va_recv (q0 := 0) X.2.1 hP rfl rfl, x_cpreA X hP hD hS hAg⟩ rfl rfl hl.1 rfl (lv_room (Nat.le_of_ble_eq_true rfl)) dX10_init_126 ⟨by decide, by decide⟩) (fun _ H locs hP hD hS => ?_)
  have e1 : modW t ad (lfF 15 (cdF (fun _ => 0)), lfF 8 (fun _ => 0), lfF 8 (fun _ => 0), lfF 8 (fun _ => 0), lfF 8 (fun _ => 0)) = modW t ad (tdF, (fun _ => 0), (fun _ => 0), (fun _ => 0), (fun _ => 0)) := by rw [lfF_0]; rfl
  replace hP := Eq.mp (congrArg (fun z => va_P t.1 vwCl z H) e1) hP
  replace hD := Eq.mp (congrArg (fun z => va_D A z) e1) hD
  exact hret ⟨ad, h0.symm⟩ _ _ _ _ _ _ (by decide) (by decide) dX10_init_129 hP hD hS
theorem hd_X10_init : yX10_init.cls ≠ "java/lang/invoke/MethodHandle" ∧ yX10_init.cls ≠ "java/lang/invoke/VarHandle" ∧ (parseMethodDescriptor yX10_init.desc).map (fun d => d.parameters.length) = some 0 := by decide +kernel
