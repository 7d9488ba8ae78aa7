/-! a StringBuilder made anew at cells 37, 38 (the one before kept at 287, 288, or not), and the one before taken up again -/
abbrev sbk (k : Nat) : Prop := k = 37 ∨ k = 38 ∨ k = 287 ∨ k = 288
theorem gE_1 {t : gP} {u : uS} {k : Nat} (h : sT k = 1) : gE t u k = .inr (1, [.ref (t.2.2.1 (k + 1)), .int (iI (u k 1)), .int (iI (u k 2)), .int (iI (u k 3))]) := by
  unfold gE gO
  have e2 : fN 1 = 4 := by decide +kernel
  rw [h, if_pos (by decide), e2]
  have hm9 : (List.range 4).map (gV t u k) = [.ref (t.2.2.1 (k + 1)), .int (iI (u k 1)), .int (iI (u k 2)), .int (iI (u k 3))] := by
    show [gV t u k 0, gV t u k 1, gV t u k 2, gV t u k 3] = _
    have c0 : fC 1 0 = 1 := by decide +kernel
    have c1 : fC 1 1 = 0 := by decide +kernel
    have c2 : fC 1 2 = 0 := by decide +kernel
    have c3 : fC 1 3 = 0 := by decide +kernel
    unfold gV
    rw [h, c0, c1, c2, c3, if_neg (by decide), if_neg (by decide), if_pos rfl, if_pos rfl, if_pos rfl]
    rfl
  rw [hm9]
theorem gE_38 {t : gP} {u : uS} : gE t u 38 = .inl (t.2.1 102, (u 1000 1).toNat, .inl (fun j => iI (u 38 (j : Int)))) := by
  unfold gE
  rw [if_neg (by decide), if_neg (by decide), if_neg (by decide), if_pos (by decide)]
theorem gE_288 {t : gP} {u : uS} : gE t u 288 = .inl (t.2.1 102, (u 1000 3).toNat, .inl (fun j => iI (u 288 (j : Int)))) := by
  unfold gE
  have e : sT 288 = 109 := by decide +kernel
  rw [e, if_neg (by decide), if_neg (by decide), if_neg (by decide), if_neg (by decide), if_neg (by decide), if_pos rfl]
theorem G.sb {t t' : gP} {u u' : uS} {H H1 : Heap} {L : va_W} (hG : G t u H) (hm : mkOk u) (e1 : t'.1 = t.1) (e2 : t'.2.1 = t.2.1) (e3 : t'.2.2.2 = t.2.2.2) (hP : va_P t.1 vwCl (gL t u ++ L) H1) (hD : va_D (gA t) (gL t u ++ L))
    (ho : ∀ k, k < 1000 → ¬ sbk k → t'.2.2.1 k = t.2.2.1 k) (hal : ∀ k, ¬ sbk k → al t' k → al t k) (hu : ∀ k, ¬ sbk k → k ≠ 1000 → ∀ j, u' k j = u k j) (h2 : u' 1000 2 = u 1000 2)
    (pos : Nat → Nat) (hp : ∀ k, sbk k → al t' k → (gL t u ++ L)[pos k]? = some (gad t' k, gE t' u' k)) (hi : ∀ i j, sbk i → sbk j → al t' i → al t' j → pos i = pos j → i = j) (hx : ∀ i k, sbk i → al t' i → ¬ sbk k → al t k → pos i ≠ gi t k) (hC : gC t' u') : G t' u' H1 := by
  have hM : NM = 358 := rfl
  refine G.gen (u := u) (H := H) (L := gL t u ++ L) e1 e3 hP hD (fun k => if sbk k then pos k else gi t k) (fun k hk => ?_) (fun i j h1 h2 hij => ?_) hC
  · by_cases h : sbk k
    · show _[if sbk k then pos k else gi t k]? = _
      rw [if_pos h]; exact hp k h hk
    · show _[if sbk k then pos k else gi t k]? = _
      have h1 := hal k h hk
      have hlt := al_lt h1
      rw [if_neg h, List.getElem?_append_left (gi_lt h1), gL_at h1]
      have e4 : gad t' k = gad t k := ho k (by omega) h
      have e5 : gE t' u' k = gE t u k := by
        refine gE_keep e2 (hu k h (by omega)) ⟨fun q => ?_, fun _ => h2, fun q => ?_⟩ (fun z hz => ?_)
        · exact absurd (((sT_l k hlt).1).mp q) (fun w => h (Or.inr (Or.inl w)))
        · exact absurd (((sT_l k hlt).2.2).mp q) (fun w => h (Or.inr (Or.inr (Or.inr w))))
        · by_cases h264 : k < 264
          · rcases ref_c h264 (fun w => h (Or.inl w)) hz with q | ⟨-, q | q⟩
            · exact ho z (by omega) (by omega)
            · have := hm.1; exact ho z (by omega) (by omega)
            · have := hm.2; exact ho z (by omega) (by omega)
          · rcases ref_l hG.2.2.2 h1 (by omega) hz with ⟨q1, q2, q3, -⟩ | ⟨q1, q2, -⟩ | ⟨-, q2, q1⟩ | ⟨-, q2, q1⟩ | ⟨q1, -⟩ | ⟨-, q1⟩
            · exact ho z (by omega) (by omega)
            · have := sT_16 k hlt q1; exact ho z (by omega) (by omega)
            · have := sT_16 z (al_lt q2) q1; exact ho z (by omega) (by omega)
            · have := sT_15 z (al_lt q2) q1; exact ho z (by omega) (by omega)
            · exact absurd (Or.inr (Or.inr (Or.inl q1))) h
            · exact ho z (by omega) (by omega)
      rw [e4, e5]
  · by_cases hi1 : sbk i
    · by_cases hj1 : sbk j
      · rw [if_pos hi1, if_pos hj1] at hij
        exact hi i j hi1 hj1 h1 h2 hij
      · rw [if_pos hi1, if_neg hj1] at hij
        exact absurd hij (hx i j hi1 h1 hj1 (hal j hj1 h2))
    · by_cases hj1 : sbk j
      · rw [if_neg hi1, if_pos hj1] at hij
        exact absurd hij.symm (hx j i hj1 h2 hi1 (hal i hi1 h1))
      · rw [if_neg hi1, if_neg hj1] at hij
        exact gi_inj (hal i hi1 h1) (hal j hj1 h2) hij
/-- in place of the one before -/
def sbT (t : gP) (q a : Nat) : gP := (t.1, t.2.1, fun i => if i = 37 then q else if i = 38 then a else t.2.2.1 i, t.2.2.2)
def sbU (u : uS) : uS := fun a i => if a = 37 ∨ a = 38 then 0 else if a = 1000 ∧ i = 1 then 16 else u a i
/-- the one before kept -/
def sbT2 (t : gP) (q a : Nat) : gP := (t.1, t.2.1, fun i => if i = 37 then q else if i = 38 then a else if i = 287 then t.2.2.1 37 else if i = 288 then t.2.2.1 38 else if i = 1287 ∨ i = 1288 then 1 else t.2.2.1 i, t.2.2.2)
def sbU2 (u : uS) : uS := fun a i => if a = 37 ∨ a = 38 then 0 else if a = 287 then u 37 i else if a = 288 then u 38 i else if a = 1000 ∧ i = 1 then 16 else if a = 1000 ∧ i = 3 then u 1000 1 else u a i
/-- the one before taken up again -/
def sbT3 (t : gP) : gP := (t.1, t.2.1, fun i => if i = 37 then t.2.2.1 287 else if i = 38 then t.2.2.1 288 else if i = 1287 ∨ i = 1288 then 0 else t.2.2.1 i, t.2.2.2)
def sbU3 (u : uS) : uS := fun a i => if a = 37 then u 287 i else if a = 38 then u 288 i else if a = 1000 ∧ i = 1 then u 1000 3 else u a i
theorem sbT_o {t : gP} {q a i : Nat} (h : i ≠ 37 ∧ i ≠ 38) : (sbT t q a).2.2.1 i = t.2.2.1 i := by
  unfold sbT
  show (if _ then _ else _) = _
  rw [if_neg h.1, if_neg h.2]
theorem sbT2_o {t : gP} {q a i : Nat} (h : i ≠ 37 ∧ i ≠ 38 ∧ i ≠ 287 ∧ i ≠ 288 ∧ i ≠ 1287 ∧ i ≠ 1288) : (sbT2 t q a).2.2.1 i = t.2.2.1 i := by
  unfold sbT2
  show (if _ then _ else _) = _
  rw [if_neg h.1, if_neg h.2.1, if_neg h.2.2.1, if_neg h.2.2.2.1, if_neg (by omega)]
theorem sbT3_o {t : gP} {i : Nat} (h : i ≠ 37 ∧ i ≠ 38 ∧ i ≠ 1287 ∧ i ≠ 1288) : (sbT3 t).2.2.1 i = t.2.2.1 i := by
  unfold sbT3
  show (if _ then _ else _) = _
  rw [if_neg h.1, if_neg h.2.1, if_neg (by omega)]
theorem sbT_al {t : gP} {q a i : Nat} : al (sbT t q a) i ↔ al t i := by
  rw [al_iff, al_iff, sbT_o (by omega)]
theorem sbT2_al {t : gP} {q a i : Nat} : al (sbT2 t q a) i ↔ al t i ∨ i = 287 ∨ i = 288 := by
  have hM : NM = 358 := rfl
  have hN : NN = 264 := rfl
  rw [al_iff, al_iff]
  by_cases h : i = 287 ∨ i = 288
  · have e : (sbT2 t q a).2.2.1 (1000 + i) = 1 := by
      unfold sbT2
      show (if _ then _ else _) = _
      rw [if_neg (by omega), if_neg (by omega), if_neg (by omega), if_neg (by omega), if_pos (by omega)]
    have e2 : sT i ≠ 999 := by rcases h with rfl | rfl <;> decide +kernel
    exact ⟨fun _ => Or.inr h, fun _ => ⟨e2, Or.inr ⟨by omega, e⟩⟩⟩
  · by_cases h9 : i < 264
    · exact ⟨fun q => Or.inl ⟨q.1, Or.inl (by omega)⟩, fun q => ⟨(q.resolve_right h).1, Or.inl (by omega)⟩⟩
    · rw [sbT2_o (by omega)]
      exact ⟨Or.inl, fun q => q.resolve_right h⟩
theorem sbT3_al {t : gP} {i : Nat} : al (sbT3 t) i ↔ al t i ∧ ¬ (i = 287 ∨ i = 288) := by
  have hM : NM = 358 := rfl
  have hN : NN = 264 := rfl
  rw [al_iff, al_iff]
  by_cases h : i = 287 ∨ i = 288
  · have e : (sbT3 t).2.2.1 (1000 + i) = 0 := by
      unfold sbT3
      show (if _ then _ else _) = _
      rw [if_neg (by omega), if_neg (by omega), if_pos (by omega)]
    rw [e]
    exact ⟨fun q => by rcases q.2 with q2 | ⟨-, q2⟩ <;> omega, fun q => absurd h q.2⟩
  · by_cases h9 : i < 264
    · exact ⟨fun q => ⟨⟨q.1, Or.inl (by omega)⟩, h⟩, fun q => ⟨q.1.1, Or.inl (by omega)⟩⟩
    · rw [sbT3_o (by omega)]
      exact ⟨fun q => ⟨q, h⟩, fun q => q.1⟩
theorem gC_sb {t t' : gP} {u u' : uS} (hC : gC t u) (h1 : ∀ i, ¬ (i = 287 ∨ i = 288) → (al t' i ↔ al t i)) (h2 : ∀ k, (k = 265 ∨ k = 266 ∨ k = 293) → ∀ j, u' k j = u k j) : gC t' u' := by
  have hM : NM = 358 := rfl
  have s1 : sT 287 ≠ 16 ∧ sT 288 ≠ 16 ∧ sT 287 ≠ 15 ∧ sT 288 ≠ 15 ∧ sT 287 ≠ 106 ∧ sT 288 ≠ 106 ∧ sT 287 ≠ 107 ∧ sT 288 ≠ 107 := by decide +kernel
  refine ⟨fun k hk hs => ?_, fun hk => ?_, fun k hk hs j j0 j1 hj => ?_⟩
  · have h3 := sT_16 k (al_lt hk) hs
    exact (h1 _ (by omega)).mpr (hC.1 k ((h1 k (by omega)).mp hk) hs)
  · obtain ⟨a1, a2, a3, a4, a5, a6⟩ := hC.2.1 ((h1 264 (by omega)).mp hk)
    exact ⟨(h1 _ (by omega)).mpr a1, (h1 _ (by omega)).mpr a2, (h1 _ (by omega)).mpr a3, (h1 _ (by omega)).mpr a4, (h1 _ (by omega)).mpr a5, (h1 _ (by omega)).mpr a6⟩
  · have h3 : k = 265 ∨ k = 266 ∨ k = 293 := by
      rcases hs with q | q
      · exact Or.inl (sT_106 k (al_lt hk) q)
      · exact Or.inr (sT_107 k (al_lt hk) q)
    rw [h2 k h3] at hj ⊢
    have h4 := hC.2.2 k ((h1 k (by omega)).mp hk) hs j j0 j1 hj
    refine ⟨(h1 _ (fun q => ?_)).mpr h4.1, h4.2⟩
    have h5 := h4.2
    by_cases h6 : sT k = 106
    · rw [if_pos h6] at h5
      rcases q with q | q <;> rw [q] at h5 <;> omega
    · rw [if_neg h6] at h5
      rcases q with q | q <;> rw [q] at h5 <;> omega
theorem ag.wd {b lo hi lo2 hi2 : Nat} {t t' : gP} (h : ag b lo hi t t') (q : lo2 ≤ lo ∧ hi ≤ hi2) : ag b lo2 hi2 t t' :=
  ⟨h.1, h.2.1, h.2.2.1, fun k k1 k2 k3 => h.2.2.2 k k1 (by omega) (by omega)⟩
theorem ag.b37 {lo hi : Nat} {t t' : gP} (h : ag 38 lo hi t t') : ag 37 lo hi t t' := ⟨h.1, h.2.1, h.2.2.1, fun k k1 k2 k3 => h.2.2.2 k (by omega) k2 k3⟩
theorem ag.b38 {lo hi : Nat} {t t' : gP} (h : ag 37 lo hi t t') (e : t'.2.2.1 37 = t.2.2.1 37) : ag 38 lo hi t t' :=
  ⟨h.1, h.2.1, h.2.2.1, fun k k1 k2 k3 => by
    by_cases h9 : k = 37
    · rw [h9]; exact e
    · exact h.2.2.2 k (by omega) k2 k3⟩
/-- the one before taken up again -/
theorem G.pop {t : gP} {u : uS} {H : Heap} (hG : G t u H) (hm : mkOk u) (h7 : al t 287) (h8 : al t 288) : G (sbT3 t) (sbU3 u) H := by
  have hM : NM = 358 := rfl
  have e0 : gL t u ++ [] = gL t u := List.append_nil _
  refine G.sb (L := []) hG hm rfl rfl rfl (by rw [e0]; exact hG.P) (by rw [e0]; exact hG.D) (fun k hk h => sbT3_o (by omega)) (fun k h hk => (sbT3_al.mp hk).1) (fun k h h9 j => ?_) ?_ (fun k => if k = 37 then gi t 287 else gi t 288) (fun k h hk => ?_) (fun i j hi hj h1 h2 hij => ?_) (fun i k hi h1 hk h2 hik => ?_) ?_
  · unfold sbU3
    rw [if_neg (by omega), if_neg (by omega), if_neg (by omega)]
  · unfold sbU3
    rw [if_neg (by decide), if_neg (by decide), if_neg (by decide)]
  · have h9 := (sbT3_al.mp hk).2
    have h10 : k = 37 ∨ k = 38 := by omega
    rw [e0]
    rcases h10 with rfl | rfl
    · show (gL t u)[gi t 287]? = _
      rw [gL_at h7, gE_1 (by decide +kernel), gE_1 (by decide +kernel)]
      rfl
    · show (gL t u)[gi t 288]? = _
      rw [gL_at h8, gE_38, gE_288]
      rfl
  · have q1 := (sbT3_al.mp h1).2
    have q2 := (sbT3_al.mp h2).2
    have q3 : i = 37 ∨ i = 38 := by omega
    have q4 : j = 37 ∨ j = 38 := by omega
    rcases q3 with rfl | rfl <;> rcases q4 with rfl | rfl
    · rfl
    · exact absurd (gi_inj h7 h8 hij) (by decide)
    · exact absurd (gi_inj h8 h7 hij) (by decide)
    · rfl
  · have q1 := (sbT3_al.mp h1).2
    have q3 : i = 37 ∨ i = 38 := by omega
    rcases q3 with rfl | rfl
    · have := gi_inj h7 h2 hik; omega
    · have := gi_inj h8 h2 hik; omega
  · refine gC_sb hG.2.2.2 (fun i hi => ⟨fun q => (sbT3_al.mp q).1, fun q => sbT3_al.mpr ⟨q, hi⟩⟩) (fun k hk j => ?_)
    unfold sbU3
    rw [if_neg (by omega), if_neg (by omega), if_neg (by omega)]
theorem pop_ag {t : gP} : ag 37 287 289 t (sbT3 t) := ⟨rfl, rfl, rfl, fun k k1 k2 k3 => sbT3_o (by omega)⟩
section SN
variable {p : Program} {l : Launch} {e : Env} {R : Room} {s : State} {m : MethodId} {args : Array Value} {below : List Frame} {meth : Method} {c : Code} {H : Heap} {locs : List Loc} {cells slots : Nat} {Q : State → Prop}
variable {ls : Array Slot} {rest st0 : List Value} {t : gP} {u : uS} {nL : Nat}
set_option maxHeartbeats 8000000 in
set_option maxRecDepth 100000 in
theorem mk_SB (X : xC t p s m args c cL_plays wsL_plays RL nL) (hG : G t u H) (hS : va_S (gA t) s.heap H locs) (hl : ls.size = nL) (hm : mkOk u) (hf : cells + 2 ≤ R.cells ∧ slots + 20 ≤ R.slots)
    (hR : rJ4_initC.frames + 1 ≤ R.frames ∧ 60 + rJ4_initC.locals ≤ R.locals := by exact ⟨Nat.le_of_ble_eq_true rfl, Nat.le_of_ble_eq_true rfl⟩) (hW : (rest.map fun v => v.category).sum ≤ 4 := by exact Nat.le_of_ble_eq_true rfl)
    (kk : ∀ (t' : gP) (H1 : Heap) (locs1 : List Loc), ag 37 0 0 t t' → G t' (sbU u) H1 → va_S (gA t') s.heap H1 locs1 → W p l e R s m args below meth c H1 locs1 (cells + 2) (slots + 20) Q (F0 m 7 ls (.ref (t'.2.2.1 37) :: rest))) : W p l e R s m args below meth c H locs cells slots Q (F0 m 0 ls rest) := by
  have hM : NM = 358 := rfl
  have iJ4 : ∀ w ∈ wsJ40, w ∈ wsL_plays := by decide +kernel
  have hA : ∀ q, s.heap.size ≤ q → gA t q := fun q hq => Nat.le_trans X.2.2.2 hq
  refine x_cnew X hG.P hG.D hS hA tyJ4 tyJ4_ok iJ4 (x_w 1 rfl) (x_w 2 rfl) (x_w 3 rfl) (ci := 1) rfl [.null, .int 0, .int 0, .int 0] (by decide +kernel) (by omega) (by omega) dL_plays_0 (fun q H hP hD hS => ?_)
  refine lv_dup X.1.1 X.1.2.1 dL_plays_3 rfl ?_
  refine x_kc (t := t) hP hD hS hA (va_runI (As := []) (rest := .ref q :: rest) X.1 (k_J4_init l t q _) (x_cwI 0 X.1.2.2.2.2 gL_plays_J4_init_da8c8 rfl rfl rfl (x_w 4 rfl) (x_w 3 rfl) (x_w 5 rfl) rfl hd_J4_init_da8c8 ⟨?_, ?_⟩) ⟨c_blind, x_cpre X hP hD hS (fun q h => h)⟩ rfl rfl hl rfl (lv_room ?_) dL_plays_4 ⟨by omega, by omega⟩) (fun a H locs hP hD hS => ?_)
  · exact hR.1
  · have : 8 + (1 + 11) + rJ4_initC.locals ≤ R.locals := by omega
    exact this
  · rw [List.map_cons, List.sum_cons]
    show 1 + _ ≤ 8
    omega
  · have hlen : ∀ i, i < 2 → (gL t u ++ [(q, .inr (1, [.ref a, .int 0, .int 0, .int 0])), (a, .inl (t.2.1 102, (16, .inl (fun _ => 0))))])[(gL t u).length + i]? = ([(q, .inr (1, [.ref a, .int 0, .int 0, .int 0])), (a, .inl (t.2.1 102, (16, .inl (fun _ => 0))))] : va_W)[i]? := fun i _ => by
      rw [List.getElem?_append_right (by omega), Nat.add_sub_cancel_left]
    have hG3 : G (sbT t q a) (sbU u) H := by
      refine G.sb (L := [(q, .inr (1, [.ref a, .int 0, .int 0, .int 0])), (a, .inl (t.2.1 102, (16, .inl (fun _ => 0))))]) hG hm rfl rfl rfl hP hD (fun k hk h => sbT_o (by omega)) (fun k h hk => sbT_al.mp hk) (fun k h h9 j => ?_) ?_ (fun k => if k = 37 then (gL t u).length + 0 else if k = 38 then (gL t u).length + 1 else gi t k) (fun k h hk => ?_) (fun i j hi hj h1 h2 hij => ?_) (fun i k hi h1 hk h2 hik => ?_) ?_
      · unfold sbU
        rw [if_neg (by omega), if_neg (by omega)]
      · unfold sbU
        rw [if_neg (by decide), if_neg (by decide)]
      · rcases h with rfl | rfl | rfl | rfl
        · show _[(gL t u).length + 0]? = _
          rw [hlen 0 (by decide), gE_1 (by decide +kernel)]
          rfl
        · show _[(gL t u).length + 1]? = _
          rw [hlen 1 (by decide), gE_38]
          rfl
        · have h5 := sbT_al.mp hk
          show _[gi t 287]? = _
          rw [List.getElem?_append_left (gi_lt h5), gL_at h5, gE_1 (by decide +kernel), gE_1 (by decide +kernel)]
          rfl
        · have h5 := sbT_al.mp hk
          show _[gi t 288]? = _
          rw [List.getElem?_append_left (gi_lt h5), gL_at h5, gE_288, gE_288]
          rfl
      · have q1 := gi_lt (u := u) (sbT_al.mp h1)
        have q2 := gi_lt (u := u) (sbT_al.mp h2)
        have hij2 : (if i = 37 then (gL t u).length + 0 else if i = 38 then (gL t u).length + 1 else gi t i) = (if j = 37 then (gL t u).length + 0 else if j = 38 then (gL t u).length + 1 else gi t j) := hij
        by_cases c1 : i = 37
        · rw [if_pos c1] at hij2
          by_cases c2 : j = 37
          · omega
          · rw [if_neg c2] at hij2
            by_cases c3 : j = 38
            · rw [if_pos c3] at hij2; omega
            · rw [if_neg c3] at hij2; omega
        · rw [if_neg c1] at hij2
          by_cases c4 : i = 38
          · rw [if_pos c4] at hij2
            by_cases c2 : j = 37
            · rw [if_pos c2] at hij2; omega
            · rw [if_neg c2] at hij2
              by_cases c3 : j = 38
              · omega
              · rw [if_neg c3] at hij2; omega
          · rw [if_neg c4] at hij2
            by_cases c2 : j = 37
            · rw [if_pos c2] at hij2; omega
            · rw [if_neg c2] at hij2
              by_cases c3 : j = 38
              · rw [if_pos c3] at hij2; omega
              · rw [if_neg c3] at hij2
                exact gi_inj (sbT_al.mp h1) (sbT_al.mp h2) hij2
      · have q2 := gi_lt (u := u) h2
        have hik2 : (if i = 37 then (gL t u).length + 0 else if i = 38 then (gL t u).length + 1 else gi t i) = gi t k := hik
        by_cases c1 : i = 37
        · rw [if_pos c1] at hik2; omega
        · rw [if_neg c1] at hik2
          by_cases c4 : i = 38
          · rw [if_pos c4] at hik2; omega
          · rw [if_neg c4] at hik2
            have := gi_inj (sbT_al.mp h1) h2 hik2
            exact hk (this ▸ hi)
      · refine gC_sb hG.2.2.2 (fun i hi => sbT_al) (fun k hk j => ?_)
        unfold sbU
        rw [if_neg (by omega), if_neg (by omega)]
    have hag : ag 37 0 0 t (sbT t q a) := ⟨rfl, rfl, rfl, fun k k1 k2 k3 => sbT_o (by omega)⟩
    have h5 := kk _ H locs hag hG3 hS
    refine W.widen (k := cells + 2) (n := slots + 20) (by omega) (by omega) ?_
    exact h5
set_option maxHeartbeats 8000000 in
set_option maxRecDepth 100000 in
theorem mk_SB2 (X : xC t p s m args c cL_net wsL_net RL nL) (hG : G t u H) (hS : va_S (gA t) s.heap H locs) (hl : ls.size = nL) (hm : mkOk u) (hf : cells + 2 ≤ R.cells ∧ slots + 20 ≤ R.slots)
    (hR : rJ4_initC.frames + 1 ≤ R.frames ∧ 60 + rJ4_initC.locals ≤ R.locals := by exact ⟨Nat.le_of_ble_eq_true rfl, Nat.le_of_ble_eq_true rfl⟩) (hW : (rest.map fun v => v.category).sum ≤ 4 := by exact Nat.le_of_ble_eq_true rfl)
    (kk : ∀ (t' : gP) (H1 : Heap) (locs1 : List Loc), ag 37 287 289 t t' → t'.2.2.1 287 = t.2.2.1 37 → al t' 287 → al t' 288 → G t' (sbU2 u) H1 → va_S (gA t') s.heap H1 locs1 → W p l e R s m args below meth c H1 locs1 (cells + 2) (slots + 20) Q (F0 m 281 ls (.ref (t'.2.2.1 37) :: rest))) : W p l e R s m args below meth c H locs cells slots Q (F0 m 274 ls rest) := by
  have hM : NM = 358 := rfl
  have iJ4 : ∀ w ∈ wsJ40, w ∈ wsL_net := by decide +kernel
  have hA : ∀ q, s.heap.size ≤ q → gA t q := fun q hq => Nat.le_trans X.2.2.2 hq
  refine x_cnew X hG.P hG.D hS hA tyJ4 tyJ4_ok iJ4 (x_w 7 rfl) (x_w 8 rfl) (x_w 9 rfl) (ci := 1) rfl [.null, .int 0, .int 0, .int 0] (by decide +kernel) (by omega) (by omega) dL_net_274 (fun q H hP hD hS => ?_)
  refine lv_dup X.1.1 X.1.2.1 dL_net_277 rfl ?_
  refine x_kc (t := t) hP hD hS hA (va_runI (As := []) (rest := .ref q :: rest) X.1 (k_J4_init l t q _) (x_cwI 0 X.1.2.2.2.2 gL_net_J4_init_da8c8 rfl rfl rfl (x_w 230 rfl) (x_w 9 rfl) (x_w 231 rfl) rfl hd_J4_init_da8c8 ⟨?_, ?_⟩) ⟨c_blind, x_cpre X hP hD hS (fun q h => h)⟩ rfl rfl hl rfl (lv_room ?_) dL_net_278 ⟨by omega, by omega⟩) (fun a H locs hP hD hS => ?_)
  · exact hR.1
  · have : 8 + (1 + 11) + rJ4_initC.locals ≤ R.locals := by omega
    exact this
  · rw [List.map_cons, List.sum_cons]
    show 1 + _ ≤ 8
    omega
  · have hlen : ∀ i, i < 2 → (gL t u ++ [(q, .inr (1, [.ref a, .int 0, .int 0, .int 0])), (a, .inl (t.2.1 102, (16, .inl (fun _ => 0))))])[(gL t u).length + i]? = ([(q, .inr (1, [.ref a, .int 0, .int 0, .int 0])), (a, .inl (t.2.1 102, (16, .inl (fun _ => 0))))] : va_W)[i]? := fun i _ => by
      rw [List.getElem?_append_right (by omega), Nat.add_sub_cancel_left]
    have hG3 : G (sbT2 t q a) (sbU2 u) H := by
      refine G.sb (L := [(q, .inr (1, [.ref a, .int 0, .int 0, .int 0])), (a, .inl (t.2.1 102, (16, .inl (fun _ => 0))))]) hG hm rfl rfl rfl hP hD (fun k hk h => sbT2_o (by omega)) (fun k h hk => (sbT2_al.mp hk).resolve_right (by omega)) (fun k h h9 j => ?_) ?_ (fun k => if k = 37 then (gL t u).length + 0 else if k = 38 then (gL t u).length + 1 else if k = 287 then gi t 37 else gi t 38) (fun k h hk => ?_) (fun i j hi hj h1 h2 hij => ?_) (fun i k hi h1 hk h2 hik => ?_) ?_
      · unfold sbU2
        rw [if_neg (by omega), if_neg (by omega), if_neg (by omega), if_neg (by omega), if_neg (by omega)]
      · unfold sbU2
        rw [if_neg (by decide), if_neg (by decide), if_neg (by decide), if_neg (by decide), if_neg (by decide)]
      · rcases h with rfl | rfl | rfl | rfl
        · show _[(gL t u).length + 0]? = _
          rw [hlen 0 (by decide), gE_1 (by decide +kernel)]
          rfl
        · show _[(gL t u).length + 1]? = _
          rw [hlen 1 (by decide), gE_38]
          rfl
        · show _[gi t 37]? = _
          rw [List.getElem?_append_left (gi_lt al37), gL_at al37, gE_1 (by decide +kernel), gE_1 (by decide +kernel)]
          rfl
        · show _[gi t 38]? = _
          rw [List.getElem?_append_left (gi_lt al38), gL_at al38, gE_288, gE_38]
          rfl
      · have q1 := gi_lt (u := u) (al37 (t := t))
        have q2 := gi_lt (u := u) (al38 (t := t))
        have q3 : gi t 37 ≠ gi t 38 := fun q => absurd (gi_inj al37 al38 q) (by decide)
        rcases hi with rfl | rfl | rfl | rfl <;> rcases hj with rfl | rfl | rfl | rfl <;> first
          | rfl
          | (exfalso; revert hij; show ¬ ((gL t u).length + 0 = (gL t u).length + 1); omega)
          | (exfalso; revert hij; show ¬ ((gL t u).length + 1 = (gL t u).length + 0); omega)
          | (exfalso; revert hij; show ¬ ((gL t u).length + 0 = gi t 37); omega)
          | (exfalso; revert hij; show ¬ ((gL t u).length + 0 = gi t 38); omega)
          | (exfalso; revert hij; show ¬ ((gL t u).length + 1 = gi t 37); omega)
          | (exfalso; revert hij; show ¬ ((gL t u).length + 1 = gi t 38); omega)
          | (exfalso; revert hij; show ¬ (gi t 37 = (gL t u).length + 0); omega)
          | (exfalso; revert hij; show ¬ (gi t 38 = (gL t u).length + 0); omega)
          | (exfalso; revert hij; show ¬ (gi t 37 = (gL t u).length + 1); omega)
          | (exfalso; revert hij; show ¬ (gi t 38 = (gL t u).length + 1); omega)
          | (exact absurd hij q3)
          | (exact absurd hij.symm q3)
      · have q2 := gi_lt (u := u) h2
        rcases hi with rfl | rfl | rfl | rfl
        · have hik2 : (gL t u).length + 0 = gi t k := hik
          omega
        · have hik2 : (gL t u).length + 1 = gi t k := hik
          omega
        · have hik2 : gi t 37 = gi t k := hik
          have := gi_inj al37 h2 hik2; omega
        · have hik2 : gi t 38 = gi t k := hik
          have := gi_inj al38 h2 hik2; omega
      · refine gC_sb hG.2.2.2 (fun i hi => ⟨fun q => (sbT2_al.mp q).resolve_right hi, fun q => sbT2_al.mpr (Or.inl q)⟩) (fun k hk j => ?_)
        unfold sbU2
        rw [if_neg (by omega), if_neg (by omega), if_neg (by omega), if_neg (by omega), if_neg (by omega)]
    have hag : ag 37 287 289 t (sbT2 t q a) := ⟨rfl, rfl, rfl, fun k k1 k2 k3 => sbT2_o (by omega)⟩
    have h5 := kk _ H locs hag rfl (sbT2_al.mpr (Or.inr (Or.inl rfl))) (sbT2_al.mpr (Or.inr (Or.inr rfl))) hG3 hS
    refine W.widen (k := cells + 2) (n := slots + 20) (by omega) (by omega) ?_
    exact h5
end SN
theorem sT_16k {x : Int} {k : Nat} (h0 : 0 ≤ x) (h1 : x < 8) (e : k = (271 + 2 * x).toNat) : (271 ≤ k ∧ k < 286) ∧ sT k = 16 := by
  have h : ∀ i, i < 8 → sT (271 + 2 * i) = 16 := by decide +kernel
  have h2 := h x.toNat (by omega)
  have h3 : k = 271 + 2 * x.toNat := by omega
  rw [← h3] at h2
  exact ⟨by omega, h2⟩
