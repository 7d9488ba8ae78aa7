/-! L, part h: the law's loop and its start -/
theorem and31 (x : Int32) : 0 ≤ (x &&& iI 31).toInt ∧ (x &&& iI 31).toInt < 32 := by
  have h : (x &&& iI 31).toBitVec = x.toBitVec &&& 31#32 := rfl
  have h2 : (x &&& iI 31).toBitVec.toNat < 32 := by
    rw [h, BitVec.toNat_and]
    exact Nat.lt_of_le_of_lt Nat.and_le_right (by decide)
  have h3 : (x &&& iI 31).toInt = ((x &&& iI 31).toBitVec.toNat : Int) := by
    show (x &&& iI 31).toBitVec.toInt = _
    rw [BitVec.toInt_eq_toNat_of_lt (by omega)]
  rw [h3]
  omega
section LM
variable {p : Program} {l : Launch} {e : Env} {s : State} {m : MethodId} {below : List Frame} {meth : Method} {c : Code} {b L : Nat} {xs : Nat → Int32}
set_option maxRecDepth 100000 in
set_option maxHeartbeats 8000000 in
theorem law_loop (hL : L ≤ 3072) (C0 : lw_At p s m meth c b L xs) (hfl : l.stackTraces = false) (hN : gN s) : ∀ (n : Nat) (t : gP) (u : uS) (i : Int) (H : Heap) (locs : List Loc) (ls : Array Slot) (cells slots : Nat), xC t p s m #[.ref b] c cL_law wsL_law RL 7 → t.2.2.2 = s.heap.size → JI u → G t u H → va_S (gA t) s.heap H locs → lv_has ls 7 (lwlv t b i) → 0 ≤ i → i ≤ 4000 → (L : Int) ≤ i + 6 * (n : Int) → cells + 13 * n ≤ 601024 → slots + 1206 * n ≤ 7293034 → W p l e room_1 s m #[.ref b] below meth c H locs cells slots (lw_Z below #[.ref b] s) (F0 m 23 ls []) := by
  obtain ⟨hx, hb, hr, hml, hown, hts, hX, hbl, hlocks, hgv⟩ := id C0
  intro n
  induction n with
  | zero =>
    intro t u i H locs ls cells slots X ht hJ hG hS hl hi hi4 hLi hc hs
    replace hl : lv_has ls 7 [(4, .int (iI i)), (3, .ref (t.2.2.1 39)), (2, .ref (t.2.2.1 40)), (1, .ref (t.2.2.1 0)), (0, .ref b)] := hl
    have IR : InR i := ⟨by omega, by omega⟩
    refine lv_iload X.1.1 X.1.2.1 dL_law_23 (lv_at hl 0 rfl) ?_
    refine lv_aload_n X.1.1 X.1.2.1 dL_law_25 rfl (lv_at hl 4 rfl) ?_
    refine x_slen X hX hbl ht hS dL_law_26 ?_
    refine x_bipush X dL_law_27 (by decide) ?_
    refine x_isub X dL_law_29 ?_
    refine x_icmp_gt (tgt := 1671) X IR ⟨by omega, by omega⟩ dL_law_30 (by decide) (fun _ => ?_) (fun h => absurd (by omega) h)
    refine x_iconst X dL_law_1671 ?_
    refine va_forget (fun q hq => by have h := hS.2.2 q hq; unfold gA at h; rw [ht] at h; exact h) ?_
    refine W.widen (k := 601024) (n := 7293034) (by omega) (by omega) ?_
    exact lw_ret hx hb hr hlocks dL_law_1672
  | succ n ih =>
    intro t u i H locs ls cells slots X ht hJ hG hS hl hi hi4 hLi hc hs
    replace hl : lv_has ls 7 [(4, .int (iI i)), (3, .ref (t.2.2.1 39)), (2, .ref (t.2.2.1 40)), (1, .ref (t.2.2.1 0)), (0, .ref b)] := hl
    have IR : InR i := ⟨by omega, by omega⟩
    refine lv_iload X.1.1 X.1.2.1 dL_law_23 (lv_at hl 0 rfl) ?_
    refine lv_aload_n X.1.1 X.1.2.1 dL_law_25 rfl (lv_at hl 4 rfl) ?_
    refine x_slen X hX hbl ht hS dL_law_26 ?_
    refine x_bipush X dL_law_27 (by decide) ?_
    refine x_isub X dL_law_29 ?_
    refine x_icmp_gt (tgt := 1671) X IR ⟨by omega, by omega⟩ dL_law_30 (by decide) (fun _ => ?_) (fun hle => ?_)
    · refine x_iconst X dL_law_1671 ?_
      refine va_forget (fun q hq => by have h := hS.2.2 q hq; unfold gA at h; rw [ht] at h; exact h) ?_
      refine W.widen (k := 601024) (n := 7293034) (by omega) (by omega) ?_
      exact lw_ret hx hb hr hlocks dL_law_1672
    · have hi6 : 0 ≤ i ∧ i + 6 ≤ (L : Int) := ⟨hi, by omega⟩
      refine lv_aload_n X.1.1 X.1.2.1 dL_law_33 rfl (lv_at hl 4 rfl) ?_
      refine lv_iload X.1.1 X.1.2.1 dL_law_34 (lv_at hl 0 rfl) ?_
      refine x_sld X hX hbl ht hS ⟨by omega, by omega⟩ hL dL_law_36 ?_
      refine x_bipush X dL_law_37 (by decide) ?_
      refine lv_iand X.1.1 X.1.2.1 dL_law_39 ?_
      have step : ∀ (t' : gP) (u' : uS) (H : Heap) (locs : List Loc) (ls : Array Slot), xC t' p s m #[.ref b] c cL_law wsL_law RL 7 → t'.2.2.2 = s.heap.size → JI u' → G t' u' H → va_S (gA t') s.heap H locs → lv_has ls 7 (lwlv t' b i) → W p l e room_1 s m #[.ref b] below meth c H locs (cells + 13) (slots + 1206) (lw_Z below #[.ref b] s) (F0 m 1665 ls []) := by
        intro t' u' H locs ls X ht hJ hG hS hl
        replace hl : lv_has ls 7 [(4, .int (iI i)), (3, .ref (t'.2.2.1 39)), (2, .ref (t'.2.2.1 40)), (1, .ref (t'.2.2.1 0)), (0, .ref b)] := hl
        refine lv_iinc (v := (iI (i + 6))) (lv' := [(4, .int (iI (i + 6))), (3, .ref (t'.2.2.1 39)), (2, .ref (t'.2.2.1 40)), (1, .ref (t'.2.2.1 0)), (0, .ref b)]) X.1.1 X.1.2.1 dL_law_1665 hl (k := 0) rfl (iI_add _ _) (by decide) rfl (fun ls hl => ?_)
        refine lv_goto (tgt := 23) X.1.1 X.1.2.1 dL_law_1668 (by decide) ?_
        exact ih t' u' (i + 6) H locs ls (cells + 13) (slots + 1206) X ht hJ hG hS hl (by omega) (by omega) (by omega) (by omega) (by omega)
      obtain ⟨v0, v1⟩ := and31 (iI (sv xs i))
      generalize (iI (sv xs i) &&& iI 31) = v at v0 v1 ⊢
      rcases (by omega : 27 < v.toInt ∨ v.toInt = 0 ∨ v.toInt = 1 ∨ v.toInt = 2 ∨ v.toInt = 3 ∨ v.toInt = 4 ∨ v.toInt = 5 ∨ v.toInt = 6 ∨ v.toInt = 7 ∨ v.toInt = 8 ∨ v.toInt = 9 ∨ v.toInt = 10 ∨ v.toInt = 11 ∨ v.toInt = 12 ∨ v.toInt = 13 ∨ v.toInt = 14 ∨ v.toInt = 15 ∨ v.toInt = 16 ∨ v.toInt = 17 ∨ v.toInt = 18 ∨ v.toInt = 19 ∨ v.toInt = 20 ∨ v.toInt = 21 ∨ v.toInt = 22 ∨ v.toInt = 23 ∨ v.toInt = 24 ∨ v.toInt = 25 ∨ v.toInt = 26 ∨ v.toInt = 27) with hv | hv | hv | hv | hv | hv | hv | hv | hv | hv | hv | hv | hv | hv | hv | hv | hv | hv | hv | hv | hv | hv | hv | hv | hv | hv | hv | hv | hv
      · refine lv_tableOut (tgt := 1665) X.1.1 X.1.2.1 dL_law_40 (Or.inr hv) (by decide) ?_
        exact W.widen (k := cells + 13) (n := slots + 1206) (by omega) (by omega) (step t u H locs ls X ht hJ hG hS hl)
      · exact lv_tableIn (off := 128) (tgt := 168) X.1.1 X.1.2.1 dL_law_40 (by rw [hv]; decide) (by rw [hv]; decide) (by rw [hv]; rfl) (by decide) (lc_0 t u i H locs ls cells slots X hN hX hbl ht hL hfl hJ hG hS hl hi6 (by omega) (by omega) step)
      · exact lv_tableIn (off := 201) (tgt := 241) X.1.1 X.1.2.1 dL_law_40 (by rw [hv]; decide) (by rw [hv]; decide) (by rw [hv]; rfl) (by decide) (lc_1 t u i H locs ls cells slots X hN hX hbl ht hL hfl hJ hG hS hl hi6 (by omega) (by omega) step)
      · exact lv_tableIn (off := 257) (tgt := 297) X.1.1 X.1.2.1 dL_law_40 (by rw [hv]; decide) (by rw [hv]; decide) (by rw [hv]; rfl) (by decide) (lc_2 t u i H locs ls cells slots X hN hX hbl ht hL hfl hJ hG hS hl hi6 (by omega) (by omega) step)
      · exact lv_tableIn (off := 270) (tgt := 310) X.1.1 X.1.2.1 dL_law_40 (by rw [hv]; decide) (by rw [hv]; decide) (by rw [hv]; rfl) (by decide) (lc_3 t u i H locs ls cells slots X hN hX hbl ht hL hfl hJ hG hS hl hi6 (by omega) (by omega) step)
      · exact lv_tableIn (off := 326) (tgt := 366) X.1.1 X.1.2.1 dL_law_40 (by rw [hv]; decide) (by rw [hv]; decide) (by rw [hv]; rfl) (by decide) (lc_4 t u i H locs ls cells slots X hN hX hbl ht hL hfl hJ hG hS hl hi6 (by omega) (by omega) step)
      · exact lv_tableIn (off := 339) (tgt := 379) X.1.1 X.1.2.1 dL_law_40 (by rw [hv]; decide) (by rw [hv]; decide) (by rw [hv]; rfl) (by decide) (lc_5 t u i H locs ls cells slots X hN hX hbl ht hL hfl hJ hG hS hl hi6 (by omega) (by omega) step)
      · exact lv_tableIn (off := 407) (tgt := 447) X.1.1 X.1.2.1 dL_law_40 (by rw [hv]; decide) (by rw [hv]; decide) (by rw [hv]; rfl) (by decide) (lc_6 t u i H locs ls cells slots X hN hX hbl ht hL hfl hJ hG hS hl hi6 (by omega) (by omega) step)
      · exact lv_tableIn (off := 475) (tgt := 515) X.1.1 X.1.2.1 dL_law_40 (by rw [hv]; decide) (by rw [hv]; decide) (by rw [hv]; rfl) (by decide) (lc_7 t u i H locs ls cells slots X hN hX hbl ht hL hfl hJ hG hS hl hi6 (by omega) (by omega) step)
      · exact lv_tableIn (off := 531) (tgt := 571) X.1.1 X.1.2.1 dL_law_40 (by rw [hv]; decide) (by rw [hv]; decide) (by rw [hv]; rfl) (by decide) (lc_8 t u i H locs ls cells slots X hN hX hbl ht hL hfl hJ hG hS hl hi6 (by omega) (by omega) step)
      · exact lv_tableIn (off := 599) (tgt := 639) X.1.1 X.1.2.1 dL_law_40 (by rw [hv]; decide) (by rw [hv]; decide) (by rw [hv]; rfl) (by decide) (lc_9 t u i H locs ls cells slots X hN hX hbl ht hL hfl hJ hG hS hl hi6 (by omega) (by omega) step)
      · exact lv_tableIn (off := 612) (tgt := 652) X.1.1 X.1.2.1 dL_law_40 (by rw [hv]; decide) (by rw [hv]; decide) (by rw [hv]; rfl) (by decide) (lc_10 t u i H locs ls cells slots X hN hX hbl ht hL hfl hJ hG hS hl hi6 (by omega) (by omega) step)
      · exact lv_tableIn (off := 680) (tgt := 720) X.1.1 X.1.2.1 dL_law_40 (by rw [hv]; decide) (by rw [hv]; decide) (by rw [hv]; rfl) (by decide) (lc_11 t u i H locs ls cells slots X hN hX hbl ht hL hfl hJ hG hS hl hi6 (by omega) (by omega) step)
      · exact lv_tableIn (off := 755) (tgt := 795) X.1.1 X.1.2.1 dL_law_40 (by rw [hv]; decide) (by rw [hv]; decide) (by rw [hv]; rfl) (by decide) (lc_12 t u i H locs ls cells slots X hN hX hbl ht hL hfl hJ hG hS hl hi6 (by omega) (by omega) step)
      · exact lv_tableIn (off := 823) (tgt := 863) X.1.1 X.1.2.1 dL_law_40 (by rw [hv]; decide) (by rw [hv]; decide) (by rw [hv]; rfl) (by decide) (lc_13 t u i H locs ls cells slots X hN hX hbl ht hL hfl hJ hG hS hl hi6 (by omega) (by omega) step)
      · exact lv_tableIn (off := 891) (tgt := 931) X.1.1 X.1.2.1 dL_law_40 (by rw [hv]; decide) (by rw [hv]; decide) (by rw [hv]; rfl) (by decide) (lc_14 t u i H locs ls cells slots X hN hX hbl ht hL hfl hJ hG hS hl hi6 (by omega) (by omega) step)
      · exact lv_tableIn (off := 959) (tgt := 999) X.1.1 X.1.2.1 dL_law_40 (by rw [hv]; decide) (by rw [hv]; decide) (by rw [hv]; rfl) (by decide) (lc_15 t u i H locs ls cells slots X hN hX hbl ht hL hfl hJ hG hS hl hi6 (by omega) (by omega) step)
      · exact lv_tableIn (off := 1015) (tgt := 1055) X.1.1 X.1.2.1 dL_law_40 (by rw [hv]; decide) (by rw [hv]; decide) (by rw [hv]; rfl) (by decide) (lc_16 t u i H locs ls cells slots X hN hX hbl ht hL hfl hJ hG hS hl hi6 (by omega) (by omega) step)
      · exact lv_tableIn (off := 1040) (tgt := 1080) X.1.1 X.1.2.1 dL_law_40 (by rw [hv]; decide) (by rw [hv]; decide) (by rw [hv]; rfl) (by decide) (lc_17 t u i H locs ls cells slots X hN hX hbl ht hL hfl hJ hG hS hl hi6 (by omega) (by omega) step)
      · exact lv_tableIn (off := 1120) (tgt := 1160) X.1.1 X.1.2.1 dL_law_40 (by rw [hv]; decide) (by rw [hv]; decide) (by rw [hv]; rfl) (by decide) (lc_18 t u i H locs ls cells slots X hN hX hbl ht hL hfl hJ hG hS hl hi6 (by omega) (by omega) step)
      · exact lv_tableIn (off := 1188) (tgt := 1228) X.1.1 X.1.2.1 dL_law_40 (by rw [hv]; decide) (by rw [hv]; decide) (by rw [hv]; rfl) (by decide) (lc_19 t u i H locs ls cells slots X hN hX hbl ht hL hfl hJ hG hS hl hi6 (by omega) (by omega) step)
      · exact lv_tableIn (off := 1201) (tgt := 1241) X.1.1 X.1.2.1 dL_law_40 (by rw [hv]; decide) (by rw [hv]; decide) (by rw [hv]; rfl) (by decide) (lc_20 t u i H locs ls cells slots X hN hX hbl ht hL hfl hJ hG hS hl hi6 (by omega) (by omega) step)
      · exact lv_tableIn (off := 1269) (tgt := 1309) X.1.1 X.1.2.1 dL_law_40 (by rw [hv]; decide) (by rw [hv]; decide) (by rw [hv]; rfl) (by decide) (lc_21 t u i H locs ls cells slots X hN hX hbl ht hL hfl hJ hG hS hl hi6 (by omega) (by omega) step)
      · exact lv_tableIn (off := 1325) (tgt := 1365) X.1.1 X.1.2.1 dL_law_40 (by rw [hv]; decide) (by rw [hv]; decide) (by rw [hv]; rfl) (by decide) (lc_22 t u i H locs ls cells slots X hN hX hbl ht hL hfl hJ hG hS hl hi6 (by omega) (by omega) step)
      · exact lv_tableIn (off := 1381) (tgt := 1421) X.1.1 X.1.2.1 dL_law_40 (by rw [hv]; decide) (by rw [hv]; decide) (by rw [hv]; rfl) (by decide) (lc_23 t u i H locs ls cells slots X hN hX hbl ht hL hfl hJ hG hS hl hi6 (by omega) (by omega) step)
      · exact lv_tableIn (off := 1437) (tgt := 1477) X.1.1 X.1.2.1 dL_law_40 (by rw [hv]; decide) (by rw [hv]; decide) (by rw [hv]; rfl) (by decide) (lc_24 t u i H locs ls cells slots X hN hX hbl ht hL hfl hJ hG hS hl hi6 (by omega) (by omega) step)
      · exact lv_tableIn (off := 1493) (tgt := 1533) X.1.1 X.1.2.1 dL_law_40 (by rw [hv]; decide) (by rw [hv]; decide) (by rw [hv]; rfl) (by decide) (lc_25 t u i H locs ls cells slots X hN hX hbl ht hL hfl hJ hG hS hl hi6 (by omega) (by omega) step)
      · exact lv_tableIn (off := 1506) (tgt := 1546) X.1.1 X.1.2.1 dL_law_40 (by rw [hv]; decide) (by rw [hv]; decide) (by rw [hv]; rfl) (by decide) (lc_26 t u i H locs ls cells slots X hN hX hbl ht hL hfl hJ hG hS hl hi6 (by omega) (by omega) step)
      · exact lv_tableIn (off := 1569) (tgt := 1609) X.1.1 X.1.2.1 dL_law_40 (by rw [hv]; decide) (by rw [hv]; decide) (by rw [hv]; rfl) (by decide) (lc_27 t u i H locs ls cells slots X hN hX hbl ht hL hfl hJ hG hS hl hi6 (by omega) (by omega) step)
end LM
