/-! L, part h: the law's loop -/
theorem rm_s {a k n R : Nat} (h : a + (1 + k) * (n + 1) ≤ R) : a + 1 ≤ R ∧ a + 1 + k ≤ R ∧ a + 1 + k + (1 + k) * n ≤ R := by
  have e : (1 + k) * (n + 1) = (1 + k) * n + (1 + k) := Nat.mul_succ _ _
  rw [e] at h
  generalize (1 + k) * n = z at *
  omega
section LM
variable {p : Program} {l : Launch} {e : Env} {s : State} {m : MethodId} {below : List Frame} {meth : Method} {c : Code} {b L : Nat} {xs : Nat → Int32}
set_option maxRecDepth 100000 in
set_option maxHeartbeats 8000000 in
theorem law_loop (hL : L ≤ 260) (C0 : lw_At p s m meth c b L xs) (hfl : l.stackTraces = false) : ∀ (n : Nat) (t : gP) (u : uS) (i : Int) (H : Heap) (locs : List Loc) (ls : Array Slot) (cells slots : Nat), xC t p s m #[.ref b] c cL_law wsL_law RL 4 → t.2.2.2 = s.heap.size → QS u → G t u H → va_S (gA t) s.heap H locs → lv_has ls 4 [(3, .int (iI i)), (2, .int (iI (L : Int))), (1, .ref (t.2.2.1 0)), (0, .ref b)] → 0 ≤ i → i ≤ 5 → 5 ≤ i + (n : Int) → cells + (1 + 19345) * n ≤ room_1.cells → slots + (1 + 254428) * n ≤ room_1.slots → W p l e room_1 s m #[.ref b] below meth c H locs cells slots (lw_Z below #[.ref b] s) (F0 m 13 ls []) := by
  obtain ⟨hx, hb, hr, hml, hown, hts, hX, hbl, hlocks, hgv⟩ := id C0
  have rc : 97000 ≤ room_1.cells := Nat.le_of_ble_eq_true rfl
  have rs : 1300000 ≤ room_1.slots := Nat.le_of_ble_eq_true rfl
  intro n
  induction n with
  | zero =>
    intro t u i H locs ls cells slots X ht hJ hG hS hl hi hi5 hLi hc hs
    have done : ∀ ls : Array Slot, W p l e room_1 s m #[.ref b] below meth c H locs cells slots (lw_Z below #[.ref b] s) (F0 m 47 ls []) := fun ls => by
      refine x_iconst X dL_law_47 ?_
      refine va_forget (fun q hq => by have h := hS.2.2 q hq; unfold gA at h; rw [ht] at h; exact h) ?_
      refine W.widen (k := room_1.cells) (n := room_1.slots) (by omega) (by omega) ?_
      exact lw_ret hx hb hr hlocks dL_law_48
    refine lv_iload_n X.1.1 X.1.2.1 dL_law_13 rfl (lv_at hl 0 rfl) ?_
    refine lv_iload_n X.1.1 X.1.2.1 dL_law_14 rfl (lv_at hl 1 rfl) ?_
    refine x_icmp_ge (tgt := 47) X ⟨by omega, by omega⟩ ⟨by omega, by omega⟩ dL_law_15 (by decide) (fun _ => done ls) (fun _ => ?_)
    refine lv_iload_n X.1.1 X.1.2.1 dL_law_18 rfl (lv_at hl 0 rfl) ?_
    refine x_iconst X dL_law_19 ?_
    refine x_icmp_ge (tgt := 47) X ⟨by omega, by omega⟩ ⟨by decide, by decide⟩ dL_law_20 (by decide) (fun _ => done ls) (fun h => absurd (show (5 : Int) ≤ i by omega) h)
  | succ n ih =>
    intro t u i H locs ls cells slots X ht hJ hG hS hl hi hi5 hLi hc hs
    have done : ∀ ls : Array Slot, W p l e room_1 s m #[.ref b] below meth c H locs cells slots (lw_Z below #[.ref b] s) (F0 m 47 ls []) := fun ls => by
      refine x_iconst X dL_law_47 ?_
      refine va_forget (fun q hq => by have h := hS.2.2 q hq; unfold gA at h; rw [ht] at h; exact h) ?_
      refine W.widen (k := room_1.cells) (n := room_1.slots) (by omega) (by omega) ?_
      exact lw_ret hx hb hr hlocks dL_law_48
    refine lv_iload_n X.1.1 X.1.2.1 dL_law_13 rfl (lv_at hl 0 rfl) ?_
    refine lv_iload_n X.1.1 X.1.2.1 dL_law_14 rfl (lv_at hl 1 rfl) ?_
    refine x_icmp_ge (tgt := 47) X ⟨by omega, by omega⟩ ⟨by omega, by omega⟩ dL_law_15 (by decide) (fun _ => done ls) (fun hiL => ?_)
    refine lv_iload_n X.1.1 X.1.2.1 dL_law_18 rfl (lv_at hl 0 rfl) ?_
    refine x_iconst X dL_law_19 ?_
    refine x_icmp_ge (tgt := 47) X ⟨by omega, by omega⟩ ⟨by decide, by decide⟩ dL_law_20 (by decide) (fun _ => done ls) (fun hi5 => ?_)
    clear done
    obtain ⟨b1, b3, b5⟩ := rm_s hc
    obtain ⟨b2, b4, b6⟩ := rm_s hs
    clear hc hs
    refine lv_aload_n X.1.1 X.1.2.1 dL_law_23 rfl (lv_at hl 2 rfl) ?_
    refine x_iconst X dL_law_24 ?_
    refine y_newi (N' := 1) X hG hS 357 ⟨by decide, by decide⟩ (by decide +kernel) (by decide +kernel) ⟨rfl, by decide⟩ hJ.mk (x_w 3 rfl) b1 b2 dL_law_25 (fun t1 H locs hag f1 hG hS => ?_)
    rw [← hag.at (k := 0) (by decide)] at hl ⊢
    have X1 := X.ag hag (by decide)
    have ht1 : t1.2.2.2 = s.heap.size := hag.2.2.1.trans ht
    clear hag X
    have f2 : al t1 357 ∧ sT 357 = 100 ∧ sN 357 = 1 := ⟨f1, by decide +kernel, by decide +kernel⟩
    refine lv_dup X1.1.1 X1.1.2.1 dL_law_27 rfl ?_
    refine x_iconst X1 dL_law_28 ?_
    refine lv_aload_n X1.1.1 X1.1.2.1 dL_law_29 rfl (lv_at hl 3 rfl) ?_
    refine lv_iload_n X1.1.1 X1.1.2.1 dL_law_30 rfl (lv_at hl 0 rfl) ?_
    refine x_sld X1 hX hbl ht1 hS ⟨by omega, by omega⟩ hL dL_law_31 ?_
    refine y_iast X1 hG hS f2.1 f2.2.1 (n := 1) f2.2.2 ⟨by decide, by decide⟩ (by decide) dL_law_32 (fun H locs hG hS => ?_)
    obtain ⟨v, hv, hJ2⟩ := qs_plays hJ (w := up (upA u 357 (fun _ => 0)) 357 0 (sv xs i)) (fun c hc => by rw [up_c (by omega), upA_c (by omega)])
    refine y_callSia X1 hG hS (c_L_plays l hfl t1 _ _ _ hv f1) (va_cwS 2 X1.1.2.2.2.2 gL_law_L_plays rfl rfl rfl hds_L_plays ⟨Nat.le_of_ble_eq_true rfl, Nat.le_of_ble_eq_true rfl⟩) (by rfl) hl.1 (Nat.le_of_ble_eq_true rfl) dL_law_33 ⟨b3, b4⟩ rfl (fun t2 H locs hag hG hS => ?_)
    rw [← hag.at (k := 0) (by decide)] at hl
    have X2 := X1.ag hag (by decide)
    have ht2 : t2.2.2.2 = s.heap.size := hag.2.2.1.trans ht1
    clear hag X1 ht1 f1 f2
    refine x_if_ne (tgt := 41) X2 ⟨by decide, by decide⟩ dL_law_36 (by decide) (fun _ => ?_) (fun h => absurd h (by decide))
    refine lv_iinc (v := (iI (i + 1))) (lv' := [(3, .int (iI (i + 1))), (2, .int (iI (L : Int))), (1, .ref (t2.2.2.1 0)), (0, .ref b)]) X2.1.1 X2.1.2.1 dL_law_41 hl (k := 0) rfl (iI_add _ _) (by decide) rfl (fun ls hl => ?_)
    refine lv_goto (tgt := 13) X2.1.1 X2.1.2.1 dL_law_44 (by decide) ?_
    exact ih t2 v (i + 1) H locs ls (cells + 1 + 19345) (slots + 1 + 254428) X2 ht2 hJ2 hG hS hl (by omega) (by omega) (by omega) b5 b6
end LM
