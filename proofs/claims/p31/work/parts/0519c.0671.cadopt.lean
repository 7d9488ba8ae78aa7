/-! pure part, 41: the class's parse, whole -/
theorem lat_z (s m : Int) : lat zV s m = 0 := by
  unfold lat
  exact sg_z (fun i _ _ => by show smA zV s (zV 0 0 - i) = 0; unfold smA; split <;> rfl)
theorem zV_w {N : uS} : WFc N zV := by
  have z : ∀ j i, zV j i = 0 := fun _ _ => rfl
  refine ⟨⟨by rw [z]; omega, by rw [z]; omega, by rw [z]; omega, fun s _ _ => by rw [z, z, z]; omega, fun i _ _ => by rw [z]; omega, fun p h0 h1 => by rw [z] at h1; omega, fun e h0 h1 => by rw [z] at h1; omega⟩, fun s h0 h1 => ⟨fun h => rfl, fun h => by rw [z] at h; omega⟩, fun p h0 h1 => by rw [z] at h1; omega, fun e h0 h1 => by rw [z] at h1; omega⟩
section CA
variable {u N V : uS} {U S : Int → uS} {f : Int → Int} {c L E : Int} {B : Int → Int} {D : List Int}
theorem cclear {M : uS} (hM : NWF M) : wp (f_X7_clear 54 u) (fun q => (∀ d, (d < 54 ∨ 69 ≤ d) → q.2 d = u d) ∧ CS M q.2 54 zV) := by
  have r54 : (54 : Nat) < NN ∧ sT 54 = 11 := by decide +kernel
  have rr : ∀ j, j < 8 → 1 ≤ j → (54 + j < NN ∧ sT (54 + j) = 100) ∧ sN (54 + j) ≤ 2000 := by decide +kernel
  have ns : sN 55 = 8 ∧ sN 56 = 792 ∧ sN 57 = 8 ∧ sN 58 = 8 ∧ sN 59 = 8 ∧ sN 60 = 8 ∧ sN 61 = 8 := by decide +kernel
  obtain ⟨l1, l2, l3, l4, l5, l6, l7⟩ := ns
  unfold f_X7_clear
  refine wp_g r54 ?_
  refine wp_l (fun w1 g1 => ?_)
  refine wp_l (fun w2 g2 => ?_)
  refine wp_l (fun w3 g3 => ?_)
  refine wp_b (cfill (c := 55) (rr 1 (by decide) (by decide)).1 (rr 1 (by decide) (by decide)).2) (fun r a1 h1 => ?_)
  refine wp_b (cfill (c := 56) (rr 2 (by decide) (by decide)).1 (rr 2 (by decide) (by decide)).2) (fun r a2 h2 => ?_)
  refine wp_b (cfill (c := 57) (rr 3 (by decide) (by decide)).1 (rr 3 (by decide) (by decide)).2) (fun r a3 h3 => ?_)
  refine wp_b (cfill (c := 58) (rr 4 (by decide) (by decide)).1 (rr 4 (by decide) (by decide)).2) (fun r a4 h4 => ?_)
  refine wp_b (cfill (c := 59) (rr 5 (by decide) (by decide)).1 (rr 5 (by decide) (by decide)).2) (fun r a5 h5 => ?_)
  refine wp_b (cfill (c := 60) (rr 6 (by decide) (by decide)).1 (rr 6 (by decide) (by decide)).2) (fun r a6 h6 => ?_)
  refine wp_b (cfill (c := 61) (rr 7 (by decide) (by decide)).1 (rr 7 (by decide) (by decide)).2) (fun r a7 h7 => ?_)
  have f1 : ∀ d, d ≠ 55 → a1 d = w3 d := h1.1
  have f2 : ∀ d, d ≠ 56 → a2 d = a1 d := h2.1
  have f3 : ∀ d, d ≠ 57 → a3 d = a2 d := h3.1
  have f4 : ∀ d, d ≠ 58 → a4 d = a3 d := h4.1
  have f5 : ∀ d, d ≠ 59 → a5 d = a4 d := h5.1
  have f6 : ∀ d, d ≠ 60 → a6 d = a5 d := h6.1
  have f7 : ∀ d, d ≠ 61 → a7 d = a6 d := h7.1
  have z1 : ∀ j, 0 ≤ j → j < (sN 55 : Int) → a1 55 j = 0 := h1.2
  have z2 : ∀ j, 0 ≤ j → j < (sN 56 : Int) → a2 56 j = 0 := h2.2
  have z3 : ∀ j, 0 ≤ j → j < (sN 57 : Int) → a3 57 j = 0 := h3.2
  have z4 : ∀ j, 0 ≤ j → j < (sN 58 : Int) → a4 58 j = 0 := h4.2
  have z5 : ∀ j, 0 ≤ j → j < (sN 59 : Int) → a5 59 j = 0 := h5.2
  have z6 : ∀ j, 0 ≤ j → j < (sN 60 : Int) → a6 60 j = 0 := h6.2
  have z7 : ∀ j, 0 ≤ j → j < (sN 61 : Int) → a7 61 j = 0 := h7.2
  have c0 : ∀ j, 0 ≤ j → j < 3 → a7 54 j = 0 := fun j j0 j1 => by
    rw [f7 54 (by decide), f6 54 (by decide), f5 54 (by decide), f4 54 (by decide), f3 54 (by decide), f2 54 (by decide), f1 54 (by decide), g3, g2, g1]
    have hj : j = 0 ∨ j = 1 ∨ j = 2 := by omega
    rcases hj with rfl | rfl | rfl <;> rfl
  have c1 : ∀ j, 0 ≤ j → j < 8 → a7 55 j = 0 := fun j j0 j1 => by
    rw [f7 55 (by decide), f6 55 (by decide), f5 55 (by decide), f4 55 (by decide), f3 55 (by decide), f2 55 (by decide)]; exact z1 j j0 (by omega)
  have c2 : ∀ j, 0 ≤ j → j < 792 → a7 56 j = 0 := fun j j0 j1 => by
    rw [f7 56 (by decide), f6 56 (by decide), f5 56 (by decide), f4 56 (by decide), f3 56 (by decide)]; exact z2 j j0 (by omega)
  have c3 : ∀ j, 0 ≤ j → j < 8 → a7 57 j = 0 := fun j j0 j1 => by
    rw [f7 57 (by decide), f6 57 (by decide), f5 57 (by decide), f4 57 (by decide)]; exact z3 j j0 (by omega)
  have c4 : ∀ j, 0 ≤ j → j < 8 → a7 58 j = 0 := fun j j0 j1 => by
    rw [f7 58 (by decide), f6 58 (by decide), f5 58 (by decide)]; exact z4 j j0 (by omega)
  have c5 : ∀ j, 0 ≤ j → j < 8 → a7 59 j = 0 := fun j j0 j1 => by
    rw [f7 59 (by decide), f6 59 (by decide)]; exact z5 j j0 (by omega)
  have c6 : ∀ j, 0 ≤ j → j < 8 → a7 60 j = 0 := fun j j0 j1 => by
    rw [f7 60 (by decide)]; exact z6 j j0 (by omega)
  have c7 : ∀ j, 0 ≤ j → j < 8 → a7 61 j = 0 := fun j j0 j1 => z7 j j0 (by omega)
  refine wp_s ⟨fun d hd => ?_, r54, fun j s hv => ?_, fun s s0 s1 => ?_⟩
  · show a7 d = u d
    rw [f7 d (by omega), f6 d (by omega), f5 d (by omega), f4 d (by omega), f3 d (by omega), f2 d (by omega), f1 d (by omega), g3, up_c (by omega), g2, up_c (by omega), g1, up_c (by omega)]
  · show a7 (54 + j) s = 0
    have hv : vd 0 0 j s := hv
    unfold vd at hv
    obtain ⟨s0, hv⟩ := hv
    rcases hv with ⟨rfl, h⟩ | ⟨h, h2⟩ | ⟨rfl, h⟩ | ⟨h, h2⟩ | ⟨h, h2⟩
    · exact c0 s s0 h
    · rcases h with rfl | rfl | rfl | rfl
      · exact c1 s s0 h2
      · exact c5 s s0 h2
      · exact c6 s s0 h2
      · exact c7 s s0 h2
    · exact c2 s s0 h
    · omega
    · omega
  · have := hM.1
    rw [lat_z, lat_z]
    exact ⟨c3 s s0 (by omega), c4 s s0 (by omega)⟩
theorem cadopt {M : uS} (hn : ∃ k : Nat, (k = 10 ∨ k = 19) ∧ u 0 5 = (k : Int) ∧ (u 0 4 = 10 ∨ u 0 4 = 19) ∧ u 0 4 ≠ (k : Int) ∧ CN u k M) (hM : NWF M) (hH : HC N u U c) :
    wp (f_X9_adoptSpare u) (fun q => (∀ d, d ≠ 0 → d ≠ 33 → d ≠ 36 → (d < 54 ∨ 69 ≤ d) → q.2 d = u d) ∧ (∀ j, j ≠ 4 → j ≠ 5 → q.2 0 j = u 0 j) ∧ ((q.2 0 4 = 10 ∧ q.2 0 5 = 19) ∨ (q.2 0 4 = 19 ∧ q.2 0 5 = 10)) ∧ CN q.2 (q.2 0 4).toNat M ∧ CS M q.2 54 zV ∧ HC M q.2 U 0 ∧ ∀ s, 0 ≤ s → s < 2 → q.2 36 s = 0) := by
  obtain ⟨k, hk, h5, h4, h45, hC⟩ := hn
  unfold f_X9_adoptSpare
  refine wp_l (fun n1 e1 => ?_)
  have e1 : n1 = k := by omega
  subst e1
  refine wp_g (net_k hk).1 ?_
  refine wp_l (fun n3 e3 => ?_)
  have e3 : n3 = 10 ∨ n3 = 19 := by omega
  refine wp_g (net_k e3).1 ?_
  refine wp_l (fun w1 g1 => ?_)
  refine wp_l (fun w2 g2 => ?_)
  have f2 : ∀ d, d ≠ 0 → w2 d = u d := fun d hd => by rw [g2, up_c hd, g1, up_c hd]
  have f20 : ∀ j, j ≠ 4 → j ≠ 5 → w2 0 j = u 0 j := fun j a b => by rw [g2, up_j a, g1, up_j b]
  have q4 : w2 0 4 = (n1 : Int) := by rw [g2, up_s]
  have q5 : w2 0 5 = (n3 : Int) := by rw [g2, up_j (by decide), g1, up_s]
  refine wp_b (cclear hM) (fun r w3 h3 => ?_)
  have f3 : ∀ d, (d < 54 ∨ 69 ≤ d) → w3 d = w2 d := h3.1
  have hS3 : CS M w3 54 zV := h3.2
  have hH3 : HC N w3 U c := hH.row (by rw [f3 33 (by decide), f2 33 (by decide)]) (fun d d0 d1 => by rw [f3 d (by omega), f2 d (by omega)])
  refine wp_b (cforget hH3) (fun r w4 h4' => ?_)
  have f4 : ∀ d, d ≠ 33 → d ≠ 36 → w4 d = w3 d := h4'.1
  have hH4 : HC N w4 U 0 := h4'.2.1
  have e0 : w4 0 = w2 0 := by rw [f4 0 (by decide) (by decide), f3 0 (by decide)]
  refine wp_s ⟨fun d d0 d1 d2 d3 => ?_, fun j a b => ?_, ?_, ?_, ?_, ?_, h4'.2.2⟩
  · show w4 d = u d
    rw [f4 d d1 d2, f3 d d3, f2 d d0]
  · show w4 0 j = u 0 j
    rw [e0]; exact f20 j a b
  · show (w4 0 4 = 10 ∧ w4 0 5 = 19) ∨ (w4 0 4 = 19 ∧ w4 0 5 = 10)
    rw [e0, q4, q5]; omega
  · show CN w4 (w4 0 4).toNat M
    rw [e0, q4, show ((n1 : Int)).toNat = n1 by omega]
    exact hC.row (fun j hj => by rw [f4 _ (by omega) (by omega), f3 _ (by omega), f2 _ (by omega)])
  · exact hS3.row (fun j hj => f4 _ (by omega) (by omega))
  · exact ⟨hH4.1, hH4.2.1, fun j j0 j1 => by omega⟩
/-- a call of parse on a length that the buffer has -/
theorem cparse {x : Int} (hC : CI N V U S f c L E B D u) (hP : PW N V U S f c L E B D) (hx : 0 ≤ x ∧ x ≤ L) :
    wp (f_X9_parse x u) (fun q => q.1 = 0 ∧ FC u q.2.2 ∧ (0 ≤ q.2.1 ∧ q.2.1 ≤ 4) ∧ ∃ K ks ss ls vs, TD B x K ks ss ls vs ∧ q.2.1 = (mR B K ks ss ls vs).1 ∧ (q.2.1 ≠ 0 → CI N V U S f c 0 (mpos x K ss (mR B K ks ss ls vs).2.1) B D q.2.2) ∧ (q.2.1 = 0 → NWF (mR B K ks ss ls vs).2.2 ∧ CI (mR B K ks ss ls vs).2.2 zV U S (fun _ => 0) 0 0 (-1) B D q.2.2)) := by
  obtain ⟨-, -, -, -, hL, hBb, -⟩ := hP
  obtain ⟨h1, h2, h3, h4, h5, ⟨h6, h6'⟩, h7, h8⟩ := hC
  unfold f_X9_parse
  refine wp_g (by omega) ?_
  refine wp_L ?_
  refine wp_f (by omega) ?_
  rw [h6]
  refine wp_g (by omega) ?_
  refine wp_t (by omega) ?_
  refine wp_l (fun w1 g1 => ?_)
  have f1 : ∀ d, d ≠ 0 → w1 d = u d := fun d hd => by rw [g1, up_c hd]
  have f10 : ∀ j, j ≠ 1 → w1 0 j = u 0 j := fun j hj => by rw [g1, up_j hj]
  obtain ⟨k, hk⟩ : ∃ k : Nat, k = (w1 0 5).toNat := ⟨_, rfl⟩
  rw [f10 5 (by decide)] at hk ⊢
  rw [← hk]
  refine wp_L ?_
  have hk2 : k = 10 ∨ k = 19 := by omega
  refine wp_g (net_k hk2).1 ?_
  refine wp_b (cread (B := B) hk2 (n := x) (by omega) (fun j j0 j1 => by rw [f1 1 (by decide)]; exact ⟨h7 j j0 (by omega), hBb j j0 (by omega)⟩)) (fun r w2 hw => ?_)
  obtain ⟨f2, hr, K, ks, ss, ls, vs, hT, e1, e2, e3⟩ := hw
  have f2 : FrR k w1 w2 := f2
  have hr : 0 ≤ r ∧ r ≤ 4 := hr
  have e1 : r = (mR B K ks ss ls vs).1 := e1
  have e2 : w2 2 0 = if r = 0 then -1 else mpos x K ss (mR B K ks ss ls vs).2.1 := e2
  have e3 : r = 0 → NWF (mR B K ks ss ls vs).2.2 ∧ CN w2 k (mR B K ks ss ls vs).2.2 := e3
  refine wp_l (fun w3 g3 => ?_)
  have w20 : w2 0 = w1 0 := f2 0 (by decide) (by omega)
  have f3 : ∀ d, (d < 2 ∨ 10 ≤ d) → (d < k ∨ k + 9 ≤ d) → d ≠ 0 → w3 d = u d := fun d a b h => by rw [g3, up_c h, f2 d a b, f1 d h]
  have f30 : ∀ j, j ≠ 1 → j ≠ 2 → w3 0 j = u 0 j := fun j a b => by rw [g3, up_j b, w20, f10 j a]
  have z1 : w3 0 1 = 0 := by rw [g3, up_j (by decide), w20, g1, up_s]
  have z2 : w3 0 2 = w2 2 0 := by rw [g3, up_s]
  refine wp_g (by omega) ?_
  refine wp_i (fun cc => ?_) (fun cc => ?_)
  · have hr0 : r = 0 := by assumption
    obtain ⟨hM, hCN⟩ := e3 hr0
    rw [if_pos hr0] at e2
    have hH : HC N w3 U c := h4.row (f3 33 (by decide) (by omega) (by decide)) (fun d d0 d1 => f3 d (by omega) (by omega) (by omega))
    refine wp_b (cadopt (u := w3) (M := (mR B K ks ss ls vs).2.2) ⟨k, hk2, by rw [f30 5 (by decide) (by decide)]; omega, by rw [f30 4 (by decide) (by decide)]; omega, by rw [f30 4 (by decide) (by decide)]; omega, hCN.row (fun j hj => by rw [g3, up_c (by omega)])⟩ hM hH) (fun r2 w4 h4' => ?_)
    obtain ⟨f4, f40, n4, c4, s4, hc4, z4⟩ := h4'
    have f4 : ∀ d, d ≠ 0 → d ≠ 33 → d ≠ 36 → (d < 54 ∨ 69 ≤ d) → w4 d = w3 d := f4
    have f40 : ∀ j, j ≠ 4 → j ≠ 5 → w4 0 j = w3 0 j := f40
    have n4 : (w4 0 4 = 10 ∧ w4 0 5 = 19) ∨ (w4 0 4 = 19 ∧ w4 0 5 = 10) := n4
    refine wp_s ⟨rfl, fun d d0 d1 => ?_, hr, K, ks, ss, ls, vs, hT, e1, fun h => absurd hr0 h, fun _ => ⟨?_, n4, ?_, ?_, ?_, fun s s0 s1 => ⟨z4 s s0 s1, fun h => ?_⟩, ⟨?_, ?_⟩, fun j j0 j1 => by omega, ?_⟩⟩
    · show w4 d = u d
      rw [f4 d (by omega) (by omega) (by omega) (by omega), f3 d (by omega) (by omega) (by omega)]
    · exact hM
    · exact c4
    · exact s4
    · exact hc4
    · have h : (0 : Int) = 1 := h
      omega
    · show w4 0 1 = 0
      rw [f40 1 (by decide) (by decide), z1]
    · show w4 0 2 = -1
      rw [f40 2 (by decide) (by decide), z2, e2]
    · exact rfl
  · have hr0 : ¬ r = 0 := by assumption
    rw [if_neg hr0] at e2
    refine wp_s ⟨rfl, fun d d0 d1 => f3 d (by omega) (by omega) (by omega), hr, K, ks, ss, ls, vs, hT, e1, fun _ => ⟨?_, ?_, ?_, ?_, ?_, ⟨z1, z2.trans e2⟩, fun j j0 j1 => by omega, ?_⟩, fun h => absurd h hr0⟩
    · show (w3 0 4 = 10 ∧ w3 0 5 = 19) ∨ (w3 0 4 = 19 ∧ w3 0 5 = 10)
      rw [f30 4 (by decide) (by decide), f30 5 (by decide) (by decide)]; exact h1
    · show CN w3 (w3 0 4).toNat N
      rw [f30 4 (by decide) (by decide)]
      exact h2.row (fun j hj => f3 _ (by omega) (by omega) (by omega))
    · exact h3.row (fun j hj => f3 _ (by omega) (by omega) (by omega))
    · exact h4.row (f3 33 (by decide) (by omega) (by decide)) (fun d d0 d1 => f3 d (by omega) (by omega) (by omega))
    · exact h5.row (f3 36 (by decide) (by omega) (by decide)) (fun d d0 d1 => f3 d (by omega) (by omega) (by omega))
    · exact rfl
theorem cparseN {x : Int} (hC : CI N V U S f c L E B D u) (hP : PW N V U S f c L E B D) (hi : InR x) (hx : ¬ (0 ≤ x ∧ x ≤ L)) : f_X9_parse x u = some (2, 0, u) := by
  obtain ⟨-, -, -, -, hL, -⟩ := hP
  have e1 : u 0 1 = L := hC.2.2.2.2.2.1.1
  refine wp_eq ?_
  unfold f_X9_parse
  refine wp_g (by omega) ?_
  refine wp_L ?_
  by_cases h : x < 0
  · refine wp_t (by omega) ?_
    exact wp_s rfl
  · refine wp_f (by omega) ?_
    repeat (first | (with_reducible refine wp_L ?_) | (with_reducible refine wp_g ?_ ?_; · omega) | (with_reducible refine wp_f ?_ ?_; · omega) | (with_reducible refine wp_t ?_ ?_; · omega))
    exact wp_s rfl
end CA
