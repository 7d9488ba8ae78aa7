/-! pure part, 27: the reference's calls that change, and that try out -/
theorem vt_e2 {N V : uS} {p : Int} : V 0 2 ≤ vt N V p 0 2 := by
  unfold vt
  split
  · exact Int.le_refl _
  · split
    · show V 0 2 ≤ V 0 2 + 1; omega
    · exact Int.le_refl _
theorem jd_e2 {N V : uS} {s : Int} : V 0 2 ≤ jd N V s 0 2 := by
  unfold jd
  split
  · exact Int.le_refl _
  · split
    · exact @vt_e2 N (ap V s) (V 0 1)
    · exact Int.le_refl _
theorem itj_e2 {N : uS} : ∀ {d : Nat} {s : Int} {V : uS}, V 0 2 ≤ itj N d s V 0 2 := by
  intro d
  induction d with
  | zero => intro s V; exact Int.le_refl _
  | succ d ih => intro s V; exact Int.le_trans jd_e2 (@ih (s + 1) (jd N V s))
theorem tk_e2 {N V : uS} : V 0 2 ≤ tk N V 0 2 := @itj_e2 N (N 0 0).toNat 0 (smp V (N 0 0))
/-- the ring of a station after i ticks at a level -/
def raV (V : uS) (s l i : Int) : uS := fun j q => if j = 0 ∧ q = 0 then V 0 0 + i else if j = 2 ∧ 99 * s ≤ q ∧ q < 99 * s + 99 ∧ (q - 99 * s - V 0 0 - 1) % 99 < i then l else V j q
theorem raV_0 {V : uS} {s l : Int} {j : Nat} {q : Int} : V j q = raV V s l 0 j q := by
  unfold raV
  by_cases h : j = 0 ∧ q = 0
  · rw [if_pos h, h.1, h.2]; omega
  · rw [if_neg h, if_neg (by omega)]
theorem raV_s {V : uS} {s l i : Int} {j : Nat} {q : Int} (hi : 0 ≤ i) (ht : 0 ≤ V 0 0) : up (up (raV V s l i) 0 0 (V 0 0 + i + 1)) 2 (99 * s + (V 0 0 + i + 1) % 99) l j q = raV V s l (i + 1) j q := by
  by_cases h2 : j = 2 ∧ q = 99 * s + (V 0 0 + i + 1) % 99
  · obtain ⟨rfl, rfl⟩ := h2
    rw [up_s]
    unfold raV
    rw [if_neg (by omega), if_pos ⟨rfl, by omega, by omega, by omega⟩]
  · rw [up_n (by omega)]
    by_cases h0 : j = 0 ∧ q = 0
    · obtain ⟨rfl, rfl⟩ := h0
      rw [up_s]
      unfold raV
      rw [if_pos ⟨rfl, rfl⟩]; omega
    · rw [up_n (by omega)]
      unfold raV
      rw [if_neg h0, if_neg h0]
      by_cases h : j = 2 ∧ 99 * s ≤ q ∧ q < 99 * s + 99 ∧ (q - 99 * s - V 0 0 - 1) % 99 < i
      · rw [if_pos h, if_pos ⟨h.1, h.2.1, h.2.2.1, by omega⟩]
      · rw [if_neg h, if_neg (fun q => h ⟨q.1, q.2.1, q.2.2.1, by omega⟩)]
theorem raV_sma {V : uS} {s l t b : Int} (hb : 0 ≤ b ∧ b < 99) (ht : 0 ≤ t) (h0 : 0 ≤ V 0 0) : smA (raV V s l t) s (V 0 0 + t - b) = sma V s l t b := by
  unfold sma smA
  by_cases h : b < t
  · rw [if_pos h, if_neg (by omega)]
    unfold raV
    rw [if_neg (by omega), if_pos ⟨rfl, by omega, by omega, by omega⟩]
  · rw [if_neg h]
    rw [show V 0 0 + t - b = V 0 0 - (b - t) by omega]
    by_cases h1 : V 0 0 - (b - t) ≤ 0
    · rw [if_pos h1, if_pos h1]
    · rw [if_neg h1, if_neg h1]
      unfold raV
      rw [if_neg (by omega), if_neg (by omega)]
theorem wfb_raV {N V : uS} {s l i : Int} (hV : WFb N V) (hl : 0 ≤ l ∧ l ≤ 9999) (hi : 0 ≤ i ∧ V 0 0 + i ≤ 10199) : WFb N (raV V s l i) := by
  obtain ⟨b0, b1, b2, bS, bI, bP, bE⟩ := hV
  have r : ∀ j q, j ≠ 2 → (j ≠ 0 ∨ q ≠ 0) → raV V s l i j q = V j q := fun j q h1 h2 => by
    unfold raV
    rw [if_neg (by omega), if_neg (by omega)]
  have e1 : raV V s l i 0 1 = V 0 1 := r 0 1 (by decide) (by decide)
  have e2 : raV V s l i 0 2 = V 0 2 := r 0 2 (by decide) (by decide)
  have e0 : raV V s l i 0 0 = V 0 0 + i := rfl
  refine ⟨by rw [e0]; omega, by rw [e1]; exact b1, by rw [e2]; exact b2, fun q h0 h1 => ?_, fun q h0 h1 => ?_, fun p h0 h1 => ?_, fun e h0 h1 => ?_⟩
  · rw [r 1 q (by decide) (Or.inl (by decide)), r 5 q (by decide) (Or.inl (by decide)), r 6 q (by decide) (Or.inl (by decide))]; exact bS q h0 h1
  · have b := bI q h0 h1
    unfold raV
    rw [if_neg (by omega)]
    split
    · exact hl
    · exact b
  · rw [e1] at h1
    rw [r 8 p (by decide) (Or.inl (by decide)), r 9 p (by decide) (Or.inl (by decide)), r 10 p (by decide) (Or.inl (by decide)), r 11 p (by decide) (Or.inl (by decide)), r 12 p (by decide) (Or.inl (by decide))]; exact bP p h0 h1
  · rw [e2] at h1
    rw [r 14 e (by decide) (Or.inl (by decide)), r 13 e (by decide) (Or.inl (by decide))]; exact bE e h0 h1
section MC
variable {u N V : uS} {U S : Int → uS} {f : Int → Int} {c L E : Int} {B : Int → Int} {D : List Int}
/-- another present -/
theorem MI.now {w V2 : uS} (h : MI N V U S f c L E B D u) (hw : ∀ d, d ≠ 41 → w d = u d) (hm : MS w V2) : MI N V2 U S f c L E B D w := by
  obtain ⟨h1, h2, h3, h4, h5, h6, h7⟩ := h
  refine ⟨h1.row (fun c a b => hw c (by omega)), hm, h3.row (by rw [hw 40 (by decide)]) (hw _ (by decide)), h4.row (hw _ (by decide)) (hw _ (by decide)), by rw [hw 40 (by decide)]; exact h5, ?_, h7.row (by rw [hw 40 (by decide)]) (hw _ (by decide))⟩
  rw [hw 47 (by decide)]; exact h6
theorem FM.r {v w : uS} (h : FM u v) {a : Nat} (ha : 40 ≤ a ∧ a < 54) (h2 : ∀ d, d ≠ a → w d = v d) : FM u w := fun d hd => (h2 d (by omega)).trans (h d hd)
theorem mEvent {e x : Int} (hM : MI N V U S f c L E B D u) (hP : PW N V U S f c L E B D) (he : InR e) (hx : InR x) : wp (f_X10_event e x u) (fun q => q.2 40 0 = cd2 (rEvent N V e x).1 ∧ (cd2 (rEvent N V e x).1 = 0 → q.1 = (rEvent N V e x).2) ∧ FM u q.2 ∧ MI N V U S f c L E B D q.2) := by
  have hN := hP.1
  have hV := hP.2.1.1
  have hVb := hV.1
  have b2 := hVb.2.2.1
  have hM1 := hM.t 0
  have z0 : up u 40 0 0 40 0 = 0 := up_s _ _ _ _
  unfold f_X10_event
  refine wp_L ?_
  refine wp_ei (enoEvent hM1 hVb z0 he) (fun h1 => ?_) (fun h1 => ?_)
  · have no : rEvent N V e x = (if x = 0 then (0, V 14 e) else if x = 1 then (0, pk V e) else if x = 2 then (0, V 13 e) else if x < 0 ∨ 6 < x then (2, 0) else if V 14 e = 1 then (0, -1) else if x = 3 then (0, nde N V e) else if x = 4 then (0, org N V (nde N V e) e) else if x = 5 then (0, msf N V (nde N V e) e) else (0, med N V (nde N V e) e)) := if_pos h1
    rw [no]
    repeat (first | (with_reducible refine wp_L ?_) | (with_reducible refine wp_g ?_ ?_; · omega) | (with_reducible refine wp_f ?_ ?_; · omega) | (with_reducible refine wp_t ?_ ?_; · omega) | (with_reducible refine wp_e (eof _ _ _) ?_) | (with_reducible refine wp_e (eat _ _ _) ?_) | (with_reducible refine wp_e (enodes _) ?_))
    refine wp_e (ewithin _ hx (by decide) (by decide)) ?_
    by_cases h : 0 ≤ x ∧ x ≤ 6
    · rw [if_pos h]
      repeat (first | (with_reducible refine wp_L ?_) | (with_reducible refine wp_g ?_ ?_; · omega) | (with_reducible refine wp_f ?_ ?_; · omega) | (with_reducible refine wp_t ?_ ?_; · omega) | (with_reducible refine wp_e (eof _ _ _) ?_) | (with_reducible refine wp_e (eat _ _ _) ?_) | (with_reducible refine wp_e (enodes _) ?_))
      refine wp_e (ethrowsIf0 _ (by decide) z0 (by decide)) ?_
      repeat (first | (with_reducible refine wp_L ?_) | (with_reducible refine wp_g ?_ ?_; · omega) | (with_reducible refine wp_f ?_ ?_; · omega) | (with_reducible refine wp_t ?_ ?_; · omega) | (with_reducible refine wp_e (eof _ _ _) ?_) | (with_reducible refine wp_e (eat _ _ _) ?_) | (with_reducible refine wp_e (enodes _) ?_))
      by_cases h3 : 3 ≤ x
      · refine wp_t (by omega) ?_
        refine wp_e (eisRetracted hVb hM1.2.1 h1) ?_
        by_cases h14 : V 14 e = 1
        · rw [if_pos h14]
          repeat (first | (with_reducible refine wp_L ?_) | (with_reducible refine wp_g ?_ ?_; · omega) | (with_reducible refine wp_f ?_ ?_; · omega) | (with_reducible refine wp_t ?_ ?_; · omega) | (with_reducible refine wp_e (eof _ _ _) ?_) | (with_reducible refine wp_e (eat _ _ _) ?_) | (with_reducible refine wp_e (enodes _) ?_))
          have e2 : (if x = 0 then ((0 : Nat), V 14 e) else if x = 1 then (0, pk V e) else if x = 2 then (0, V 13 e) else if x < 0 ∨ 6 < x then (2, 0) else if V 14 e = 1 then (0, -1) else if x = 3 then (0, nde N V e) else if x = 4 then (0, org N V (nde N V e) e) else if x = 5 then (0, msf N V (nde N V e) e) else (0, med N V (nde N V e) e)) = (0, -1) := by
            rw [if_neg (by omega), if_neg (by omega), if_neg (by omega), if_neg (by omega), if_pos h14]
          rw [e2]
          exact mq hM1 (FM.t 0) z0 (fun _ => rfl)
        · rw [if_neg h14]
          have hpk := pk_1 hN hV h1 h14
          have nb := nde_b (V := V) hN e
          have e2 : (if x = 0 then ((0 : Nat), V 14 e) else if x = 1 then (0, pk V e) else if x = 2 then (0, V 13 e) else if x < 0 ∨ 6 < x then (2, 0) else if V 14 e = 1 then (0, -1) else if x = 3 then (0, nde N V e) else if x = 4 then (0, org N V (nde N V e) e) else if x = 5 then (0, msf N V (nde N V e) e) else (0, med N V (nde N V e) e)) = (if x = 3 then (0, nde N V e) else if x = 4 then (0, org N V (nde N V e) e) else if x = 5 then (0, msf N V (nde N V e) e) else (0, med N V (nde N V e) e)) := by
            rw [if_neg (show ¬ x = 0 by omega), if_neg (show ¬ x = 1 by omega), if_neg (show ¬ x = 2 by omega), if_neg (show ¬ (x < 0 ∨ 6 < x) by omega), if_neg h14]
          rw [e2]
          repeat (first | (with_reducible refine wp_L ?_) | (with_reducible refine wp_g ?_ ?_; · omega) | (with_reducible refine wp_f ?_ ?_; · omega) | (with_reducible refine wp_t ?_ ?_; · omega) | (with_reducible refine wp_e (eof _ _ _) ?_) | (with_reducible refine wp_e (eat _ _ _) ?_) | (with_reducible refine wp_e (enodes _) ?_))
          refine wp_e (enodeOf hN hM1.1 hVb hM1.2.1 he hpk) ?_
          repeat (first | (with_reducible refine wp_L ?_) | (with_reducible refine wp_g ?_ ?_; · omega) | (with_reducible refine wp_f ?_ ?_; · omega) | (with_reducible refine wp_t ?_ ?_; · omega) | (with_reducible refine wp_e (eof _ _ _) ?_) | (with_reducible refine wp_e (eat _ _ _) ?_) | (with_reducible refine wp_e (enodes _) ?_))
          have h4 : x = 3 ∨ x = 4 ∨ x = 5 ∨ x = 6 := by omega
          rcases h4 with rfl | rfl | rfl | rfl
          · repeat (first | (with_reducible refine wp_L ?_) | (with_reducible refine wp_g ?_ ?_; · omega) | (with_reducible refine wp_f ?_ ?_; · omega) | (with_reducible refine wp_t ?_ ?_; · omega) | (with_reducible refine wp_e (eof _ _ _) ?_) | (with_reducible refine wp_e (eat _ _ _) ?_) | (with_reducible refine wp_e (enodes _) ?_))
            exact mq hM1 (FM.t 0) z0 (fun _ => rfl)
          · repeat (first | (with_reducible refine wp_L ?_) | (with_reducible refine wp_g ?_ ?_; · omega) | (with_reducible refine wp_f ?_ ?_; · omega) | (with_reducible refine wp_t ?_ ?_; · omega) | (with_reducible refine wp_e (eof _ _ _) ?_) | (with_reducible refine wp_e (eat _ _ _) ?_) | (with_reducible refine wp_e (enodes _) ?_))
            refine wp_e (eoriginOf hN hM1.1 hVb hM1.2.1 nb he hpk) ?_
            exact mq hM1 (FM.t 0) z0 (fun _ => rfl)
          · repeat (first | (with_reducible refine wp_L ?_) | (with_reducible refine wp_g ?_ ?_; · omega) | (with_reducible refine wp_f ?_ ?_; · omega) | (with_reducible refine wp_t ?_ ?_; · omega) | (with_reducible refine wp_e (eof _ _ _) ?_) | (with_reducible refine wp_e (eat _ _ _) ?_) | (with_reducible refine wp_e (enodes _) ?_))
            refine wp_e (emisfitOf hN hM1.1 hVb hM1.2.1 nb he hpk) ?_
            exact mq hM1 (FM.t 0) z0 (fun _ => rfl)
          · repeat (first | (with_reducible refine wp_L ?_) | (with_reducible refine wp_g ?_ ?_; · omega) | (with_reducible refine wp_f ?_ ?_; · omega) | (with_reducible refine wp_t ?_ ?_; · omega) | (with_reducible refine wp_e (eof _ _ _) ?_) | (with_reducible refine wp_e (eat _ _ _) ?_) | (with_reducible refine wp_e (enodes _) ?_))
            refine wp_b (wmagnitudeOf hN hM1.1 hVb hM1.2.1 nb he hpk) (fun m w hw => ?_)
            obtain ⟨w1, w2, w3⟩ := hw
            have w1 : ∀ c, c ≠ 48 → w c = up u 40 0 0 c := w1
            refine mq (hM1.sc (fun d d0 d1 d2 => w1 d d1) (fun j hj => by rw [w1 40 (by decide)])) ((FM.t 0).r (a := 48) (by decide) w1) (by rw [w1 40 (by decide)]; exact z0) (fun _ => (med_eq w2).symm)
      · repeat (first | (with_reducible refine wp_L ?_) | (with_reducible refine wp_g ?_ ?_; · omega) | (with_reducible refine wp_f ?_ ?_; · omega) | (with_reducible refine wp_t ?_ ?_; · omega) | (with_reducible refine wp_e (eof _ _ _) ?_) | (with_reducible refine wp_e (eat _ _ _) ?_) | (with_reducible refine wp_e (enodes _) ?_))
        by_cases hx1 : x = 1
        · subst hx1
          repeat (first | (with_reducible refine wp_L ?_) | (with_reducible refine wp_g ?_ ?_; · omega) | (with_reducible refine wp_f ?_ ?_; · omega) | (with_reducible refine wp_t ?_ ?_; · omega) | (with_reducible refine wp_e (eof _ _ _) ?_) | (with_reducible refine wp_e (eat _ _ _) ?_) | (with_reducible refine wp_e (enodes _) ?_))
          refine wp_e (epicksOf hVb hM1.2.1 he) ?_
          exact mq hM1 (FM.t 0) z0 (fun _ => rfl)
        · repeat (first | (with_reducible refine wp_L ?_) | (with_reducible refine wp_g ?_ ?_; · omega) | (with_reducible refine wp_f ?_ ?_; · omega) | (with_reducible refine wp_t ?_ ?_; · omega) | (with_reducible refine wp_e (eof _ _ _) ?_) | (with_reducible refine wp_e (eat _ _ _) ?_) | (with_reducible refine wp_e (enodes _) ?_))
          have hx2 : x = 0 ∨ x = 2 := by omega
          rcases hx2 with rfl | rfl
          · have r := hM1.2.1.re h1.1 h1.2
            have et : 1127 + 2 * e + (0 : Int).tdiv 2 = 1127 + 2 * e := by rw [Int.zero_tdiv]; omega
            rw [et]
            refine wp_g (by omega) ?_
            exact mq hM1 (FM.t 0) z0 (fun _ => r)
          · have r := hM1.2.1.dc h1.1 h1.2
            have et : 1127 + 2 * e + (2 : Int).tdiv 2 = 1127 + 2 * e + 1 := rfl
            rw [et]
            refine wp_g (by omega) ?_
            exact mq hM1 (FM.t 0) z0 (fun _ => r)
    · rw [if_neg h]
      repeat (first | (with_reducible refine wp_L ?_) | (with_reducible refine wp_g ?_ ?_; · omega) | (with_reducible refine wp_f ?_ ?_; · omega) | (with_reducible refine wp_t ?_ ?_; · omega) | (with_reducible refine wp_e (eof _ _ _) ?_) | (with_reducible refine wp_e (eat _ _ _) ?_) | (with_reducible refine wp_e (enodes _) ?_))
      refine wp_e (ethrowsIf0 _ (by decide) z0 (by decide)) ?_
      repeat (first | (with_reducible refine wp_L ?_) | (with_reducible refine wp_g ?_ ?_; · omega) | (with_reducible refine wp_f ?_ ?_; · omega) | (with_reducible refine wp_t ?_ ?_; · omega) | (with_reducible refine wp_e (eof _ _ _) ?_) | (with_reducible refine wp_e (eat _ _ _) ?_) | (with_reducible refine wp_e (enodes _) ?_))
      have e2 : (if x = 0 then ((0 : Nat), V 14 e) else if x = 1 then (0, pk V e) else if x = 2 then (0, V 13 e) else if x < 0 ∨ 6 < x then (2, 0) else if V 14 e = 1 then (0, -1) else if x = 3 then (0, nde N V e) else if x = 4 then (0, org N V (nde N V e) e) else if x = 5 then (0, msf N V (nde N V e) e) else (0, med N V (nde N V e) e)) = (2, 0) := by
        rw [if_neg (by omega), if_neg (by omega), if_neg (by omega), if_pos (by omega)]
      rw [e2]
      exact mq (hM1.t 2) ((FM.t 0).tr (FM.t 2)) (up_s _ _ _ _) (fun h => absurd h (by decide))
  · have hr : rEvent N V e x = (1, 0) := if_neg h1
    rw [hr]
    repeat (first | (with_reducible refine wp_L ?_) | (with_reducible refine wp_g ?_ ?_; · omega) | (with_reducible refine wp_f ?_ ?_; · omega) | (with_reducible refine wp_t ?_ ?_; · omega) | (with_reducible refine wp_e (eof _ _ _) ?_) | (with_reducible refine wp_e (eat _ _ _) ?_) | (with_reducible refine wp_e (enodes _) ?_))
    exact mq (hM1.t 1) ((FM.t 0).tr (FM.t 1)) (up_s _ _ _ _) (fun h => absurd h (by decide))
theorem mRatioAfter {s l t : Int} (hM : MI N V U S f c L E B D u) (hP : PW N V U S f c L E B D) (hs : InR s) (hl : InR l) (ht : InR t) : wp (f_X10_ratioAfter s l t u) (fun q => q.2 40 0 = cd2 (rRatioAfter N V s l t).1 ∧ (cd2 (rRatioAfter N V s l t).1 = 0 → q.1 = (rRatioAfter N V s l t).2) ∧ FM u q.2 ∧ MI N V U S f c L E B D q.2) := by
  have hN := hP.1
  have n0 := hN.1
  have h8 := hN.2.2.2.2.2.2.2.2.1
  have h9 := hN.2.2.2.2.2.2.2.2.2.1
  have hVb := hP.2.1.1.1
  have hV9 := hP.2.1.2
  have b0 := hVb.1
  have b1 := hVb.2.1
  have b2 := hVb.2.2.1
  have hM1 := hM.t 0
  have z0 : up u 40 0 0 40 0 = 0 := up_s _ _ _ _
  unfold f_X10_ratioAfter
  refine wp_ei (enoStation hM hN hs) (fun h1 => ?_) (fun h1 => ?_)
  · have no : rRatioAfter N V s l t = (if (0 ≤ l ∧ l ≤ 9999) ∧ 0 ≤ t ∧ t ≤ 200 then (0, rat N (sg (sma V s l t) (N 0 8).toNat) (sg (sma V s l t) (N 0 9).toNat)) else (2, 0)) := if_pos h1
    repeat (first | (with_reducible refine wp_L ?_) | (with_reducible refine wp_g ?_ ?_; · omega) | (with_reducible refine wp_f ?_ ?_; · omega) | (with_reducible refine wp_t ?_ ?_; · omega) | (with_reducible refine wp_e (eof _ _ _) ?_) | (with_reducible refine wp_e (eat _ _ _) ?_) | (with_reducible refine wp_e (enodes _) ?_))
    refine wp_e (ewithin _ hl (by decide) (by decide)) ?_
    by_cases h2 : 0 ≤ l ∧ l ≤ 9999
    · rw [if_pos h2]
      repeat (first | (with_reducible refine wp_L ?_) | (with_reducible refine wp_g ?_ ?_; · omega) | (with_reducible refine wp_f ?_ ?_; · omega) | (with_reducible refine wp_t ?_ ?_; · omega) | (with_reducible refine wp_e (eof _ _ _) ?_) | (with_reducible refine wp_e (eat _ _ _) ?_) | (with_reducible refine wp_e (enodes _) ?_))
      refine wp_e (ewithin _ ht (by decide) (by decide)) ?_
      by_cases h3 : 0 ≤ t ∧ t ≤ 200
      · rw [if_pos h3, no.trans (if_pos ⟨h2, h3⟩)]
        repeat (first | (with_reducible refine wp_L ?_) | (with_reducible refine wp_g ?_ ?_; · omega) | (with_reducible refine wp_f ?_ ?_; · omega) | (with_reducible refine wp_t ?_ ?_; · omega) | (with_reducible refine wp_e (eof _ _ _) ?_) | (with_reducible refine wp_e (eat _ _ _) ?_) | (with_reducible refine wp_e (enodes _) ?_))
        refine wp_e (ethrowsIf0 _ (by decide) z0 (by decide)) ?_
        repeat (first | (with_reducible refine wp_L ?_) | (with_reducible refine wp_g ?_ ?_; · omega) | (with_reducible refine wp_f ?_ ?_; · omega) | (with_reducible refine wp_t ?_ ?_; · omega) | (with_reducible refine wp_e (eof _ _ _) ?_) | (with_reducible refine wp_e (eat _ _ _) ?_) | (with_reducible refine wp_e (enodes _) ?_))
        refine wp_b (waside hVb hM1.2.1) (fun r v hv => ?_)
        obtain ⟨v1, v2⟩ := hv
        have v1 : ∀ e, e ≠ 50 → v e = up u 40 0 0 e := v1
        have v2 : MSo v 50 0 V := v2
        have mv : MI N V U S f c L E B D v := hM1.sc (fun d d0 d1 d2 => v1 d d2) (fun j hj => by rw [v1 40 (by decide)])
        refine wp_L ?_
        refine wl2 (fun i w => (∀ d, d ≠ 41 → w d = v d) ∧ (0 ≤ i ∧ i ≤ t) ∧ MS w (raV V s l i)) (fun i _ => (t - i).toNat) (fun go i w hI hg => ?_) FU _ _ ⟨fun _ _ => rfl, by omega, mv.2.1.cg rfl rfl (fun j q _ => raV_0)⟩ (FU_l (by omega))
        obtain ⟨hf, hi, hW⟩ := hI
        have e1 : raV V s l i 0 1 = V 0 1 := by unfold raV; rw [if_neg (by decide), if_neg (by omega)]
        have e2 : raV V s l i 0 2 = V 0 2 := by unfold raV; rw [if_neg (by decide), if_neg (by omega)]
        unfold s_X10_ratioAfter_64
        refine wp_g (by omega) ?_
        refine wp_i (fun cc => ?_) (fun cc => ?_)
        · have hi2 : i = t := by omega
          subst hi2
          have wb := wfb_raV (N := N) (s := s) hVb h2 (i := i) (by omega)
          have mn : MN w N := mv.1.row (fun c h3 h4 => hf c (by omega))
          refine wp_e (eratioOf hN mn wb hW (by omega)) ?_
          have m50 : MSo w 50 0 V := v2.row (hf 50 (by decide))
          refine wp_b (wagain hVb m50) (fun r x hx => ?_)
          obtain ⟨x1, x2⟩ := hx
          have x1 : ∀ e, e ≠ 41 → x e = w e := x1
          have xv : ∀ d, d ≠ 41 → x d = v d := fun d hd => (x1 d hd).trans (hf d hd)
          have hra : rto N (raV V s l i) s = rat N (sg (sma V s l i) (N 0 8).toNat) (sg (sma V s l i) (N 0 9).toNat) := by
            have el : ∀ m, 0 ≤ m → m ≤ 99 → lat (raV V s l i) s m = sg (sma V s l i) m.toNat := fun m m0 m1 => by
              unfold lat
              refine sg_c (fun b q0 q1 => ?_)
              exact raV_sma (by omega) h3.1 b0.1
            unfold rto
            rw [el _ (by omega) (by omega), el _ (by omega) (by omega)]
          refine mq (mv.now xv x2) (fun d hd => (xv d (by omega)).trans ((v1 d (by omega)).trans (FM.t 0 d hd))) ?_ (fun _ => hra)
          rw [xv 40 (by decide), v1 40 (by decide)]; exact z0
        · have t0 : w 41 0 = V 0 0 + i := hW.t
          rw [t0]
          refine wp_l (fun w1 g1 => ?_)
          have t1 : w1 41 0 = V 0 0 + i + 1 := by rw [g1, up_s]
          have et : (V 0 0 + i + 1).tmod 99 = (V 0 0 + i + 1) % 99 := tmd (by omega) 99
          rw [t1]
          refine wp_e (ering w1 (by omega)) ?_
          rw [et]
          refine wp_g (by omega) ?_
          refine wp_l (fun w2 g2 => ?_)
          have hWe : VE (V 0 1) (V 0 2) (fun j s => w 41 (ix j s)) (raV V s l i) := by
            unfold MS at hW
            rw [e1, e2] at hW; exact hW
          have s1 := VE.st hWe b1.2 b2.2 0 0 (V 0 0 + i + 1) g1 rfl (by unfold vd; omega) rfl
          have s2 := VE.st s1 b1.2 b2.2 2 (99 * s + (V 0 0 + i + 1) % 99) l g2 rfl (by unfold vd; omega) (by show _ = 35 + (99 * s + (V 0 0 + i + 1) % 99); omega)
          refine hg _ _ ⟨fun d hd => by rw [g2, up_c hd, g1, up_c hd]; exact hf d hd, by omega, ?_⟩ (by omega)
          have e1' : raV V s l (i + 1) 0 1 = V 0 1 := by unfold raV; rw [if_neg (by decide), if_neg (by omega)]
          have e2' : raV V s l (i + 1) 0 2 = V 0 2 := by unfold raV; rw [if_neg (by decide), if_neg (by omega)]
          unfold MS
          rw [e1', e2']
          exact VE.cg s2 (fun j q _ => raV_s hi.1 b0.1)
      · rw [if_neg h3, no.trans (if_neg (fun h => h3 h.2))]
        repeat (first | (with_reducible refine wp_L ?_) | (with_reducible refine wp_g ?_ ?_; · omega) | (with_reducible refine wp_f ?_ ?_; · omega) | (with_reducible refine wp_t ?_ ?_; · omega) | (with_reducible refine wp_e (eof _ _ _) ?_) | (with_reducible refine wp_e (eat _ _ _) ?_) | (with_reducible refine wp_e (enodes _) ?_))
        refine wp_e (ethrowsIf0 _ (by decide) z0 (by decide)) ?_
        repeat (first | (with_reducible refine wp_L ?_) | (with_reducible refine wp_g ?_ ?_; · omega) | (with_reducible refine wp_f ?_ ?_; · omega) | (with_reducible refine wp_t ?_ ?_; · omega) | (with_reducible refine wp_e (eof _ _ _) ?_) | (with_reducible refine wp_e (eat _ _ _) ?_) | (with_reducible refine wp_e (enodes _) ?_))
        exact mq (hM1.t 2) ((FM.t 0).tr (FM.t 2)) (up_s _ _ _ _) (fun h => absurd h (by decide))
    · rw [if_neg h2, no.trans (if_neg (fun h => h2 h.1))]
      repeat (first | (with_reducible refine wp_L ?_) | (with_reducible refine wp_g ?_ ?_; · omega) | (with_reducible refine wp_f ?_ ?_; · omega) | (with_reducible refine wp_t ?_ ?_; · omega) | (with_reducible refine wp_e (eof _ _ _) ?_) | (with_reducible refine wp_e (eat _ _ _) ?_) | (with_reducible refine wp_e (enodes _) ?_))
      refine wp_e (ethrowsIf0 _ (by decide) z0 (by decide)) ?_
      repeat (first | (with_reducible refine wp_L ?_) | (with_reducible refine wp_g ?_ ?_; · omega) | (with_reducible refine wp_f ?_ ?_; · omega) | (with_reducible refine wp_t ?_ ?_; · omega) | (with_reducible refine wp_e (eof _ _ _) ?_) | (with_reducible refine wp_e (eat _ _ _) ?_) | (with_reducible refine wp_e (enodes _) ?_))
      exact mq (hM1.t 2) ((FM.t 0).tr (FM.t 2)) (up_s _ _ _ _) (fun h => absurd h (by decide))
  · have hr : rRatioAfter N V s l t = (1, 0) := if_neg h1
    rw [hr]
    repeat (first | (with_reducible refine wp_L ?_) | (with_reducible refine wp_g ?_ ?_; · omega) | (with_reducible refine wp_f ?_ ?_; · omega) | (with_reducible refine wp_t ?_ ?_; · omega) | (with_reducible refine wp_e (eof _ _ _) ?_) | (with_reducible refine wp_e (eat _ _ _) ?_) | (with_reducible refine wp_e (enodes _) ?_))
    exact mq (hM1.t 1) ((FM.t 0).tr (FM.t 1)) (up_s _ _ _ _) (fun h => absurd h (by decide))
end MC
