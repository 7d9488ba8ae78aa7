/-! the class reads the law's text -/
section RT
variable {B ks rk ss ls vs : Int → Int} {n K e x y : Int} {ct X Y : Int → Int} {u V M N : uS} {R : Int × Int × uS}
theorem CU9.sts (h : CU9 B ks rk ss ls vs n K R 0 (fun _ => 0) dN) : ∀ m : Nat, m ≤ 8 → AT B 0 (stA X Y m) → ((stA X Y m).length : Int) ≤ n → (∀ i : Nat, i < m → (0 ≤ X i ∧ X i ≤ 999) ∧ 0 ≤ Y i ∧ Y i ≤ 999) →
    ∃ ct M, CU9 B ks rk ss ls vs n K R (stA X Y m).length ct M ∧ (ct 0 = m ∧ ∀ w, w ≠ 0 → ct w = 0) ∧ M 0 0 = m ∧ (∀ i, i ≠ 0 → M 0 i = dN 0 i) ∧ ∀ s : Int, 0 ≤ s → s < m → M 1 s = X s ∧ M 2 s = Y s := by
  intro m
  induction m with
  | zero => intro _ _ _ _; exact ⟨_, _, h, ⟨rfl, fun _ _ => rfl⟩, rfl, fun _ _ => rfl, fun s s0 s1 => by omega⟩
  | succ m ih =>
    intro hm hd hn hb
    have es : stA X Y (m + 1) = stA X Y m ++ (strL 2009 ++ dg (X m) ++ [32] ++ dg (Y m) ++ [59]) := by
      show stA X Y m ++ strL 2009 ++ dg (X m) ++ [32] ++ dg (Y m) ++ [59] = _
      simp only [List.append_assoc]
    rw [es] at hd hn ⊢
    rw [List.length_append] at hn ⊢
    obtain ⟨ct, M, c, ⟨c0, c1⟩, m0, mi, ms⟩ := ih (by omega) hd.l (by omega) (fun i hi => hb i (by omega))
    have d2 := hd.r
    rw [Int.zero_add] at d2
    have hbm := hb m (by omega)
    have c2 := c.station d2 (by omega) hbm.1 hbm.2 (by omega)
    refine ⟨_, _, by rw [Int.natCast_add]; exact c2, ⟨?_, fun w hw => ?_⟩, ?_, fun i hi => ?_, fun s s0 s1 => ?_⟩
    · show (if (0 : Int) = 0 then ct 0 + 1 else ct 0) = _
      rw [if_pos rfl]; omega
    · show (if w = 0 then ct w + 1 else ct w) = _
      rw [if_neg hw]; exact c1 w hw
    · rw [up_s]; omega
    · rw [up_j hi, up_k (by decide), up_k (by decide)]; exact mi i hi
    · refine ⟨?_, ?_⟩
      · rw [up_k (by decide), up_k (by decide), m0]
        by_cases hs : s = m
        · rw [hs, up_s]
        · rw [up_j hs]; exact (ms s s0 (by omega)).1
      · rw [up_k (by decide), m0]
        by_cases hs : s = m
        · rw [hs, up_s]
        · rw [up_j hs, up_k (by decide)]; exact (ms s s0 (by omega)).2
theorem CU9.rgs {D : List Int} {A G : Int → Int} (h : CU9 B ks rk ss ls vs n K R D.length ct M) (h7 : ct 7 = 0) (h1 : M 0 1 = 0) : ∀ m : Nat, m ≤ 4 → AT B 0 (rgA D A G m) → ((rgA D A G m).length : Int) ≤ n → (∀ i : Nat, i < m → (0 ≤ A i ∧ A i ≤ 999) ∧ (0 ≤ G i ∧ G i ≤ 99) ∧ (1 ≤ i → A ((i : Int) - 1) + 1 ≤ A i ∧ G ((i : Int) - 1) ≤ G i)) →
    ∃ ct' M', CU9 B ks rk ss ls vs n K R (rgA D A G m).length ct' M' ∧ ct' 7 = m ∧ M' 0 1 = m ∧ (∀ i, i ≠ 1 → M' 0 i = M 0 i) ∧ (M' 1 = M 1 ∧ M' 2 = M 2) ∧ ∀ s : Int, 0 ≤ s → s < m → M' 3 s = A s ∧ M' 4 s = G s := by
  intro m
  induction m with
  | zero => intro _ _ _ _; exact ⟨_, _, h, h7, h1, fun _ _ => rfl, ⟨rfl, rfl⟩, fun s s0 s1 => by omega⟩
  | succ m ih =>
    intro hm hd hn hb
    have es : rgA D A G (m + 1) = rgA D A G m ++ (strL 2019 ++ dg (A m) ++ [32] ++ dg (G m) ++ [59]) := by
      show rgA D A G m ++ strL 2019 ++ dg (A m) ++ [32] ++ dg (G m) ++ [59] = _
      simp only [List.append_assoc]
    rw [es] at hd hn ⊢
    rw [List.length_append] at hn ⊢
    obtain ⟨ct', M', c, c7, m1, mi, ⟨q1, q2⟩, ms⟩ := ih (by omega) hd.l (by omega) (fun i hi => hb i (by omega))
    have d2 := hd.r
    rw [Int.zero_add] at d2
    have hbm := hb m (by omega)
    have hA : (if M' 0 1 = 0 then 0 else M' 3 (M' 0 1 - 1) + 1) ≤ A m := by
      split
      · exact hbm.1.1
      · have := ms (M' 0 1 - 1) (by omega) (by omega)
        rw [this.1, m1]
        exact (hbm.2.2 (by omega)).1
    have hG : (if M' 0 1 = 0 then 0 else M' 4 (M' 0 1 - 1)) ≤ G m := by
      split
      · exact hbm.2.1.1
      · have := ms (M' 0 1 - 1) (by omega) (by omega)
        rw [this.2, m1]
        exact (hbm.2.2 (by omega)).2
    have c2 := c.rung d2 (by omega) ⟨hA, by omega⟩ hbm.1.1 ⟨hG, hbm.2.1.2⟩ hbm.2.1.1 (by omega)
    refine ⟨_, _, by rw [Int.natCast_add]; exact c2, ?_, ?_, fun i hi => ?_, ⟨?_, ?_⟩, fun s s0 s1 => ?_⟩
    · show (if (7 : Int) = 7 then ct' 7 + 1 else ct' 7) = _
      rw [if_pos rfl]; omega
    · rw [up_s]; omega
    · rw [up_j hi, up_k (by decide), up_k (by decide)]; exact mi i hi
    · rw [up_c (by decide), up_c (by decide), up_c (by decide)]; exact q1
    · rw [up_c (by decide), up_c (by decide), up_c (by decide)]; exact q2
    · refine ⟨?_, ?_⟩
      · rw [up_k (by decide), up_k (by decide), m1]
        by_cases hs : s = m
        · rw [hs, up_s]
        · rw [up_j hs]; exact (ms s s0 (by omega)).1
      · rw [up_k (by decide), m1]
        by_cases hs : s = m
        · rw [hs, up_s]
        · rw [up_j hs, up_k (by decide)]; exact (ms s s0 (by omega)).2
/-- M is N, as far as a network is read -/
def NA (M N : uS) : Prop := (∀ i, 0 ≤ i → i < 15 → M 0 i = N 0 i) ∧ (∀ s, 0 ≤ s → s < N 0 0 → M 1 s = N 1 s ∧ M 2 s = N 2 s) ∧ ∀ r, 0 ≤ r → r < N 0 1 → M 3 r = N 3 r ∧ M 4 r = N 4 r
theorem read_ftx (hN : LW N) (hB : AT B 0 (ftx N)) (hT : TDp B n K rk ss ls vs) (hk : ∀ j, 0 ≤ j → j < K → ks j = kf (rk j) (ls j)) (hn : n = ((ftx N).length : Int)) : ∃ M, mR B K ks ss ls vs = (0, K, M) ∧ NA M N := by
  obtain ⟨h0, h1, hg, hS, hR⟩ := hN
  have start : CU9 B ks rk ss ls vs n K (mR B K ks ss ls vs) 0 (fun _ => 0) dN := ⟨0, 0, fun _ => 0, ⟨hT, hk⟩, ⟨by decide, hT.1.1⟩, if_pos rfl, rfl⟩
  generalize mR B K ks ss ls vs = R at *
  generalize hD : stA (N 1) (N 2) (N 0 0).toNat = D1 at *
  generalize hG : grT (N 0 2) (N 0 3) (N 0 4) (N 0 5) (N 0 6) (N 0 7) (N 0 8) (N 0 9) (N 0 10) (N 0 11) (N 0 12) (N 0 13) (N 0 14) = D2 at *
  have ef : ftx N = rgA (D1 ++ D2) (N 3) (N 4) (N 0 1).toNat := by
    unfold ftx
    rw [hD, hG]
  rw [ef] at hB hn
  have grow : ∀ m : Nat, ∃ T, rgA (D1 ++ D2) (N 3) (N 4) m = (D1 ++ D2) ++ T := by
    intro m
    induction m with
    | zero => exact ⟨[], (List.append_nil _).symm⟩
    | succ m ih =>
      obtain ⟨T, hT⟩ := ih
      refine ⟨T ++ (strL 2019 ++ dg (N 3 m) ++ [32] ++ dg (N 4 m) ++ [59]), ?_⟩
      show rgA (D1 ++ D2) (N 3) (N 4) m ++ strL 2019 ++ dg (N 3 m) ++ [32] ++ dg (N 4 m) ++ [59] = _
      rw [hT]
      simp only [List.append_assoc]
  obtain ⟨T, hTe⟩ := grow (N 0 1).toNat
  have hB2 := hB
  rw [hTe] at hB2
  have hl : ((D1 ++ D2).length : Int) ≤ n := by
    rw [hn, hTe, List.length_append (as := D1 ++ D2)]
    omega
  have hl2 : ((D1 ++ D2).length : Int) = (D1.length : Int) + D2.length := by rw [List.length_append]; omega
  have b1 : AT B 0 D1 := hB2.l.l
  have b2 : AT B (0 + D1.length) D2 := hB2.l.r
  rw [Int.zero_add] at b2
  rw [← hD] at b1
  obtain ⟨ct, M1, c, ⟨c0, c1⟩, m0, mi, ms⟩ := start.sts (X := N 1) (Y := N 2) (N 0 0).toNat (by omega) b1 (by rw [hD]; omega) (fun i hi => by have := hS i (by omega) (by omega); omega)
  rw [hD] at c
  obtain ⟨ct2, ⟨z0, z7⟩, c⟩ := c.grid hg (by rw [hG]; exact b2) (by rw [hG]; omega) c1
  rw [hG, ← hl2] at c
  obtain ⟨ct3, M3, c, -, r1, ri, ⟨r2, r3⟩, rs⟩ := c.rgs (A := N 3) (G := N 4) (by rw [z7]; exact c1 7 (by decide)) (show M1 0 1 = 0 from mi 1 (by decide)) (N 0 1).toNat (by omega) hB (by omega) (fun i hi => by
    have := hR i (by omega) (by omega)
    exact ⟨by omega, by omega, fun h => this.2.2 (by omega)⟩)
  rw [← hn] at c
  obtain ⟨j, ic, it, c⟩ := c
  have e := c.end_
  refine ⟨M3, e, fun i i0 i1 => ?_, fun s s0 s1 => ?_, fun r g0 g1 => rs r g0 (by omega)⟩
  · rcases i15 ⟨i0, i1⟩ with rfl | rfl | rfl | rfl | rfl | rfl | rfl | rfl | rfl | rfl | rfl | rfl | rfl | rfl | rfl
    · rw [ri 0 (by decide)]
      show M1 0 0 = _
      omega
    · omega
    all_goals exact ri _ (by decide)
  · rw [r2, r3]
    show M1 1 s = _ ∧ M1 2 s = _
    exact ms s s0 (by omega)
theorem LN.na (h : LN u N) (e : NA M N) : LN u M := by
  obtain ⟨e0, e1, e2⟩ := e
  unfold LN
  rw [e0 0 (by decide) (by decide), e0 1 (by decide) (by decide), e0 2 (by decide) (by decide), e0 3 (by decide) (by decide), e0 4 (by decide) (by decide), e0 5 (by decide) (by decide), e0 6 (by decide) (by decide), e0 7 (by decide) (by decide), e0 8 (by decide) (by decide), e0 9 (by decide) (by decide), e0 10 (by decide) (by decide), e0 11 (by decide) (by decide), e0 12 (by decide) (by decide), e0 13 (by decide) (by decide), e0 14 (by decide) (by decide)]
  refine ⟨h.1, fun s s0 s1 => ?_, fun r r0 r1 => ?_⟩
  · rw [(e1 s s0 s1).1, (e1 s s0 s1).2]; exact h.2.1 s s0 s1
  · rw [(e2 r r0 r1).1, (e2 r r0 r1).2]; exact h.2.2 r r0 r1
theorem LR.na (h : LR N u V) (e : NA M N) : LR M u V := by
  have e0 := e.1 0 (by decide) (by decide)
  obtain ⟨h1, h2, h3, h4⟩ := h
  refine ⟨by rw [e0]; exact h1, fun s t s0 s1 => h2 s t s0 (by omega), h3, h4⟩
theorem nds_na (e : NA M N) : nds M = nds N := by
  unfold nds
  rw [e.1 4 (by decide) (by decide), e.1 5 (by decide) (by decide)]
end RT
