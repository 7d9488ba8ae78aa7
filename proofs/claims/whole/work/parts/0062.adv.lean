/-! pure part, 32: the reference goes from token to token -/
/-- the reference stands at token j (K: the end of the text) -/
def MT (B : Int → Int) (n K : Int) (ks ss ls vs : Int → Int) (u : uS) (j : Int) : Prop :=
  u 40 9 = n ∧ (∀ q, 0 ≤ q → q < n → (-128 ≤ u 47 q ∧ u 47 q < 128) ∧ u 47 q % 256 = B q) ∧ (0 ≤ j ∧ j ≤ K)
  ∧ (j < K → u 40 12 = ks j ∧ u 40 10 = ss j ∧ u 40 11 = ss j + ls j ∧ (ks j = 2 → u 40 13 = vs j)) ∧ (j = K → u 40 12 = 0 ∧ u 40 10 = n ∧ u 40 11 = n)
/-- only where it stands has changed -/
def FrA (u w : uS) : Prop := (∀ c, c ≠ 40 → w c = u c) ∧ ∀ j, j ≠ 10 → j ≠ 11 → j ≠ 12 → j ≠ 13 → w 40 j = u 40 j
theorem FrA.rf {u : uS} : FrA u u := ⟨fun _ _ => rfl, fun _ _ _ _ _ => rfl⟩
theorem FrA.tr {u v w : uS} (h : FrA u v) (h2 : FrA v w) : FrA u w := ⟨fun c c0 => (h2.1 c c0).trans (h.1 c c0), fun j a b d e => (h2.2 j a b d e).trans (h.2 j a b d e)⟩
theorem FrA.st {u v : uS} (h : FrA u v) {j x : Int} (hj : j = 10 ∨ j = 11 ∨ j = 12 ∨ j = 13) : FrA u (up v 40 j x) := ⟨fun c c0 => (up_c c0).trans (h.1 c c0), fun i a b d e => (up_j (by omega)).trans (h.2 i a b d e)⟩
section AD
variable {u : uS} {B : Int → Int} {n K : Int} {ks ss ls vs : Int → Int}
theorem ebyteAt {x : Int} (hn : 0 ≤ n ∧ n ≤ 500) (h9 : u 40 9 = n) (hB : ∀ q, 0 ≤ q → q < n → (-128 ≤ u 47 q ∧ u 47 q < 128) ∧ u 47 q % 256 = B q) (hx : 0 ≤ x ∧ x ≤ 500) : f_X10_byteAt x u = some (if x < n then B x else -1, u) := by
  refine wp_eq ?_
  unfold f_X10_byteAt
  rw [h9]
  refine wp_g (by omega) ?_
  refine wp_i (fun cc => ?_) (fun cc => ?_)
  · rw [if_neg (by omega)]; exact wp_s rfl
  · refine wp_g (by omega) ?_
    rw [if_pos (by omega), (hB x hx.1 (by omega)).2]; exact wp_s rfl
theorem wadvance {j : Int} (hn : 0 ≤ n ∧ n ≤ 500) (hBb : ∀ q, 0 ≤ q → q < n → 0 ≤ B q ∧ B q < 256) (hT : TD B n K ks ss ls vs) (h9 : u 40 9 = n) (hB : ∀ q, 0 ≤ q → q < n → (-128 ≤ u 47 q ∧ u 47 q < 128) ∧ u 47 q % 256 = B q) (hj : 0 ≤ j ∧ j ≤ K) (h11 : u 40 11 = En ss ls j) : wp (f_X10_advance u) (fun q => FrA u q.2 ∧ MT B n K ks ss ls vs q.2 j) := by
  obtain ⟨rk, hP, hk⟩ := hT
  have eb := En_b hP hj
  obtain ⟨hK, h2, h3, h4, h5⟩ := hP
  -- where the token begins
  obtain ⟨T, hTd⟩ : ∃ T, T = if j < K then ss j else n := ⟨_, rfl⟩
  have hT1 : En ss ls j ≤ T ∧ T ≤ n ∧ (∀ q, En ss ls j ≤ q → q < T → kd (B q) = 0) := by
    by_cases hjK : j < K
    · rw [if_pos hjK] at hTd
      obtain ⟨a, b⟩ := h3 j hj.1 hjK
      obtain ⟨⟨-, c, d, -⟩, -⟩ := h2 j hj.1 hjK
      exact ⟨by omega, by omega, fun q q0 q1 => b q q0 (by omega)⟩
    · rw [if_neg hjK] at hTd
      have : j = K := by omega
      subst this
      exact ⟨by omega, by omega, fun q q0 q1 => h5 q q0 (by omega)⟩
  unfold f_X10_advance
  refine wp_L ?_
  refine wl1 (fun v => FrA u v ∧ En ss ls j ≤ v 40 11 ∧ v 40 11 ≤ T) (fun v => (T - v 40 11).toNat) (fun go v hI hg => ?_) FU _ ⟨FrA.rf, by omega, by omega⟩ (FU_l (by omega))
  obtain ⟨hf, hv1, hv2⟩ := hI
  have v9 : v 40 9 = n := (hf.2 9 (by decide) (by decide) (by decide) (by decide)).trans h9
  have vB : ∀ q, 0 ≤ q → q < n → (-128 ≤ v 47 q ∧ v 47 q < 128) ∧ v 47 q % 256 = B q := by rw [hf.1 47 (by decide)]; exact hB
  have eA : f_X10_byteAt (v 40 11) v = some (if v 40 11 < n then B (v 40 11) else -1, v) := ebyteAt hn v9 vB (by omega)
  unfold s_X10_advance_0
  by_cases hp : v 40 11 < T
  · have hb := hT1.2.2 _ hv1 hp
    have hx := hBb (v 40 11) (by omega) (by omega)
    have hx2 : B (v 40 11) = 32 ∨ B (v 40 11) = 10 := by
      unfold kd at hb
      by_cases h : B (v 40 11) = 32 ∨ B (v 40 11) = 10
      · exact h
      · rw [if_neg h] at hb
        split at hb <;> (try split at hb) <;> (try split at hb) <;> omega
    rw [if_pos (by omega)] at eA
    have nxt : wp (go (up v 40 11 (v 40 11 + 1))) (fun q => FrA u q.2 ∧ MT B n K ks ss ls vs q.2 j) := by
      have e : up v 40 11 (v 40 11 + 1) 40 11 = v 40 11 + 1 := up_s _ _ _ _
      exact hg _ ⟨hf.st (by omega), by omega, by omega⟩ (by omega)
    refine wp_e eA ?_
    refine wp_g (by omega) ?_
    refine wp_L ?_
    refine wp_i (fun cc => ?_) (fun cc => ?_)
    · refine wp_L ?_
      exact nxt
    · refine wp_e eA ?_
      refine wp_g (by omega) ?_
      refine wp_t (by omega) ?_
      refine wp_L ?_
      exact nxt
  · have hpT : v 40 11 = T := by omega
    -- what comes behind the blanks
    have go2 : wp ((fun (u2 : uS) =>
      xlet (up u2 40 10 (u2 40 11)) fun u3 =>
      xlet (up u3 40 13 0) fun u4 =>
      xbd (f_X10_byteAt (u4 40 11) u4) fun v5 u6 =>
      xgd (InR v5) <|
      if v5 = (-1) then
        xlet (up u6 40 12 0) fun u66 =>
        some ((0 : Int), u66)
      else
        xbd (f_X10_within v5 97 122 u6) fun v9 u10 =>
        xgd (InR v9) <|
        if v9 = 0 then
          xbd (f_X10_within v5 48 57 u10) fun v13 u14 =>
          xgd (InR v13) <|
          if v13 = 0 then
            xlet (up u14 40 11 (u14 40 11 + 1)) fun u17 =>
            xgd (InR v5) <|
            xlet (fun (s20 : Int) (u21 : uS) =>
                xlet (up u21 40 12 s20) fun u22 =>
                some (0, u22)
                ) fun j19 =>
            if v5 = 59 then
              j19 3 u17
            else
              j19 4 u17
          else
            xlet (fun (u25 : uS) =>
                xgd (InR (u25 40 11 - u25 40 10)) <|
                xlet (fun (s28 : Int) (u29 : uS) =>
                    xlet (up u29 40 12 s28) fun u30 =>
                    some (0, u30)
                    ) fun j27 =>
                if (u25 40 11 - u25 40 10) ≤ 4 then
                  j27 2 u25
                else
                  j27 4 u25
                ) fun j24 =>
            xl1 (s_X10_advance_153 j24) FU u14
        else
          xlet (fun (u50 : uS) =>
              xgd (InR (u50 40 11 - u50 40 10)) <|
              xlet (fun (s53 : Int) (u54 : uS) =>
                  xlet (up u54 40 12 s53) fun u55 =>
                  some (0, u55)
                  ) fun j52 =>
              if (u50 40 11 - u50 40 10) ≤ 8 then
                j52 1 u50
              else
                j52 4 u50
              ) fun j49 =>
          xl1 (s_X10_advance_85 j49) FU u10) v) (fun q => FrA u q.2 ∧ MT B n K ks ss ls vs q.2 j) := by
      refine wp_l (fun w1 g1 => ?_)
      refine wp_l (fun w2 g2 => ?_)
      have f2 : FrA u w2 := by rw [g2, g1]; exact (hf.st (by omega)).st (by omega)
      have w11 : w2 40 11 = T := by rw [g2, up_j (by decide), g1, up_j (by decide)]; exact hpT
      have w10 : w2 40 10 = T := by rw [g2, up_j (by decide), g1, up_s]; exact hpT
      have w13 : w2 40 13 = 0 := by rw [g2, up_s]
      have w9 : w2 40 9 = n := (f2.2 9 (by decide) (by decide) (by decide) (by decide)).trans h9
      have wB : ∀ q, 0 ≤ q → q < n → (-128 ≤ w2 47 q ∧ w2 47 q < 128) ∧ w2 47 q % 256 = B q := by rw [f2.1 47 (by decide)]; exact hB
      rw [w11]
      refine wp_e (ebyteAt hn w9 wB (by omega)) ?_
      by_cases hjK : j < K
      · rw [if_pos hjK] at hTd
        obtain ⟨⟨a, b, c, d, e, f, g⟩, k1, k2⟩ := h2 j hj.1 hjK
        have hks := hk j hj.1 hjK
        have hbb := hBb T (by omega) (by omega)
        have kb := kd_b (B (ss j))
        rw [← hTd] at d e g k1 k2 kb f c
        rw [if_pos (show T < n by omega)]
        refine wp_g (by omega) ?_
        refine wp_f (by omega) ?_
        -- the end of the token
        have fin : ∀ w (z : Int), FrA u w → w 40 10 = T → w 40 11 = T + ls j → z = ks j → (ks j = 2 → w 40 13 = vs j) → FrA u (up w 40 12 z) ∧ MT B n K ks ss ls vs (up w 40 12 z) j := by
          intro w z hw h10 h11 hz h13
          have wf : FrA u (up w 40 12 z) := hw.st (by omega)
          refine ⟨wf, (wf.2 9 (by decide) (by decide) (by decide) (by decide)).trans h9, by rw [wf.1 47 (by decide)]; exact hB, hj, fun _ => ⟨(up_s w 40 12 z).trans hz, (up_j (by decide)).trans (by rw [h10, hTd]), (up_j (by decide)).trans (by rw [h11, hTd]), fun h => (up_j (by decide)).trans (h13 h)⟩, fun h => by omega⟩
        refine wp_e (ewithin _ (show InR (B T) by omega) (by decide) (by decide)) ?_
        by_cases k1' : kd (B T) = 1
        · have hc : 97 ≤ B T ∧ B T ≤ 122 := by
            unfold kd at k1'
            by_cases h : 97 ≤ B T ∧ B T ≤ 122
            · exact h
            · rw [if_neg h] at k1'
              split at k1' <;> (try split at k1') <;> (try split at k1') <;> omega
          rw [if_pos hc]
          refine wp_g (by decide) ?_
          refine wp_f (by decide) ?_
          refine wp_L ?_
          refine wl1 (fun x => FrA u x ∧ x 40 10 = T ∧ T ≤ x 40 11 ∧ x 40 11 ≤ T + ls j) (fun x => (T + ls j - x 40 11).toNat) (fun go x hI hg => ?_) FU _ ⟨f2, w10, by omega, by omega⟩ (FU_l (by omega))
          obtain ⟨fx, x10, x1, x2⟩ := hI
          have x9 : x 40 9 = n := (fx.2 9 (by decide) (by decide) (by decide) (by decide)).trans h9
          have xB : ∀ q, 0 ≤ q → q < n → (-128 ≤ x 47 q ∧ x 47 q < 128) ∧ x 47 q % 256 = B q := by rw [fx.1 47 (by decide)]; exact hB
          unfold s_X10_advance_85
          refine wp_e (ebyteAt hn x9 xB (by omega)) ?_
          by_cases hx : x 40 11 < T + ls j
          · have hkd := e (x 40 11) x1 hx
            have hc2 : 97 ≤ B (x 40 11) ∧ B (x 40 11) ≤ 122 := by
              rw [k1'] at hkd
              unfold kd at hkd
              by_cases h : 97 ≤ B (x 40 11) ∧ B (x 40 11) ≤ 122
              · exact h
              · rw [if_neg h] at hkd
                split at hkd <;> (try split at hkd) <;> (try split at hkd) <;> omega
            rw [if_pos (show x 40 11 < n by omega)]
            refine wp_e (ewithin _ (show InR (B (x 40 11)) by omega) (by decide) (by decide)) ?_
            rw [if_pos hc2]
            refine wp_g (by decide) ?_
            refine wp_f (by decide) ?_
            refine wp_L ?_
            have e' : up x 40 11 (x 40 11 + 1) 40 11 = x 40 11 + 1 := up_s _ _ _ _
            exact hg _ ⟨fx.st (by omega), (up_j (by decide)).trans x10, by omega, by omega⟩ (by omega)
          · have hxe : x 40 11 = T + ls j := by omega
            have hnot : ¬ (97 ≤ (if x 40 11 < n then B (x 40 11) else -1) ∧ (if x 40 11 < n then B (x 40 11) else -1) ≤ 122) := by
              by_cases h : x 40 11 < n
              · rw [if_pos h]
                intro h6
                have := g (by omega) (by omega)
                rw [hxe] at h6
                refine this ?_
                rw [k1']
                unfold kd
                rw [if_neg (by omega), if_pos h6]
              · rw [if_neg h]; omega
            have hr : InR (if x 40 11 < n then B (x 40 11) else -1) := by
              by_cases h : x 40 11 < n
              · rw [if_pos h]; have := hBb (x 40 11) (by omega) h; omega
              · rw [if_neg h]; omega
            refine wp_e (ewithin _ hr (by decide) (by decide)) ?_
            rw [if_neg hnot]
            refine wp_g (by decide) ?_
            refine wp_t rfl ?_
            refine wp_g (by omega) ?_
            refine wp_L ?_
            refine wp_i (fun cc => ?_) (fun cc => ?_)
            · refine wp_L ?_
              exact wp_s (fin x 1 fx x10 hxe (by rw [hks]; unfold kf; rw [if_neg (by omega)]; omega) (fun h => by rw [hks] at h; unfold kf at h; rw [if_neg (by omega)] at h; omega))
            · refine wp_L ?_
              exact wp_s (fin x 4 fx x10 hxe (by rw [hks]; unfold kf; rw [if_pos (by omega)]) (fun h => by rw [hks] at h; unfold kf at h; rw [if_pos (by omega)] at h; omega))
        · have hc : ¬ (97 ≤ B T ∧ B T ≤ 122) := fun h => k1' (by unfold kd; rw [if_neg (by omega), if_pos h])
          rw [if_neg hc]
          refine wp_g (by decide) ?_
          refine wp_t rfl ?_
          refine wp_e (ewithin _ (show InR (B T) by omega) (by decide) (by decide)) ?_
          by_cases k2' : kd (B T) = 2
          · have hc2 : 48 ≤ B T ∧ B T ≤ 57 := by
              unfold kd at k2'
              by_cases h : 48 ≤ B T ∧ B T ≤ 57
              · exact h
              · rw [if_neg h] at k2'
                split at k2' <;> (try split at k2') <;> (try split at k2') <;> omega
            rw [if_pos hc2]
            refine wp_g (by decide) ?_
            refine wp_f (by decide) ?_
            refine wp_L ?_
            refine wl1 (fun x => FrA u x ∧ x 40 10 = T ∧ (T ≤ x 40 11 ∧ x 40 11 ≤ T + ls j) ∧ (x 40 11 - T ≤ 4 → x 40 13 = vlN B T (x 40 11 - T).toNat)) (fun x => (T + ls j - x 40 11).toNat) (fun go x hI hg => ?_) FU _ ⟨f2, w10, by omega, fun _ => by rw [w13, w11, Int.sub_self]; rfl⟩ (FU_l (by omega))
            obtain ⟨fx, x10, ⟨x1, x2⟩, x13⟩ := hI
            have x9 : x 40 9 = n := (fx.2 9 (by decide) (by decide) (by decide) (by decide)).trans h9
            have xB : ∀ q, 0 ≤ q → q < n → (-128 ≤ x 47 q ∧ x 47 q < 128) ∧ x 47 q % 256 = B q := by rw [fx.1 47 (by decide)]; exact hB
            unfold s_X10_advance_153
            have eA2 : f_X10_byteAt (x 40 11) x = some (if x 40 11 < n then B (x 40 11) else -1, x) := ebyteAt hn x9 xB (by omega)
            refine wp_e eA2 ?_
            by_cases hx : x 40 11 < T + ls j
            · have hkd := e (x 40 11) x1 hx
              have hc3 : 48 ≤ B (x 40 11) ∧ B (x 40 11) ≤ 57 := by
                rw [k2'] at hkd
                unfold kd at hkd
                by_cases h : 48 ≤ B (x 40 11) ∧ B (x 40 11) ≤ 57
                · exact h
                · rw [if_neg h] at hkd
                  split at hkd <;> (try split at hkd) <;> (try split at hkd) <;> omega
              rw [if_pos (show x 40 11 < n by omega)] at eA2 ⊢
              refine wp_e (ewithin _ (show InR (B (x 40 11)) by omega) (by decide) (by decide)) ?_
              rw [if_pos hc3]
              refine wp_g (by decide) ?_
              refine wp_f (by decide) ?_
              rw [x10]
              refine wp_g (by omega) ?_
              refine wp_L ?_
              refine wp_i (fun cc => ?_) (fun cc => ?_)
              · refine wp_L ?_
                refine wp_L ?_
                have e' : up (up x 40 13 (x 40 13)) 40 11 (up x 40 13 (x 40 13) 40 11 + 1) 40 11 = x 40 11 + 1 := by rw [up_s, up_j (by decide)]
                exact hg _ ⟨(fx.st (by omega)).st (by omega), (up_j (by decide)).trans ((up_j (by decide)).trans x10), by omega, fun h => by omega⟩ (by omega)
              · refine wp_e eA2 ?_
                refine wp_L ?_
                refine wp_L ?_
                have e' : up (up x 40 13 (10 * x 40 13 + B (x 40 11) - 48)) 40 11 (up x 40 13 (10 * x 40 13 + B (x 40 11) - 48) 40 11 + 1) 40 11 = x 40 11 + 1 := by rw [up_s, up_j (by decide)]
                refine hg _ ⟨(fx.st (by omega)).st (by omega), (up_j (by decide)).trans ((up_j (by decide)).trans x10), by omega, fun h => ?_⟩ (by omega)
                rw [e', show (x 40 11 + 1 - T).toNat = (x 40 11 - T).toNat + 1 by omega]
                show up (up x 40 13 (10 * x 40 13 + B (x 40 11) - 48)) 40 11 (up x 40 13 (10 * x 40 13 + B (x 40 11) - 48) 40 11 + 1) 40 13 = vlN B T (x 40 11 - T).toNat * 10 + B (T + ((x 40 11 - T).toNat : Int)) - 48
                rw [up_j (by decide), up_s, ← x13 (by omega), show T + ((x 40 11 - T).toNat : Int) = x 40 11 by omega]
                omega
            · have hxe : x 40 11 = T + ls j := by omega
              have hnot : ¬ (48 ≤ (if x 40 11 < n then B (x 40 11) else -1) ∧ (if x 40 11 < n then B (x 40 11) else -1) ≤ 57) := by
                by_cases h : x 40 11 < n
                · rw [if_pos h]
                  intro h6
                  have := g (by omega) (by omega)
                  rw [hxe] at h6
                  refine this ?_
                  rw [k2']
                  unfold kd
                  rw [if_neg (by omega), if_neg (by omega), if_pos h6]
                · rw [if_neg h]; omega
              have hr : InR (if x 40 11 < n then B (x 40 11) else -1) := by
                by_cases h : x 40 11 < n
                · rw [if_pos h]; have := hBb (x 40 11) (by omega) h; omega
                · rw [if_neg h]; omega
              refine wp_e (ewithin _ hr (by decide) (by decide)) ?_
              rw [if_neg hnot]
              refine wp_g (by decide) ?_
              refine wp_t rfl ?_
              refine wp_g (by omega) ?_
              refine wp_L ?_
              refine wp_i (fun cc => ?_) (fun cc => ?_)
              · refine wp_L ?_
                refine wp_s (fin x 2 fx x10 hxe (by rw [hks]; unfold kf; rw [if_neg (by omega)]; omega) (fun h => ?_))
                rw [x13 (by omega), k2, show (x 40 11 - T).toNat = (ls j).toNat by omega]
              · refine wp_L ?_
                exact wp_s (fin x 4 fx x10 hxe (by rw [hks]; unfold kf; rw [if_pos (by omega)]) (fun h => by rw [hks] at h; unfold kf at h; rw [if_pos (by omega)] at h; omega))
          · have hc2 : ¬ (48 ≤ B T ∧ B T ≤ 57) := fun h => k2' (by unfold kd; rw [if_neg (by omega), if_neg (by omega), if_pos h])
            rw [if_neg hc2]
            refine wp_g (by decide) ?_
            refine wp_t rfl ?_
            refine wp_l (fun x gx => ?_)
            have fx : FrA u x := by rw [gx]; exact f2.st (by omega)
            have x11 : x 40 11 = T + ls j := by rw [gx, up_s, w11, f (by omega)]
            have x10 : x 40 10 = T := by rw [gx, up_j (by decide)]; exact w10
            have h34 : kd (B T) = if B T = 59 then 3 else 4 := by
              have d' := d
              unfold kd at d' ⊢
              by_cases h : B T = 32 ∨ B T = 10
              · rw [if_pos h] at d'; exact absurd rfl d'
              · rw [if_neg h, if_neg hc, if_neg hc2]
            refine wp_g (by omega) ?_
            refine wp_L ?_
            refine wp_i (fun cc => ?_) (fun cc => ?_)
            · rw [if_pos (by assumption)] at h34
              refine wp_L ?_
              exact wp_s (fin x 3 fx x10 x11 (by rw [hks]; unfold kf; rw [if_neg (by omega)]; omega) (fun h => by rw [hks] at h; unfold kf at h; rw [if_neg (by omega)] at h; omega))
            · rw [if_neg (by assumption)] at h34
              refine wp_L ?_
              exact wp_s (fin x 4 fx x10 x11 (by rw [hks]; unfold kf; rw [if_neg (by omega)]; omega) (fun h => by rw [hks] at h; unfold kf at h; rw [if_neg (by omega)] at h; omega))
      · rw [if_neg hjK] at hTd
        rw [if_neg (show ¬ T < n by omega)]
        refine wp_g (by decide) ?_
        refine wp_t rfl ?_
        refine wp_L ?_
        have wf : FrA u (up w2 40 12 0) := f2.st (by omega)
        have m : MT B n K ks ss ls vs (up w2 40 12 0) j := ⟨(wf.2 9 (by decide) (by decide) (by decide) (by decide)).trans h9, by rw [wf.1 47 (by decide)]; exact hB, hj, fun h => by omega, fun _ => ⟨up_s w2 40 12 0, (up_j (by decide)).trans (w10.trans hTd), (up_j (by decide)).trans (w11.trans hTd)⟩⟩
        exact wp_s ⟨wf, m⟩
    have hxB : v 40 11 < n → ¬ (B (v 40 11) = 32 ∨ B (v 40 11) = 10) := fun hlt h => by
      by_cases hjK : j < K
      · rw [if_pos hjK] at hTd
        obtain ⟨⟨-, -, -, d, -⟩, -⟩ := h2 j hj.1 hjK
        rw [hpT, hTd] at h
        exact d (by unfold kd; rw [if_pos h])
      · rw [if_neg hjK] at hTd; omega
    have hr : InR (if v 40 11 < n then B (v 40 11) else -1) := by
      by_cases h : v 40 11 < n
      · rw [if_pos h]; have := hBb (v 40 11) (by omega) h; omega
      · rw [if_neg h]; omega
    have hno : ¬ ((if v 40 11 < n then B (v 40 11) else -1) = 32) ∧ ¬ ((if v 40 11 < n then B (v 40 11) else -1) = 10) := by
      by_cases h : v 40 11 < n
      · rw [if_pos h]; have := hxB h; omega
      · rw [if_neg h]; omega
    refine wp_e eA (wp_g hr ?_)
    refine wp_L ?_
    refine wp_f hno.1 ?_
    refine wp_e eA (wp_g hr (wp_f hno.2 ?_))
    exact go2
end AD
