/-! pure part, 31: tokens -/
def kd (b : Int) : Int := if b = 32 ∨ b = 10 then 0 else if 97 ≤ b ∧ b ≤ 122 then 1 else if 48 ≤ b ∧ b ≤ 57 then 2 else if b = 59 then 3 else 4
theorem kd_b (b : Int) : 0 ≤ kd b ∧ kd b ≤ 4 := by unfold kd; (repeat' split) <;> omega
def vlN (B : Int → Int) (s : Int) : Nat → Int
  | 0 => 0
  | k + 1 => vlN B s k * 10 + B (s + k) - 48
/-- where token j - 1 ends -/
def En (ss ls : Int → Int) (j : Int) : Int := if j = 0 then 0 else ss (j - 1) + ls (j - 1)
/-- one token of the bytes before i -/
def Tk1 (B : Int → Int) (i : Int) (s l : Int) : Prop := 0 ≤ s ∧ 1 ≤ l ∧ s + l ≤ i ∧ kd (B s) ≠ 0 ∧ (∀ q, s ≤ q → q < s + l → kd (B q) = kd (B s)) ∧ (3 ≤ kd (B s) → l = 1) ∧ (s + l < i → kd (B s) < 3 → kd (B (s + l)) ≠ kd (B s))
/-- the first K tokens are those of the bytes before i -/
def TDp (B : Int → Int) (i K : Int) (ks ss ls vs : Int → Int) : Prop :=
  (0 ≤ K ∧ K ≤ i) ∧ (∀ j, 0 ≤ j → j < K → Tk1 B i (ss j) (ls j) ∧ ks j = kd (B (ss j)) ∧ vs j = vlN B (ss j) (ls j).toNat)
  ∧ (∀ j, 0 ≤ j → j < K → En ss ls j ≤ ss j ∧ ∀ q, En ss ls j ≤ q → q < ss j → kd (B q) = 0)
  ∧ (En ss ls K ≤ i ∧ ∀ q, En ss ls K ≤ q → q < i → kd (B q) = 0)
theorem En_b {ss ls : Int → Int} {B : Int → Int} {i K : Int} {ks vs : Int → Int} (h : TDp B i K ks ss ls vs) {j : Int} (hj : 0 ≤ j ∧ j ≤ K) : 0 ≤ En ss ls j ∧ En ss ls j ≤ i := by
  unfold En
  split
  · have := h.1; omega
  · obtain ⟨⟨a, b, c, -⟩, -⟩ := h.2.1 (j - 1) (by omega) (by omega)
    omega
theorem TDp_0 {B : Int → Int} {ks ss ls vs : Int → Int} : TDp B 0 0 ks ss ls vs := ⟨by omega, fun j h1 h2 => by omega, fun j h1 h2 => by omega, by unfold En; rw [if_pos rfl]; omega, fun q h1 h2 => by unfold En at h1; rw [if_pos rfl] at h1; omega⟩
theorem TDp.blank {B : Int → Int} {i K : Int} {ks ss ls vs : Int → Int} (h : TDp B i K ks ss ls vs) (hb : kd (B i) = 0) : TDp B (i + 1) K ks ss ls vs := by
  obtain ⟨h1, h2, h3, h4, h5⟩ := h
  refine ⟨by omega, fun j j0 j1 => ?_, h3, by omega, fun q q0 q1 => ?_⟩
  · obtain ⟨⟨a, b, c, d, e, f, g⟩, k⟩ := h2 j j0 j1
    refine ⟨⟨a, b, by omega, d, e, f, fun h6 h7 => ?_⟩, k⟩
    by_cases hi : ss j + ls j = i
    · rw [hi, hb]; exact fun h => d h.symm
    · exact g (by omega) h7
  · by_cases hq : q = i
    · subst hq; exact hb
    · exact h5 q q0 (by omega)
/-- a run goes on -/
theorem TDp.ext {B : Int → Int} {i K : Int} {ks ss ls vs : Int → Int} (h : TDp B i K ks ss ls vs) (hi : 1 ≤ i) (hk : kd (B (i - 1)) = kd (B i)) (h12 : kd (B i) = 1 ∨ kd (B i) = 2) : 1 ≤ K ∧ TDp B (i + 1) K ks ss (fun j => if j = K - 1 then ls j + 1 else ls j) (fun j => if j = K - 1 then vs j * 10 + B i - 48 else vs j) := by
  obtain ⟨h1, h2, h3, h4, h5⟩ := h
  have hE : En ss ls K = i := by
    by_cases h : En ss ls K = i
    · exact h
    · have := h5 (i - 1) (by omega) (by omega); omega
  have hK : 1 ≤ K := by
    by_cases h : K = 0
    · unfold En at hE; rw [if_pos h] at hE; omega
    · omega
  have hEe : ss (K - 1) + ls (K - 1) = i := by
    unfold En at hE; rw [if_neg (by omega)] at hE; exact hE
  obtain ⟨⟨a, b, c, d, e, f, g⟩, k1, k2⟩ := h2 (K - 1) (by omega) (by omega)
  have hks : kd (B (ss (K - 1))) = kd (B i) := by rw [← e (i - 1) (by omega) (by omega)]; exact hk
  have hEn : ∀ j, j < K → En ss (fun j => if j = K - 1 then ls j + 1 else ls j) j = En ss ls j := fun j hj => by
    unfold En
    dsimp only
    by_cases h : j = 0
    · rw [if_pos h, if_pos h]
    · rw [if_neg h, if_neg h, if_neg (by omega)]
  have hEnK : En ss (fun j => if j = K - 1 then ls j + 1 else ls j) K = i + 1 := by
    unfold En
    dsimp only
    rw [if_neg (by omega), if_pos rfl]; omega
  refine ⟨hK, by omega, fun j j0 j1 => ?_, fun j j0 j1 => ?_, by omega, fun q q0 q1 => by omega⟩
  · by_cases hj : j = K - 1
    · subst hj
      show Tk1 B (i + 1) (ss (K - 1)) (if K - 1 = K - 1 then ls (K - 1) + 1 else ls (K - 1)) ∧ _ ∧ (if K - 1 = K - 1 then vs (K - 1) * 10 + B i - 48 else vs (K - 1)) = vlN B (ss (K - 1)) (if K - 1 = K - 1 then ls (K - 1) + 1 else ls (K - 1)).toNat
      rw [if_pos rfl, if_pos rfl]
      refine ⟨⟨a, by omega, by omega, d, fun q q0 q1 => ?_, fun h => by omega, fun h => by omega⟩, k1, ?_⟩
      · by_cases hq : q = i
        · subst hq; exact hks.symm
        · exact e q q0 (by omega)
      · rw [show (ls (K - 1) + 1).toNat = (ls (K - 1)).toNat + 1 by omega]
        show _ = vlN B (ss (K - 1)) (ls (K - 1)).toNat * 10 + B (ss (K - 1) + ((ls (K - 1)).toNat : Int)) - 48
        rw [← k2, show ss (K - 1) + ((ls (K - 1)).toNat : Int) = i by omega]
    · show Tk1 B (i + 1) (ss j) (if j = K - 1 then ls j + 1 else ls j) ∧ _ ∧ (if j = K - 1 then vs j * 10 + B i - 48 else vs j) = vlN B (ss j) (if j = K - 1 then ls j + 1 else ls j).toNat
      rw [if_neg hj, if_neg hj]
      obtain ⟨⟨a', b', c', d', e', f', g'⟩, k'⟩ := h2 j j0 j1
      have hlt : ss j + ls j ≤ ss (j + 1) := by
        have := (h3 (j + 1) (by omega) (by omega)).1
        unfold En at this
        rw [if_neg (by omega), show j + 1 - 1 = j by omega] at this
        exact this
      obtain ⟨⟨-, b2, c2, -⟩, -⟩ := h2 (j + 1) (by omega) (by omega)
      exact ⟨⟨a', b', by omega, d', e', f', fun _ => g' (by omega)⟩, k'⟩
  · rw [hEn j j1]; exact h3 j j0 j1
/-- a token begins -/
theorem TDp.new {B : Int → Int} {i K : Int} {ks ss ls vs : Int → Int} (h : TDp B i K ks ss ls vs) (h0 : 0 ≤ i) (hk : kd (B i) ≠ 0) (hn : ¬ (1 ≤ i ∧ kd (B (i - 1)) = kd (B i) ∧ (kd (B i) = 1 ∨ kd (B i) = 2))) : TDp B (i + 1) (K + 1) (fun j => if j = K then kd (B i) else ks j) (fun j => if j = K then i else ss j) (fun j => if j = K then 1 else ls j) (fun j => if j = K then 0 * 10 + B i - 48 else vs j) := by
  obtain ⟨h1, h2, h3, h4, h5⟩ := h
  have kb := kd_b (B i)
  have hEn : ∀ j, j ≤ K → En (fun j => if j = K then i else ss j) (fun j => if j = K then 1 else ls j) j = En ss ls j := fun j hj => by
    unfold En
    dsimp only
    by_cases h : j = 0
    · rw [if_pos h, if_pos h]
    · rw [if_neg h, if_neg h, if_neg (by omega), if_neg (by omega)]
  have hEnK : En (fun j => if j = K then i else ss j) (fun j => if j = K then 1 else ls j) (K + 1) = i + 1 := by
    unfold En
    dsimp only
    rw [if_neg (by omega), show K + 1 - 1 = K by omega, if_pos rfl, if_pos rfl]
  refine ⟨by omega, fun j j0 j1 => ?_, fun j j0 j1 => ?_, by omega, fun q q0 q1 => by omega⟩
  · show Tk1 B (i + 1) (if j = K then i else ss j) (if j = K then 1 else ls j) ∧ (if j = K then kd (B i) else ks j) = kd (B (if j = K then i else ss j)) ∧ (if j = K then 0 * 10 + B i - 48 else vs j) = vlN B (if j = K then i else ss j) (if j = K then 1 else ls j).toNat
    by_cases hj : j = K
    · rw [if_pos hj, if_pos hj, if_pos hj, if_pos hj]
      refine ⟨⟨h0, by omega, by omega, hk, fun q q0 q1 => by rw [show q = i by omega], fun _ => rfl, fun h => by omega⟩, rfl, ?_⟩
      show 0 * 10 + B i - 48 = 0 * 10 + B (i + 0) - 48
      rw [Int.add_zero]
    · rw [if_neg hj, if_neg hj, if_neg hj, if_neg hj]
      obtain ⟨⟨a, b, c, d, e, f, g⟩, k⟩ := h2 j j0 (by omega)
      refine ⟨⟨a, b, by omega, d, e, f, fun h6 h7 => ?_⟩, k⟩
      by_cases hi : ss j + ls j = i
      · rw [hi]
        intro h8
        have h9 := e (i - 1) (by omega) (by omega)
        exact hn ⟨by omega, by rw [h9, h8], by have := kd_b (B (ss j)); omega⟩
      · exact g (by omega) h7
  · show En _ _ j ≤ (if j = K then i else ss j) ∧ ∀ q, En _ _ j ≤ q → q < (if j = K then i else ss j) → kd (B q) = 0
    rw [hEn j (by omega)]
    by_cases hj : j = K
    · subst hj
      rw [if_pos rfl]
      exact ⟨h4, h5⟩
    · rw [if_neg hj]; exact h3 j j0 (by omega)
/-- the kind of a token, long ones being invalid -/
def kf (k l : Int) : Int := if (k = 1 ∧ 8 < l) ∨ (k = 2 ∧ 4 < l) then 4 else k
/-- all tokens of n bytes -/
def TD (B : Int → Int) (n K : Int) (ks ss ls vs : Int → Int) : Prop := ∃ rk : Int → Int, TDp B n K rk ss ls vs ∧ ∀ j, 0 ≤ j → j < K → ks j = kf (rk j) (ls j)
theorem up_row {u : uS} {k : Nat} {j v : Int} : up u k j v k = fun b => if b = j then v else u k b := by
  funext b
  unfold up
  by_cases h : b = j
  · rw [if_pos ⟨rfl, h⟩, if_pos h]
  · rw [if_neg (fun q => h q.2), if_neg h]
section LX
variable {u : uS} {B : Int → Int} {n : Int}
theorem ckindOf {x : Int} (hx : InR x) : f_X8_kindOf x u = some (kd x, u) := by
  refine wp_eq ?_
  unfold f_X8_kindOf kd
  refine wp_g (by omega) ?_
  refine wp_i (fun cc => ?_) (fun cc => ?_)
  · rw [if_pos (by omega)]; exact wp_s rfl
  · refine wp_g (by omega) ?_
    refine wp_i (fun cc => ?_) (fun cc => ?_)
    · rw [if_pos (by omega)]; exact wp_s rfl
    · rw [if_neg (by omega)]
      refine wp_g (by omega) ?_
      refine wp_L ?_
      have last : ∀ _ : ¬ (97 ≤ x ∧ x ≤ 122), ∀ _ : ¬ (48 ≤ x ∧ x ≤ 57), wp (xgd (InR x) <| if x = 59 then some ((3 : Int), u) else some (4, u)) (fun b => b = (if 97 ≤ x ∧ x ≤ 122 then 1 else if 48 ≤ x ∧ x ≤ 57 then 2 else if x = 59 then 3 else 4, u)) := by
        intro h1 h2
        rw [if_neg h1, if_neg h2]
        refine wp_g (by omega) ?_
        refine wp_i (fun cc => ?_) (fun cc => ?_)
        · rw [if_pos (by assumption)]; exact wp_s rfl
        · rw [if_neg (by assumption)]; exact wp_s rfl
      have mid : ∀ _ : ¬ (97 ≤ x ∧ x ≤ 122), wp (xgd (InR x) <| xlet (fun (u10 : uS) => xgd (InR x) <| if x = 59 then some ((3 : Int), u10) else some (4, u10)) fun j9 => if x < 48 then j9 u else xgd (InR x) <| if 57 < x then j9 u else some (2, u)) (fun b => b = (if 97 ≤ x ∧ x ≤ 122 then 1 else if 48 ≤ x ∧ x ≤ 57 then 2 else if x = 59 then 3 else 4, u)) := by
        intro h1
        refine wp_g (by omega) ?_
        refine wp_L ?_
        refine wp_i (fun cc => ?_) (fun cc => ?_)
        · exact last h1 (by omega)
        · refine wp_g (by omega) ?_
          refine wp_i (fun cc => ?_) (fun cc => ?_)
          · exact last h1 (by omega)
          · rw [if_neg h1, if_pos (by omega)]; exact wp_s rfl
      refine wp_i (fun cc => ?_) (fun cc => ?_)
      · exact mid (by omega)
      · refine wp_g (by omega) ?_
        refine wp_i (fun cc => ?_) (fun cc => ?_)
        · exact mid (by omega)
        · rw [if_pos (by omega)]; exact wp_s rfl
theorem cextend {x K : Int} (h0 : u 3 0 = K) (hK : 1 ≤ K ∧ K ≤ 500) : f_X8_extend x u = some (0, up (up u 6 (K - 1) (u 6 (K - 1) + 1)) 7 (K - 1) (u 7 (K - 1) * 10 + x - 48)) := by
  refine wp_eq ?_
  unfold f_X8_extend
  rw [h0]
  repeat (first | (with_reducible refine wp_L ?_) | (with_reducible refine wp_g ?_ ?_; · omega) | (with_reducible refine wp_f ?_ ?_; · omega) | (with_reducible refine wp_t ?_ ?_; · omega))
  rw [up_k (k := 6) (i := 7) (by decide)]
  exact wp_s rfl
theorem copen {k s K : Int} (h0 : u 3 0 = K) (hK : 0 ≤ K ∧ K < 500) : f_X8_open k s u = some (0, up (up (up (up (up u 4 K k) 5 K s) 6 K 0) 7 K 0) 3 0 (K + 1)) := by
  refine wp_eq ?_
  unfold f_X8_open
  repeat (first | (with_reducible refine wp_g ?_ ?_; · omega) | (with_reducible refine wp_f ?_ ?_; · omega) | (with_reducible refine wp_t ?_ ?_; · omega))
  refine wp_L ?_
  rw [h0, up_k (k := 4) (i := 3) (by decide), h0]
  repeat (first | (with_reducible refine wp_g ?_ ?_; · omega) | (with_reducible refine wp_f ?_ ?_; · omega) | (with_reducible refine wp_t ?_ ?_; · omega))
  refine wp_L ?_
  rw [up_k (k := 5) (i := 3) (by decide), up_k (k := 4) (i := 3) (by decide), h0]
  repeat (first | (with_reducible refine wp_g ?_ ?_; · omega) | (with_reducible refine wp_f ?_ ?_; · omega) | (with_reducible refine wp_t ?_ ?_; · omega))
  refine wp_L ?_
  rw [up_k (k := 6) (i := 3) (by decide), up_k (k := 5) (i := 3) (by decide), up_k (k := 4) (i := 3) (by decide), h0]
  repeat (first | (with_reducible refine wp_g ?_ ?_; · omega) | (with_reducible refine wp_f ?_ ?_; · omega) | (with_reducible refine wp_t ?_ ?_; · omega))
  refine wp_L ?_
  refine wp_L ?_
  rw [up_k (k := 7) (i := 3) (by decide), up_k (k := 6) (i := 3) (by decide), up_k (k := 5) (i := 3) (by decide), up_k (k := 4) (i := 3) (by decide), h0]
  exact wp_s rfl
/-- only the tokens have changed -/
def FrL (u w : uS) : Prop := ∀ c, (c < 3 ∨ 8 ≤ c) → w c = u c
theorem csplit (hn : 0 ≤ n ∧ n ≤ 500) (hB : ∀ j, 0 ≤ j → j < n → u 1 j = B j ∧ 0 ≤ B j ∧ B j < 256) : wp (f_X8_split 1 n u) (fun q => FrL u q.2 ∧ TD B n (q.2 3 0) (q.2 4) (q.2 5) (q.2 6) (q.2 7)) := by
  have s1 : (sN 1 : Int) = 500 := by decide +kernel
  have r1 : (1 : Nat) < NN ∧ sT 1 = 100 := by decide +kernel
  unfold f_X8_split
  refine wp_g r1 ?_
  refine wp_l (fun w0 g0 => ?_)
  refine wp_L ?_
  refine wl3 (fun b i v => FrL u v ∧ (0 ≤ i ∧ i ≤ n) ∧ b = (if i = 0 then 0 else kd (B (i - 1))) ∧ TDp B i (v 3 0) (v 4) (v 5) (v 6) (v 7)) (fun _ i _ => (n - i).toNat) (fun go b i v hI hg => ?_) FU _ _ _ ⟨fun c hc => by rw [g0]; exact up_c (by omega), by omega, rfl, by rw [g0, up_s]; exact TDp_0⟩ (FU_l (by omega))
  obtain ⟨hf, hi, hb, hT⟩ := hI
  have hK := hT.1
  unfold s_X8_split_10
  rw [s1]
  refine wp_g (by omega) ?_
  refine wp_i (fun cc => ?_) (fun cc => ?_)
  · -- the long ones
    have hin : i = n := by omega
    subst hin
    have fin : wp (f_X8_refuseLongOnes v) (fun q => FrL u q.2 ∧ TD B i (q.2 3 0) (q.2 4) (q.2 5) (q.2 6) (q.2 7)) := by
      unfold f_X8_refuseLongOnes
      refine wl2 (fun t w => FrL u w ∧ w 3 = v 3 ∧ w 5 = v 5 ∧ w 6 = v 6 ∧ w 7 = v 7 ∧ (0 ≤ t ∧ t ≤ v 3 0) ∧ (∀ j, 0 ≤ j → j < t → w 4 j = kf (v 4 j) (v 6 j)) ∧ ∀ j, t ≤ j → w 4 j = v 4 j) (fun t _ => (v 3 0 - t).toNat) (fun go t w hI hg => ?_) FU _ _ ⟨hf, rfl, rfl, rfl, rfl, by omega, fun j h1 h2 => by omega, fun _ _ => rfl⟩ (FU_l (by omega))
      obtain ⟨hf2, w3, w5, w6, w7, ht, hl, hr⟩ := hI
      unfold s_X8_refuseLongOnes_2
      rw [w3]
      refine wp_g (by omega) ?_
      refine wp_i (fun cc => ?_) (fun cc => ?_)
      · refine wp_s ⟨hf2, v 4, ?_, fun j j0 j1 => ?_⟩
        · show TDp B i (w 3 0) (v 4) (w 5) (w 6) (w 7)
          rw [w3, w5, w6, w7]; exact hT
        · show w 4 j = kf (v 4 j) (w 6 j)
          rw [w6]
          have j1 : j < w 3 0 := j1
          rw [w3] at j1
          exact hl j j0 (by omega)
      · have e4 : w 4 t = v 4 t := hr t (Int.le_refl _)
        have e6 : w 6 t = v 6 t := by rw [w6]
        obtain ⟨⟨a, b2, c2, d2, -⟩, k1, -⟩ := hT.2.1 t ht.1 (by omega)
        have kb := kd_b (B (v 5 t))
        have keep : kf (v 4 t) (v 6 t) = v 4 t → wp (go (t + 1) w) (fun q => FrL u q.2 ∧ TD B i (q.2 3 0) (q.2 4) (q.2 5) (q.2 6) (q.2 7)) := fun hk =>
          hg _ _ ⟨hf2, w3, w5, w6, w7, by omega, fun j j0 j1 => by
            by_cases hj : j = t
            · subst hj; rw [hk]; exact e4
            · exact hl j j0 (by omega), fun j hj => hr j (by omega)⟩ (by omega)
        have put : kf (v 4 t) (v 6 t) = 4 → wp (go (t + 1) (up w 4 t 4)) (fun q => FrL u q.2 ∧ TD B i (q.2 3 0) (q.2 4) (q.2 5) (q.2 6) (q.2 7)) := fun hk =>
          hg _ _ ⟨fun c hc => (up_c (by omega)).trans (hf2 c hc), (up_c (by decide)).trans w3, (up_c (by decide)).trans w5, (up_c (by decide)).trans w6, (up_c (by decide)).trans w7, by omega, fun j j0 j1 => by
            by_cases hj : j = t
            · subst hj; rw [up_s, hk]
            · rw [up_j hj]; exact hl j j0 (by omega), fun j hj => by rw [up_j (by omega)]; exact hr j (by omega)⟩ (by omega)
        by_cases q1 : v 4 t = 1
        · by_cases q2 : v 6 t ≤ 8
          · have hk : kf (v 4 t) (v 6 t) = v 4 t := if_neg (by omega)
            repeat (first | (with_reducible refine wp_L ?_) | (with_reducible refine wp_g ?_ ?_; · omega) | (with_reducible refine wp_f ?_ ?_; · omega) | (with_reducible refine wp_t ?_ ?_; · omega))
            exact keep hk
          · have hk : kf (v 4 t) (v 6 t) = 4 := if_pos (by omega)
            repeat (first | (with_reducible refine wp_L ?_) | (with_reducible refine wp_g ?_ ?_; · omega) | (with_reducible refine wp_f ?_ ?_; · omega) | (with_reducible refine wp_t ?_ ?_; · omega))
            exact put hk
        · by_cases q3 : v 4 t = 2
          · by_cases q2 : v 6 t ≤ 4
            · have hk : kf (v 4 t) (v 6 t) = v 4 t := if_neg (by omega)
              repeat (first | (with_reducible refine wp_L ?_) | (with_reducible refine wp_g ?_ ?_; · omega) | (with_reducible refine wp_f ?_ ?_; · omega) | (with_reducible refine wp_t ?_ ?_; · omega))
              exact keep hk
            · have hk : kf (v 4 t) (v 6 t) = 4 := if_pos (by omega)
              repeat (first | (with_reducible refine wp_L ?_) | (with_reducible refine wp_g ?_ ?_; · omega) | (with_reducible refine wp_f ?_ ?_; · omega) | (with_reducible refine wp_t ?_ ?_; · omega))
              exact put hk
          · have hk : kf (v 4 t) (v 6 t) = v 4 t := if_neg (by omega)
            repeat (first | (with_reducible refine wp_L ?_) | (with_reducible refine wp_g ?_ ?_; · omega) | (with_reducible refine wp_f ?_ ?_; · omega) | (with_reducible refine wp_t ?_ ?_; · omega))
            exact keep hk
    refine wp_b fin (fun r w hw => wp_s hw)
  · have hBi := hB i hi.1 (by omega)
    have e1 : v 1 i = B i := by rw [hf 1 (by decide)]; exact hBi.1
    have kb := kd_b (B i)
    refine wp_g (by omega) ?_
    refine wp_f (by omega) ?_
    refine wp_g (by omega) ?_
    rw [e1]
    refine wp_e (ckindOf (by omega)) ?_
    have hbb : 0 ≤ b ∧ b ≤ 4 := by
      rw [hb]
      split
      · omega
      · exact kd_b _
    have nb : kd (B i) = (if i + 1 = 0 then 0 else kd (B (i + 1 - 1))) := by rw [if_neg (by omega), show i + 1 - 1 = i by omega]
    -- a run goes on
    have goes : (1 ≤ i ∧ kd (B (i - 1)) = kd (B i) ∧ (kd (B i) = 1 ∨ kd (B i) = 2)) → wp (xbd (f_X8_extend (v 1 i) v) fun _ u31 => go (kd (B i)) (i + 1) u31) (fun q => FrL u q.2 ∧ TD B n (q.2 3 0) (q.2 4) (q.2 5) (q.2 6) (q.2 7)) := by
      intro hc
      obtain ⟨x1, x2⟩ := hT.ext hc.1 hc.2.1 hc.2.2
      rw [e1]
      refine wp_e (cextend (K := v 3 0) rfl (by omega)) ?_
      refine hg _ _ _ ⟨fun c hc => (up_c (by omega)).trans ((up_c (by omega)).trans (hf c hc)), by omega, nb, ?_⟩ (by omega)
      have r3 : up (up v 6 (v 3 0 - 1) (v 6 (v 3 0 - 1) + 1)) 7 (v 3 0 - 1) (v 7 (v 3 0 - 1) * 10 + B i - 48) 3 0 = v 3 0 := by rw [up_k (by decide), up_k (by decide)]
      have r4 : up (up v 6 (v 3 0 - 1) (v 6 (v 3 0 - 1) + 1)) 7 (v 3 0 - 1) (v 7 (v 3 0 - 1) * 10 + B i - 48) 4 = v 4 := (up_c (by decide)).trans (up_c (by decide))
      have r5 : up (up v 6 (v 3 0 - 1) (v 6 (v 3 0 - 1) + 1)) 7 (v 3 0 - 1) (v 7 (v 3 0 - 1) * 10 + B i - 48) 5 = v 5 := (up_c (by decide)).trans (up_c (by decide))
      have r6 : up (up v 6 (v 3 0 - 1) (v 6 (v 3 0 - 1) + 1)) 7 (v 3 0 - 1) (v 7 (v 3 0 - 1) * 10 + B i - 48) 6 = fun j => if j = v 3 0 - 1 then v 6 j + 1 else v 6 j := by
        rw [up_c (by decide), up_row]
        funext j
        by_cases hj : j = v 3 0 - 1
        · rw [if_pos hj, if_pos hj, hj]
        · rw [if_neg hj, if_neg hj]
      have r7 : up (up v 6 (v 3 0 - 1) (v 6 (v 3 0 - 1) + 1)) 7 (v 3 0 - 1) (v 7 (v 3 0 - 1) * 10 + B i - 48) 7 = fun j => if j = v 3 0 - 1 then v 7 j * 10 + B i - 48 else v 7 j := by
        rw [up_row]
        funext j
        by_cases hj : j = v 3 0 - 1
        · rw [if_pos hj, if_pos hj, hj]
        · rw [if_neg hj, if_neg hj, up_k (by decide)]
      rw [r3, r4, r5, r6, r7]
      exact x2
    -- a token begins
    have opens : kd (B i) ≠ 0 → ¬ (1 ≤ i ∧ kd (B (i - 1)) = kd (B i) ∧ (kd (B i) = 1 ∨ kd (B i) = 2)) → wp (xbd (f_X8_open (kd (B i)) i v) fun _ u36 => xgd (InR (kd (B i))) <| if kd (B i) = 0 then go (kd (B i)) (i + 1) u36 else xgd ((0 ≤ i ∧ i < 500)) <| xbd (f_X8_extend (u36 1 i) u36) fun _ u31 => go (kd (B i)) (i + 1) u31) (fun q => FrL u q.2 ∧ TD B n (q.2 3 0) (q.2 4) (q.2 5) (q.2 6) (q.2 7)) := by
      intro hk hc
      have x2 := hT.new hi.1 hk hc
      refine wp_e (copen (K := v 3 0) rfl (by omega)) ?_
      generalize hK0 : v 3 0 = K0 at *
      generalize hw : up (up (up (up (up v 4 K0 (kd (B i))) 5 K0 i) 6 K0 0) 7 K0 0) 3 0 (K0 + 1) = w
      have w1 : w 1 i = B i := by rw [← hw, up_k (by decide), up_k (by decide), up_k (by decide), up_k (by decide), up_k (by decide)]; exact e1
      have w3 : w 3 0 = K0 + 1 := by rw [← hw, up_s]
      have w4 : w 4 = fun j => if j = K0 then kd (B i) else v 4 j := by rw [← hw, up_c (by decide), up_c (by decide), up_c (by decide), up_c (by decide), up_row]
      have w5 : w 5 = fun j => if j = K0 then i else v 5 j := by rw [← hw, up_c (by decide), up_c (by decide), up_c (by decide), up_row]; funext j; rw [up_k (by decide)]
      have w6 : w 6 = fun j => if j = K0 then 0 else v 6 j := by rw [← hw, up_c (by decide), up_c (by decide), up_row]; funext j; rw [up_k (by decide), up_k (by decide)]
      have w7 : w 7 = fun j => if j = K0 then 0 else v 7 j := by rw [← hw, up_c (by decide), up_row]; funext j; rw [up_k (by decide), up_k (by decide), up_k (by decide)]
      have wf : ∀ c, (c < 3 ∨ 8 ≤ c) → w c = v c := fun c hc => by rw [← hw, up_c (by omega), up_c (by omega), up_c (by omega), up_c (by omega), up_c (by omega)]
      refine wp_g (by omega) ?_
      refine wp_f hk ?_
      refine wp_g (by omega) ?_
      rw [w1]
      refine wp_e (cextend (K := K0 + 1) w3 (by omega)) ?_
      rw [show K0 + 1 - 1 = K0 by omega]
      have e6 : w 6 K0 = 0 := by rw [w6]; exact if_pos rfl
      have e7 : w 7 K0 = 0 := by rw [w7]; exact if_pos rfl
      rw [e6, e7]
      refine hg _ _ _ ⟨fun c hc => (up_c (by omega)).trans ((up_c (by omega)).trans ((wf c hc).trans (hf c hc))), by omega, nb, ?_⟩ (by omega)
      have r3 : up (up w 6 K0 (0 + 1)) 7 K0 (0 * 10 + B i - 48) 3 0 = K0 + 1 := by rw [up_k (by decide), up_k (by decide)]; exact w3
      have r4 : up (up w 6 K0 (0 + 1)) 7 K0 (0 * 10 + B i - 48) 4 = fun j => if j = K0 then kd (B i) else v 4 j := (up_c (by decide)).trans ((up_c (by decide)).trans w4)
      have r5 : up (up w 6 K0 (0 + 1)) 7 K0 (0 * 10 + B i - 48) 5 = fun j => if j = K0 then i else v 5 j := (up_c (by decide)).trans ((up_c (by decide)).trans w5)
      have r6 : up (up w 6 K0 (0 + 1)) 7 K0 (0 * 10 + B i - 48) 6 = fun j => if j = K0 then 1 else v 6 j := by
        rw [up_c (by decide), up_row, w6]
        funext j
        by_cases hj : j = K0
        · rw [if_pos hj, if_pos hj]; rfl
        · rw [if_neg hj, if_neg hj]; exact if_neg hj
      have r7 : up (up w 6 K0 (0 + 1)) 7 K0 (0 * 10 + B i - 48) 7 = fun j => if j = K0 then 0 * 10 + B i - 48 else v 7 j := by
        rw [up_row]
        funext j
        by_cases hj : j = K0
        · rw [if_pos hj, if_pos hj]
        · rw [if_neg hj, if_neg hj, up_k (by decide), w7]; exact if_neg hj
      rw [r3, r4, r5, r6, r7]
      exact x2
    refine wp_g (by omega) ?_
    refine wp_L ?_
    refine wp_L ?_
    have hbi : b = kd (B i) → kd (B i) ≠ 0 → (1 ≤ i ∧ kd (B (i - 1)) = kd (B i)) := fun h h2 => by
      by_cases h3 : i = 0
      · rw [if_pos h3] at hb; omega
      · rw [if_neg h3] at hb; exact ⟨by omega, by omega⟩
    by_cases k0 : kd (B i) = 0
    · have nxt : wp (go (kd (B i)) (i + 1) v) (fun q => FrL u q.2 ∧ TD B n (q.2 3 0) (q.2 4) (q.2 5) (q.2 6) (q.2 7)) := hg _ _ _ ⟨hf, by omega, nb, hT.blank k0⟩ (by omega)
      by_cases q1 : kd (B i) = b
      · refine wp_t (by omega) ?_
        repeat (first | (with_reducible refine wp_L ?_) | (with_reducible refine wp_g ?_ ?_; · omega) | (with_reducible refine wp_f ?_ ?_; · omega) | (with_reducible refine wp_t ?_ ?_; · omega))
        exact nxt
      · refine wp_f (by omega) ?_
        repeat (first | (with_reducible refine wp_L ?_) | (with_reducible refine wp_g ?_ ?_; · omega) | (with_reducible refine wp_f ?_ ?_; · omega) | (with_reducible refine wp_t ?_ ?_; · omega))
        exact nxt
    · by_cases q1 : kd (B i) = b
      · have h3 := hbi q1.symm k0
        by_cases q2 : kd (B i) = 1
        · refine wp_t (by omega) ?_
          repeat (first | (with_reducible refine wp_L ?_) | (with_reducible refine wp_g ?_ ?_; · omega) | (with_reducible refine wp_f ?_ ?_; · omega) | (with_reducible refine wp_t ?_ ?_; · omega))
          exact goes ⟨h3.1, h3.2, Or.inl q2⟩
        · by_cases q3 : kd (B i) = 2
          · refine wp_t (by omega) ?_
            repeat (first | (with_reducible refine wp_L ?_) | (with_reducible refine wp_g ?_ ?_; · omega) | (with_reducible refine wp_f ?_ ?_; · omega) | (with_reducible refine wp_t ?_ ?_; · omega))
            exact goes ⟨h3.1, h3.2, Or.inr q3⟩
          · refine wp_t (by omega) ?_
            repeat (first | (with_reducible refine wp_L ?_) | (with_reducible refine wp_g ?_ ?_; · omega) | (with_reducible refine wp_f ?_ ?_; · omega) | (with_reducible refine wp_t ?_ ?_; · omega))
            exact opens k0 (fun h => by omega)
      · refine wp_f (by omega) ?_
        repeat (first | (with_reducible refine wp_L ?_) | (with_reducible refine wp_g ?_ ?_; · omega) | (with_reducible refine wp_f ?_ ?_; · omega) | (with_reducible refine wp_t ?_ ?_; · omega))
        refine opens k0 (fun h => ?_)
        rw [if_neg (by omega)] at hb
        omega
end LX
