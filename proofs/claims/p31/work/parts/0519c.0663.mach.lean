/-! pure part, 33: what a text of tokens means, token by token -/
/-- the token that begins at s and is l long spells the word w -/
def WD (B : Int → Int) (s l w : Int) : Prop := l = ((strL (2000 + w).toNat).length : Int) ∧ ∀ q, 0 ≤ q → q < l → B (s + q) = (strL (2000 + w).toNat).getD q.toNat 0
theorem wd_t : ∀ a, a < 9 → (4 ≤ (strL (2000 + a)).length ∧ (strL (2000 + a)).length ≤ 8) ∧ ∀ b, b < 9 → (strL (2000 + a)).length = (strL (2000 + b)).length → (strL (2000 + a)).getD 0 0 = (strL (2000 + b)).getD 0 0 → (strL (2000 + a)).getD 1 0 = (strL (2000 + b)).getD 1 0 → a = b := by decide +kernel
theorem wd_u {B : Int → Int} {s l w w' : Int} (hw : 0 ≤ w ∧ w < 9) (hw' : 0 ≤ w' ∧ w' < 9) (h : WD B s l w) (h' : WD B s l w') : w = w' := by
  obtain ⟨a, rfl⟩ := Int.eq_ofNat_of_zero_le hw.1
  obtain ⟨b, rfl⟩ := Int.eq_ofNat_of_zero_le hw'.1
  unfold WD at h h'
  rw [show ((2000 : Int) + (a : Int)).toNat = 2000 + a by omega] at h
  rw [show ((2000 : Int) + (b : Int)).toNat = 2000 + b by omega] at h'
  obtain ⟨t1, t2⟩ := wd_t a (by omega)
  have e := t2 b (by omega) (by omega) ((h.2 0 (by omega) (by omega)).symm.trans (h'.2 0 (by omega) (by omega))) ((h.2 1 (by omega) (by omega)).symm.trans (h'.2 1 (by omega) (by omega)))
  omega
/-- the word that a token is, or -1 -/
noncomputable def srt (B : Int → Int) (k s l : Int) : Int := cif (k = 1 ∧ ∃ w : Int, (0 ≤ w ∧ w < 9) ∧ WD B s l w) (Classical.epsilon (fun w : Int => (0 ≤ w ∧ w < 9) ∧ WD B s l w)) (-1)
theorem srt_is {B : Int → Int} {k s l w : Int} (hk : k = 1) (hw : 0 ≤ w ∧ w < 9) (h : WD B s l w) : srt B k s l = w := by
  have hx : k = 1 ∧ ∃ w, (0 ≤ w ∧ w < 9) ∧ WD B s l w := ⟨hk, w, hw, h⟩
  unfold srt
  rw [cif_t hx]
  have e := Classical.epsilon_spec hx.2
  exact wd_u e.1 hw e.2 h
theorem srt_no {B : Int → Int} {k s l : Int} (h : k = 1 → ∀ w, 0 ≤ w → w < 9 → ¬ WD B s l w) : srt B k s l = -1 := by
  unfold srt
  rw [cif_f (fun hx => by obtain ⟨h1, w, h2, h3⟩ := hx; exact h h1 w h2.1 h2.2 h3)]
theorem srt_c {B : Int → Int} {k s l : Int} : (srt B k s l = -1 ∧ (k = 1 → ∀ w, 0 ≤ w → w < 9 → ¬ WD B s l w)) ∨ (k = 1 ∧ (0 ≤ srt B k s l ∧ srt B k s l < 9) ∧ WD B s l (srt B k s l)) := by
  by_cases h : k = 1 ∧ ∃ w, (0 ≤ w ∧ w < 9) ∧ WD B s l w
  · obtain ⟨h1, w, h2, h3⟩ := h
    rw [srt_is h1 h2 h3]
    exact Or.inr ⟨h1, h2, h3⟩
  · have h2 : k = 1 → ∀ w, 0 ≤ w → w < 9 → ¬ WD B s l w := fun a w w0 w1 hw => h ⟨a, w, ⟨w0, w1⟩, hw⟩
    exact Or.inl ⟨srt_no h2, h2⟩
def ITM (s : Int) : Int := gL_ITEMS.getD s.toNat 0
def MST (s : Int) : Int := gL_MOST.getD s.toNat 0
/-- what an item may be -/
def lo (M : uS) (s ic : Int) (it : Int → Int) : Int := if s = 3 ∧ ic = 1 then it 0 else if s = 7 then (if M 0 1 = 0 then 0 else if ic = 0 then M 3 (M 0 1 - 1) + 1 else M 4 (M 0 1 - 1)) else gL_LOWEST.getD (s * 5 + ic).toNat 0
def hi (s ic : Int) (it : Int → Int) : Int := if s = 4 ∧ ic = 1 then it 0 else gL_HIGHEST.getD (s * 5 + ic).toNat 0
/-- where the items of a sort go -/
def db (s : Int) : Int := if s = 1 then 2 else if s = 2 then 7 else if s = 3 then 8 else if s = 4 then 10 else if s = 5 then 12 else if s = 6 then 13 else 14
def fin (M : uS) (s : Int) (it : Int → Int) : uS :=
  if s = 0 then up (up (up M 1 (M 0 0) (it 0)) 2 (M 0 0) (it 1)) 0 0 (M 0 0 + 1)
  else if s = 7 then up (up (up M 3 (M 0 1) (it 0)) 4 (M 0 1) (it 1)) 0 1 (M 0 1 + 1)
  else fun j q => if j = 0 ∧ db s ≤ q ∧ q < db s + ITM s then it (q - db s) else M j q
def ctu (ct : Int → Int) (w : Int) : Int → Int := fun i => if i = w then ct i + 1 else ct i
def itu (it : Int → Int) (ic v : Int) : Int → Int := fun i => if i = ic then v else it i
/-- from token j on (n tokens to go): the code, the token where it ends, the network. s: the sort of the statement, or -1 between them -/
noncomputable def mrun (ks vs sr : Int → Int) : Nat → Int → Int → Int → (Int → Int) → (Int → Int) → uS → Int × Int × uS
  | 0, j, s, _, _, _, M => (if s = -1 then 0 else 1, j, M)
  | d + 1, j, s, ic, it, ct, M =>
    if s = -1 then (if sr j = -1 then (1, j, M) else if ct (sr j) < MST (sr j) then mrun ks vs sr d (j + 1) (sr j) 0 it (ctu ct (sr j)) M else (if MST (sr j) = 1 then 2 else 4, j, M))
    else if ITM s ≤ ic then (if ks j = 3 then mrun ks vs sr d (j + 1) (-1) ic it ct (fin M s it) else (1, j, M))
    else if ks j = 2 then (if lo M s ic it ≤ vs j ∧ vs j ≤ hi s ic it then mrun ks vs sr d (j + 1) s (ic + 1) (itu it ic (vs j)) ct M else (3, j, M)) else (1, j, M)
noncomputable def mr (ks vs sr : Int → Int) (K j s ic : Int) (it ct : Int → Int) (M : uS) : Int × Int × uS := mrun ks vs sr (K - j).toNat j s ic it ct M
section MR
variable {ks vs sr it ct : Int → Int} {K j s ic : Int} {M : uS}
theorem mr_e (h : j = K) : mr ks vs sr K j s ic it ct M = (if s = -1 then 0 else 1, j, M) := by
  unfold mr
  rw [show (K - j).toNat = 0 by omega]
  rfl
theorem mr_s (h : j < K) : mr ks vs sr K j s ic it ct M =
    if s = -1 then (if sr j = -1 then (1, j, M) else if ct (sr j) < MST (sr j) then mr ks vs sr K (j + 1) (sr j) 0 it (ctu ct (sr j)) M else (if MST (sr j) = 1 then 2 else 4, j, M))
    else if ITM s ≤ ic then (if ks j = 3 then mr ks vs sr K (j + 1) (-1) ic it ct (fin M s it) else (1, j, M))
    else if ks j = 2 then (if lo M s ic it ≤ vs j ∧ vs j ≤ hi s ic it then mr ks vs sr K (j + 1) s (ic + 1) (itu it ic (vs j)) ct M else (3, j, M)) else (1, j, M) := by
  unfold mr
  rw [show (K - j).toNat = (K - (j + 1)).toNat + 1 by omega]
  rfl
end MR
/-- bounds of what the machine holds -/
def Gd (s ic : Int) (it ct : Int → Int) (M : uS) : Prop := NWF M ∧ (-1 ≤ s ∧ s ≤ 8) ∧ (0 ≤ s → (0 ≤ ic ∧ ic ≤ ITM s) ∧ ∀ i, 0 ≤ i → i < ic → lo M s i it ≤ it i ∧ it i ≤ hi s i it) ∧ ct 0 = M 0 0 + (if s = 0 then 1 else 0) ∧ ct 7 = M 0 1 + (if s = 7 then 1 else 0) ∧ ∀ w, 0 ≤ w → w < 9 → 0 ≤ ct w ∧ ct w ≤ MST w
theorem gd_begin {ic w : Int} {it ct : Int → Int} {M : uS} (h : Gd (-1) ic it ct M) (hw : 0 ≤ w ∧ w < 9) (hc : ct w < MST w) : Gd w 0 it (ctu ct w) M := by
  obtain ⟨h1, -, -, h4, h5, h6⟩ := h
  have hi : 0 ≤ ITM w := by
    have t : ∀ a, a < 9 → (0 : Int) ≤ gL_ITEMS.getD a 0 := by decide
    exact t w.toNat (by omega)
  rw [if_neg (by decide)] at h4 h5
  refine ⟨h1, by omega, fun _ => ⟨by omega, fun i i0 i1 => by omega⟩, ?_, ?_, fun i i0 i1 => ?_⟩
  · unfold ctu; split <;> split <;> omega
  · unfold ctu; split <;> split <;> omega
  · have := h6 i i0 i1
    unfold ctu
    by_cases hi : i = w
    · rw [if_pos hi]; subst hi; omega
    · rw [if_neg hi]; exact this
theorem gd_item {s ic v : Int} {it ct : Int → Int} {M : uS} (h : Gd s ic it ct M) (hs : 0 ≤ s) (hi1 : ic < ITM s) (hv : lo M s ic it ≤ v ∧ v ≤ hi s ic it) : Gd s (ic + 1) (itu it ic v) ct M := by
  obtain ⟨h1, h2, h3, h4, h5, h6⟩ := h
  obtain ⟨hic, hit⟩ := h3 hs
  have keep : ∀ i, 0 ≤ i → i ≤ ic → lo M s i (itu it ic v) = lo M s i it ∧ hi s i (itu it ic v) = hi s i it := fun i i0 i1 => by
    by_cases h : i = 1
    · have e : itu it ic v 0 = it 0 := if_neg (by omega)
      unfold lo hi
      rw [e]; exact ⟨rfl, rfl⟩
    · unfold lo hi
      rw [if_neg (show ¬ (s = 3 ∧ i = 1) by omega), if_neg (show ¬ (s = 3 ∧ i = 1) by omega), if_neg (show ¬ (s = 4 ∧ i = 1) by omega), if_neg (show ¬ (s = 4 ∧ i = 1) by omega)]; exact ⟨rfl, rfl⟩
  refine ⟨h1, h2, fun _ => ⟨by omega, fun i i0 i1 => ?_⟩, h4, h5, h6⟩
  obtain ⟨k1, k2⟩ := keep i i0 (by omega)
  rw [k1, k2]
  by_cases h : i = ic
  · subst h
    rw [show itu it i v i = v from if_pos rfl]; exact hv
  · rw [show itu it ic v i = it i from if_neg h]; exact hit i i0 (by omega)
theorem fin_0 {M : uS} {it : Int → Int} : fin M 0 it = up (up (up M 1 (M 0 0) (it 0)) 2 (M 0 0) (it 1)) 0 0 (M 0 0 + 1) := if_pos rfl
theorem fin_7 {M : uS} {it : Int → Int} : fin M 7 it = up (up (up M 3 (M 0 1) (it 0)) 4 (M 0 1) (it 1)) 0 1 (M 0 1 + 1) := (if_neg (by decide)).trans (if_pos rfl)
theorem fin_x {M : uS} {s : Int} {it : Int → Int} (h0 : s ≠ 0) (h7 : s ≠ 7) : fin M s it = fun j q => if j = 0 ∧ db s ≤ q ∧ q < db s + ITM s then it (q - db s) else M j q := (if_neg h0).trans (if_neg h7)
theorem fin_g {M : uS} {s : Int} {it : Int → Int} (h0 : s ≠ 0) (h7 : s ≠ 7) {q : Int} (h : db s ≤ q ∧ q < db s + ITM s) : fin M s it 0 q = it (q - db s) := by rw [fin_x h0 h7]; exact if_pos ⟨rfl, h⟩
theorem fin_n {M : uS} {s : Int} {it : Int → Int} (h0 : s ≠ 0) (h7 : s ≠ 7) {j : Nat} {q : Int} (h : j ≠ 0 ∨ ¬ (db s ≤ q ∧ q < db s + ITM s)) : fin M s it j q = M j q := by rw [fin_x h0 h7]; exact if_neg (fun hh => by rcases h with h | h; exact h hh.1; exact h hh.2)
theorem gd_fin {s ic : Int} {it ct : Int → Int} {M : uS} (h : Gd s ic it ct M) (hs : 0 ≤ s) (hi1 : ITM s ≤ ic) : Gd (-1) ic it ct (fin M s it) := by
  obtain ⟨h1, h2, h3, h4, h5, h6⟩ := h
  obtain ⟨hic, hit⟩ := h3 hs
  have hN := h1
  obtain ⟨n0, n1, n2, n3, n4, n5, n6, n7, n8, n9, n10, n11, n12, n13, n14, nS, nR⟩ := hN
  have c0 := h6 0 (by omega) (by omega)
  have c7 := h6 7 (by omega) (by omega)
  rw [show MST 0 = 8 by decide] at c0
  rw [show MST 7 = 8 by decide] at c7
  have hc : s = 0 ∨ s = 1 ∨ s = 2 ∨ s = 3 ∨ s = 4 ∨ s = 5 ∨ s = 6 ∨ s = 7 ∨ s = 8 := by omega
  -- the sorts that have their own places
  have simple : s ≠ 0 → s ≠ 7 → NWF (fin M s it) → Gd (-1) ic it ct (fin M s it) := fun a b hW => by
    refine ⟨hW, by omega, fun h => by omega, ?_, ?_, h6⟩
    · rw [fin_n a b (Or.inr (by unfold db; split <;> (try split) <;> (try split) <;> (try split) <;> (try split) <;> (try split) <;> omega)), if_neg (by decide), h4, if_neg a]
    · rw [fin_n a b (Or.inr (by unfold db; split <;> (try split) <;> (try split) <;> (try split) <;> (try split) <;> (try split) <;> omega)), if_neg (by decide), h5, if_neg b]
  have i0 := hit 0 (by omega)
  have i1 := hit 1 (by omega)
  rcases hc with rfl | rfl | rfl | rfl | rfl | rfl | rfl | rfl | rfl
  · -- a station
    have e : ITM 0 = 2 := by decide
    rw [e] at hi1
    have a := i0 (by omega)
    have b := i1 (by omega)
    rw [show lo M 0 0 it = 0 from rfl, show hi 0 0 it = 999 from rfl] at a
    rw [show lo M 0 1 it = 0 from rfl, show hi 0 1 it = 999 from rfl] at b
    rw [if_pos rfl] at h4
    rw [if_neg (by decide)] at h5
    rw [fin_0]
    have k : ∀ q, q ≠ 0 → up (up (up M 1 (M 0 0) (it 0)) 2 (M 0 0) (it 1)) 0 0 (M 0 0 + 1) 0 q = M 0 q := fun q hq => by rw [up_j hq, up_k (by decide), up_k (by decide)]
    have k0 : up (up (up M 1 (M 0 0) (it 0)) 2 (M 0 0) (it 1)) 0 0 (M 0 0 + 1) 0 0 = M 0 0 + 1 := up_s _ _ _ _
    refine ⟨?_, by omega, fun h => by omega, by rw [k0, if_neg (by decide)]; omega, by rw [k 7 (by decide) |> fun _ => k 1 (by decide), if_neg (by decide)]; omega, h6⟩
    unfold NWF
    rw [k0, k 1 (by decide), k 2 (by decide), k 3 (by decide), k 4 (by decide), k 5 (by decide), k 6 (by decide), k 7 (by decide), k 8 (by decide), k 9 (by decide), k 10 (by decide), k 11 (by decide), k 12 (by decide), k 13 (by decide), k 14 (by decide)]
    refine ⟨by omega, n1, n2, n3, n4, n5, n6, n7, n8, n9, n10, n11, n12, n13, n14, fun q q0 q1 => ?_, fun r r0 r1 => ?_⟩
    · by_cases hq : q = M 0 0
      · rw [up_k (by decide), up_k (by decide), up_k (k := 0) (by decide), hq, up_s, up_s]; omega
      · rw [up_k (by decide), up_k (by decide), up_j hq, up_k (by decide), up_j hq, up_k (by decide)]; exact nS q q0 (by omega)
    · rw [up_k (by decide), up_k (by decide), up_k (by decide), up_k (by decide), up_k (by decide), up_k (by decide)]; exact nR r r0 r1
  · have j1 : (5 : Int) ≤ ic := hi1
    have a0 : 0 ≤ it 0 ∧ it 0 ≤ 999 := hit 0 (by omega) (by omega)
    have a1 : 0 ≤ it 1 ∧ it 1 ≤ 999 := hit 1 (by omega) (by omega)
    have a2 : 1 ≤ it 2 ∧ it 2 ≤ 12 := hit 2 (by omega) (by omega)
    have a3 : 1 ≤ it 3 ∧ it 3 ≤ 12 := hit 3 (by omega) (by omega)
    have a4 : 1 ≤ it 4 ∧ it 4 ≤ 99 := hit 4 (by omega) (by omega)
    exact simple (by decide) (by decide) ⟨n0, n1, a0, a1, a2, a3, a4, n7, n8, n9, n10, n11, n12, n13, n14, nS, nR⟩
  · have j1 : (1 : Int) ≤ ic := hi1
    have a0 : 1 ≤ it 0 ∧ it 0 ≤ 999 := hit 0 (by omega) (by omega)
    exact simple (by decide) (by decide) ⟨n0, n1, n2, n3, n4, n5, n6, a0, n8, n9, n10, n11, n12, n13, n14, nS, nR⟩
  · have j1 : (2 : Int) ≤ ic := hi1
    have a0 : 1 ≤ it 0 ∧ it 0 ≤ 50 := hit 0 (by omega) (by omega)
    have a1 : it 0 ≤ it 1 ∧ it 1 ≤ 99 := hit 1 (by omega) (by omega)
    exact simple (by decide) (by decide) ⟨n0, n1, n2, n3, n4, n5, n6, n7, a0, a1, n10, n11, n12, n13, n14, nS, nR⟩
  · have j1 : (2 : Int) ≤ ic := hi1
    have a0 : 1 ≤ it 0 ∧ it 0 ≤ 9999 := hit 0 (by omega) (by omega)
    have a1 : 0 ≤ it 1 ∧ it 1 ≤ it 0 := hit 1 (by omega) (by omega)
    have a2 : 0 ≤ it 1 ∧ it 1 ≤ 9999 := by omega
    exact simple (by decide) (by decide) ⟨n0, n1, n2, n3, n4, n5, n6, n7, n8, n9, a0, a2, n12, n13, n14, nS, nR⟩
  · have j1 : (1 : Int) ≤ ic := hi1
    have a0 : 1 ≤ it 0 ∧ it 0 ≤ 8 := hit 0 (by omega) (by omega)
    exact simple (by decide) (by decide) ⟨n0, n1, n2, n3, n4, n5, n6, n7, n8, n9, n10, n11, a0, n13, n14, nS, nR⟩
  · have j1 : (1 : Int) ≤ ic := hi1
    have a0 : 0 ≤ it 0 ∧ it 0 ≤ 99 := hit 0 (by omega) (by omega)
    exact simple (by decide) (by decide) ⟨n0, n1, n2, n3, n4, n5, n6, n7, n8, n9, n10, n11, n12, a0, n14, nS, nR⟩
  · -- a rung
    have j1 : (2 : Int) ≤ ic := hi1
    rw [if_neg (by decide)] at h4
    rw [if_pos rfl] at h5
    have a : (if M 0 1 = 0 then 0 else M 3 (M 0 1 - 1) + 1) ≤ it 0 ∧ it 0 ≤ 9999 := hit 0 (by omega) (by omega)
    have b : (if M 0 1 = 0 then 0 else M 4 (M 0 1 - 1)) ≤ it 1 ∧ it 1 ≤ 99 := hit 1 (by omega) (by omega)
    have a' : 0 ≤ it 0 ∧ it 0 ≤ 9999 ∧ 0 ≤ it 1 := by
      by_cases h : M 0 1 = 0
      · rw [if_pos h] at a b; omega
      · rw [if_neg h] at a b
        have := nR (M 0 1 - 1) (by omega) (by omega)
        omega
    rw [fin_7]
    have k : ∀ q, q ≠ 1 → up (up (up M 3 (M 0 1) (it 0)) 4 (M 0 1) (it 1)) 0 1 (M 0 1 + 1) 0 q = M 0 q := fun q hq => by rw [up_j hq, up_k (by decide), up_k (by decide)]
    have k1 : up (up (up M 3 (M 0 1) (it 0)) 4 (M 0 1) (it 1)) 0 1 (M 0 1 + 1) 0 1 = M 0 1 + 1 := up_s _ _ _ _
    refine ⟨?_, by omega, fun h => by omega, by rw [k 0 (by decide), if_neg (by decide)]; omega, by rw [k1, if_neg (by decide)]; omega, h6⟩
    unfold NWF
    rw [k1, k 0 (by decide), k 2 (by decide), k 3 (by decide), k 4 (by decide), k 5 (by decide), k 6 (by decide), k 7 (by decide), k 8 (by decide), k 9 (by decide), k 10 (by decide), k 11 (by decide), k 12 (by decide), k 13 (by decide), k 14 (by decide)]
    refine ⟨n0, by omega, n2, n3, n4, n5, n6, n7, n8, n9, n10, n11, n12, n13, n14, fun q q0 q1 => ?_, fun r r0 r1 => ?_⟩
    · rw [up_k (by decide), up_k (by decide), up_k (by decide), up_k (by decide), up_k (by decide), up_k (by decide)]; exact nS q q0 q1
    · by_cases hr : r = M 0 1
      · rw [up_k (by decide), up_k (by decide), up_k (k := 0) (by decide), hr, up_s, up_s]; omega
      · rw [up_k (by decide), up_k (by decide), up_j hr, up_k (by decide), up_j hr, up_k (by decide)]; exact nR r r0 (by omega)
  · have j1 : (1 : Int) ≤ ic := hi1
    have a0 : 0 ≤ it 0 ∧ it 0 ≤ 99 := hit 0 (by omega) (by omega)
    exact simple (by decide) (by decide) ⟨n0, n1, n2, n3, n4, n5, n6, n7, n8, n9, n10, n11, n12, n13, a0, nS, nR⟩
