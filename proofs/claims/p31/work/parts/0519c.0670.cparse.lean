/-! pure part, 40: the class's parse -/
def mpos (n K : Int) (ss : Int → Int) (p : Int) : Int := if p < K then ss p else n
noncomputable def srj (B ks ss ls : Int → Int) : Int → Int := fun j => srt B (ks j) (ss j) (ls j)
noncomputable def mR (B : Int → Int) (K : Int) (ks ss ls vs : Int → Int) : Int × Int × uS := mr ks vs (srj B ks ss ls) K 0 (-1) 0 (fun _ => 0) (fun _ => 0) dN
theorem gd_0 : Gd (-1) 0 (fun _ => 0) (fun _ => 0) dN := by
  refine ⟨dN_w, by decide, fun h => by omega, rfl, rfl, fun w w0 w1 => ⟨Int.le_refl 0, ?_⟩⟩
  have := mst_b (s := w) (by omega)
  show (0 : Int) ≤ MST w
  omega
/-- a situation in which nothing has been -/
def zV : uS := fun _ _ => 0
section CPA
variable {u : uS} {k : Nat} {B : Int → Int} {n : Int}
def FrR (k : Nat) (u w : uS) : Prop := ∀ c, (c < 2 ∨ 10 ≤ c) → (c < k ∨ k + 9 ≤ c) → w c = u c
theorem cread (hk : k = 10 ∨ k = 19) (hn : 0 ≤ n ∧ n ≤ 500) (hB : ∀ j, 0 ≤ j → j < n → u 1 j = B j ∧ 0 ≤ B j ∧ B j < 256) :
    wp (f_X1_read 1 n k u) (fun q => FrR k u q.2 ∧ (0 ≤ q.1 ∧ q.1 ≤ 4) ∧ ∃ K ks ss ls vs, TD B n K ks ss ls vs ∧ q.1 = (mR B K ks ss ls vs).1 ∧ q.2 2 0 = (if q.1 = 0 then -1 else mpos n K ss (mR B K ks ss ls vs).2.1) ∧ (q.1 = 0 → NWF (mR B K ks ss ls vs).2.2 ∧ CN q.2 k (mR B K ks ss ls vs).2.2)) := by
  have r1 : (1 : Nat) < NN ∧ sT 1 = 100 := by decide +kernel
  have r8 : (8 : Nat) < NN ∧ sT 8 = 100 := by decide +kernel
  have s8 : sN 8 = 9 := by decide +kernel
  unfold f_X1_read
  refine wp_g ⟨r1, (net_k hk).1⟩ ?_
  refine wp_b (creset hk) (fun r w1 h1 => ?_)
  obtain ⟨f1, m1⟩ := h1
  have f1 : ∀ c, (c < k ∨ k + 9 ≤ c) → w1 c = u c := f1
  have m1 : CNb w1 k dN := m1
  refine wp_b (cfill r8 (by omega)) (fun r w2 h2 => ?_)
  obtain ⟨f2, z2⟩ := h2
  have f2 : ∀ d, d ≠ 8 → w2 d = w1 d := f2
  have z2 : ∀ j, 0 ≤ j → j < (sN 8 : Int) → w2 8 j = 0 := z2
  refine wp_l (fun w3 g3 => ?_)
  refine wp_b (csplit (B := B) hn (fun j j0 j1 => ?_)) (fun r w4 h4 => ?_)
  · rw [g3, up_k (by decide), f2 1 (by decide), f1 1 (by omega)]; exact hB j j0 j1
  obtain ⟨f4, hT⟩ := h4
  have f4 : ∀ c, (c < 3 ∨ 8 ≤ c) → w4 c = w3 c := f4
  have hT : TD B n (w4 3 0) (w4 4) (w4 5) (w4 6) (w4 7) := hT
  have fr : ∀ c, (c < 2 ∨ 10 ≤ c) → (c < k ∨ k + 9 ≤ c) → w4 c = u c := fun c a b => by
    rw [f4 c (by omega), g3, up_c (by omega), f2 c (by omega), f1 c b]
  have hC : CTk B n (w4 3 0) (w4 4) (w4 5) (w4 6) (w4 7) w4 := ⟨rfl, rfl, rfl, rfl, rfl, fun q q0 q1 => by rw [fr 1 (by decide) (by omega)]; exact hB q q0 q1⟩
  have hP : CP w4 k (-1) 0 (fun _ => 0) (fun _ => 0) dN := by
    refine ⟨?_, fun h => by omega, fun h => by omega, fun i i0 i1 => ?_, m1.rw (fun c c0 c1 => ?_)⟩
    · rw [f4 2 (by decide), g3, up_s]
    · rw [f4 8 (by decide), g3, up_k (by decide)]; exact z2 i i0 (by omega)
    · rw [f4 c (by omega), g3, up_c (by omega), f2 c (by omega)]
  have hKn : 0 ≤ w4 3 0 ∧ w4 3 0 ≤ n := by
    obtain ⟨rk, hP, -⟩ := hT
    exact hP.1
  refine wp_l (fun j9 e9 => ?_)
  refine wp_l (fun j17 e17 => ?_)
  generalize hK : w4 3 0 = K at *
  generalize w4 4 = ks at *
  generalize w4 5 = ss at *
  generalize w4 6 = ls at *
  generalize w4 7 = vs at *
  have hR : mR B K ks ss ls vs = mr ks vs (srj B ks ss ls) K 0 (-1) 0 (fun _ => 0) (fun _ => 0) dN := rfl
  generalize mR B K ks ss ls vs = R at *
  -- what is left to show
  have ends : ∀ (r : Int) (w : uS), FrR k u w → (0 ≤ r ∧ r ≤ 4) → r = R.1 → w 2 0 = (if r = 0 then -1 else mpos n K ss R.2.1) → (r = 0 → NWF R.2.2 ∧ CN w k R.2.2) → (mR B K ks ss ls vs = R) → wp (some (r, w)) (fun q => FrR k u q.2 ∧ (0 ≤ q.1 ∧ q.1 ≤ 4) ∧ ∃ K ks ss ls vs, TD B n K ks ss ls vs ∧ q.1 = (mR B K ks ss ls vs).1 ∧ q.2 2 0 = (if q.1 = 0 then -1 else mpos n K ss (mR B K ks ss ls vs).2.1) ∧ (q.1 = 0 → NWF (mR B K ks ss ls vs).2.2 ∧ CN q.2 k (mR B K ks ss ls vs).2.2)) := by
    intro r w a b c d e hRR
    exact wp_s ⟨a, b, K, ks, ss, ls, vs, hT, by rw [hRR]; exact c, by rw [hRR]; exact d, by rw [hRR]; exact e⟩
  refine wl2 (fun j v => (0 ≤ j ∧ j ≤ K) ∧ FrR k u v ∧ CTk B n K ks ss ls vs v ∧ ∃ s ic it ct M, Gd s ic it ct M ∧ CP v k s ic it ct M ∧ R = mr ks vs (srj B ks ss ls) K j s ic it ct M) (fun j _ => (K - j).toNat) (fun go j v hI hg => ?_) FU _ _ ⟨by omega, fr, hC, -1, 0, fun _ => 0, fun _ => 0, dN, gd_0, hP, hR⟩ (FU_l (by omega))
  obtain ⟨hj, hf, hC, s, ic, it, ct, M, hG, hP, hRj⟩ := hI
  have e3 : v 3 0 = K := hC.1
  unfold s_X1_read_29
  rw [e3]
  refine wp_g (by omega) ?_
  refine wp_i (fun cc => ?_) (fun cc => ?_)
  · have ej : j = K := by omega
    rw [e9]
    rw [mr_e ej] at hRj
    have e24 : v 2 4 = s := hP.1
    have sb := hG.2.1
    show wp (xgd (InR (v 2 4)) <| if v 2 4 = (-1) then xlet (up v 2 0 (-1)) fun u13 => xbd (f_X5_measure k u13) fun _ u15 => some ((0 : Int), u15) else xlet (up v 2 0 n) fun u16 => some (1, u16)) _
    rw [e24]
    refine wp_g (by omega) ?_
    refine wp_i (fun cc => ?_) (fun cc => ?_)
    · have es : s = -1 := by assumption
      rw [if_pos es] at hRj
      refine wp_L ?_
      refine wp_b (cmeasure hk hG.1 (hP.2.2.2.2.rw (fun c c0 c1 => up_c (by omega)))) (fun r w hw => ?_)
      obtain ⟨fw, hw⟩ := hw
      have fw : ∀ c, c ≠ k + 7 → c ≠ k + 8 → w c = up v 2 0 (-1) c := fw
      refine ends 0 w (fun c a b => ?_) (by decide) (by rw [hRj]) ?_ (fun _ => by rw [hRj]; exact ⟨hG.1, hw⟩) (hR ▸ rfl)
      · rw [fw c (by omega) (by omega), up_c (by omega)]; exact hf c a b
      · rw [fw 2 (by omega) (by omega), up_s]; rfl
    · have es : ¬ s = -1 := by assumption
      rw [if_neg es] at hRj
      refine wp_L ?_
      refine ends 1 _ (fun c a b => (up_c (by omega)).trans (hf c a b)) (by decide) (by rw [hRj]) ?_ (fun h => by omega) (hR ▸ rfl)
      rw [up_s, hRj]
      show n = mpos n K ss j
      unfold mpos
      rw [if_neg (by omega)]
  · refine wp_g (by omega) ?_
    refine wp_f (by omega) ?_
    refine wp_b (ctake (sr := srj B ks ss ls) hk hn hT hC ⟨hj.1, by omega⟩ hP hG rfl) (fun r w hw => ?_)
    obtain ⟨hr, hw⟩ := hw
    have hr : 0 ≤ r ∧ r ≤ 4 := hr
    rcases hw with ⟨h1, h2, h3⟩ | ⟨h1, h2, s', ic', it', ct', M', hG', hP', hm⟩
    · have h1 : r ≠ 0 := h1
      have h2 : w = v := h2
      subst h2
      have h3 : mr ks vs (srj B ks ss ls) K j s ic it ct M = (r, j, M) := h3
      rw [h3] at hRj
      refine wp_g (by omega) ?_
      refine wp_f (by omega) ?_
      rw [e17]
      show wp (xgd ((0 ≤ j ∧ j < 500)) <| xlet (up w 2 0 (w 5 j)) fun u22 => some (r, u22)) _
      refine wp_g (by omega) ?_
      refine wp_L ?_
      refine ends r _ (fun c a b => (up_c (by omega)).trans (hf c a b)) hr (by rw [hRj]) ?_ (fun h => absurd h h1) (hR ▸ rfl)
      rw [up_s, if_neg h1, hRj, hC.2.2.1]
      show ss j = mpos n K ss j
      unfold mpos
      rw [if_pos (by omega)]
    · have h1 : r = 0 := h1
      subst h1
      have h2 : FrQ k v w := h2
      refine wp_g (by omega) ?_
      refine wp_t (by omega) ?_
      exact hg _ _ ⟨by omega, fun c a b => (h2 c (by omega) (by omega) (by omega) b).trans (hf c a b), h2.tk hk hC, s', ic', it', ct', M', hG', hP', by rw [hRj, hm]⟩ (by omega)
end CPA
