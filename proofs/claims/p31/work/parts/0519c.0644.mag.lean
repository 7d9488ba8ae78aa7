/-! pure part, 14: the class's magnitude -/
section CM
variable {u N V : uS} {n k : Nat}
theorem cmagnitudeOfPick {p : Int} (hN : NWF N) (hn : CN u n N) (hV : WFb N V) (hk : k < NN ∧ sT k = 11) (hm : CV u k V) (hd : 0 ≤ u 30 1 ∧ u 30 1 < nds N) (hp : 0 ≤ p ∧ p < V 0 1) : f_X3_magnitudeOfPick n k p u = some (mgp N V (u 30 1) p, u) := by
  have n14 := hN.2.2.2.2.2.2.2.2.2.2.2.2.2.2.1
  have hVb := hV
  obtain ⟨b0, b1, b2, bS, bI, bP, bE⟩ := hV
  have p8 := hm.ps hp.1 hp.2
  have p10 := hm.pp hp.1 hp.2
  have bp := bP p hp.1 hp.2
  have e14 := hn.2.1.2.2.2.2.2.2.2.2.2.2.2.2.2.2
  have db := dst_b (ndX N (u 30 1) - N 1 (V 8 p)) (ndY N (u 30 1) - N 2 (V 8 p))
  have pr1 : 0 ≤ N 0 14 * ndD N (u 30 1) (V 8 p) := Int.mul_nonneg n14.1 db.1
  have pr2 : N 0 14 * ndD N (u 30 1) (V 8 p) ≤ 99 * 8191 := Int.mul_le_mul n14.2 db.2 db.1 (by decide)
  refine wp_eq ?_
  unfold f_X3_magnitudeOfPick
  refine wp_g ⟨hn.1, hk⟩ ?_
  repeat (first | (with_reducible refine wp_L ?_) | (with_reducible refine wp_g ?_ ?_; · omega) | (with_reducible refine wp_f ?_ ?_; · omega) | (with_reducible refine wp_t ?_ ?_; · omega))
  rw [p8]
  refine wp_e (cdistanceFromNode hN hn hd (by omega)) ?_
  repeat (first | (with_reducible refine wp_L ?_) | (with_reducible refine wp_g ?_ ?_; · omega) | (with_reducible refine wp_f ?_ ?_; · omega) | (with_reducible refine wp_t ?_ ?_; · omega))
  rw [e14, p10]
  refine wp_e (cmagnitudeOf hN hn (by omega)) ?_
  exact wp_s rfl
/-- places before i hold ascending numbers -/
def Asc (A : Int → Int) (i : Int) : Prop := ∀ a b, 0 ≤ a → a ≤ b → b < i → A a ≤ A b
theorem cinsert {i x : Int} (hi : 0 ≤ i ∧ i < 60) (hx : InR x) (hA : Asc (u 32) i) (hb : ∀ j, 0 ≤ j → j < i → InR (u 32 j)) :
    wp (f_X3_insert i x u) (fun q => (∀ c, c ≠ 32 → q.2 c = u c) ∧ Asc (q.2 32) (i + 1) ∧ (∀ j, 0 ≤ j → j < i + 1 → InR (q.2 32 j)) ∧ ∀ f : Int → Int, sg (fun j => f (q.2 32 j)) (i + 1).toNat = sg (fun j => f (u 32 j)) i.toNat + f x) := by
  unfold f_X3_insert
  refine wp_L ?_
  refine wp_L ?_
  refine wl3 (fun r b v => (∀ c, c ≠ 32 → v c = u c) ∧ r = b + 1 ∧ 0 ≤ r ∧ r ≤ i ∧ (∀ j, 0 ≤ j → j < r → v 32 j = u 32 j) ∧ (∀ j, r < j → j ≤ i → v 32 j = u 32 (j - 1)) ∧ (r < i → x < u 32 r)) (fun r _ _ => r.toNat) (fun go r b v hI hg => ?_) FU _ _ _ ⟨fun _ _ => rfl, by omega, by omega, by omega, fun _ _ _ => rfl, fun j h1 h2 => by omega, fun h => by omega⟩ (FU_l (by omega))
  obtain ⟨hf, hr, h0, h1, hl, hh, hxr⟩ := hI
  have fin : (0 < r → u 32 (r - 1) ≤ x) → wp (xgd (InR r) <| if r < 0 then some ((0 : Int), v) else xgd (InR r) <| if 60 ≤ r then some (0, v) else xgd ((0 ≤ r ∧ r < 60)) <| xlet (up v 32 r x) fun u10 => some (0, u10)) (fun q => (∀ c, c ≠ 32 → q.2 c = u c) ∧ Asc (q.2 32) (i + 1) ∧ (∀ j, 0 ≤ j → j < i + 1 → InR (q.2 32 j)) ∧ ∀ f : Int → Int, sg (fun j => f (q.2 32 j)) (i + 1).toNat = sg (fun j => f (u 32 j)) i.toNat + f x) := by
    intro hle
    repeat (first | (with_reducible refine wp_L ?_) | (with_reducible refine wp_g ?_ ?_; · omega) | (with_reducible refine wp_f ?_ ?_; · omega) | (with_reducible refine wp_t ?_ ?_; · omega))
    have v1 : ∀ j, 0 ≤ j → j < r → up v 32 r x 32 j = u 32 j := fun j j0 j1 => (up_j (by omega)).trans (hl j j0 j1)
    have v2 : up v 32 r x 32 r = x := up_s _ _ _ _
    have v3 : ∀ j, r < j → j ≤ i → up v 32 r x 32 j = u 32 (j - 1) := fun j j0 j1 => (up_j (by omega)).trans (hh j j0 j1)
    refine wp_s ⟨fun c hc => (up_c hc).trans (hf c hc), fun a b a0 ab bi => ?_, fun j j0 j1 => ?_, fun f => ?_⟩
    · show up v 32 r x 32 a ≤ up v 32 r x 32 b
      rcases Int.lt_trichotomy a r with ha | ha | ha
      · rw [v1 a a0 ha]
        rcases Int.lt_trichotomy b r with hb | hb | hb
        · rw [v1 b (by omega) hb]; exact hA a b a0 ab (by omega)
        · subst hb; rw [v2]
          have := hA a (b - 1) a0 (by omega) (by omega)
          have := hle (by omega)
          omega
        · rw [v3 b hb (by omega)]; exact hA a (b - 1) a0 (by omega) (by omega)
      · subst ha
        rw [v2]
        by_cases hb : b = a
        · subst hb; rw [v2]; exact Int.le_refl _
        · rw [v3 b (by omega) (by omega)]
          have := hA a (b - 1) a0 (by omega) (by omega)
          have := hxr (by omega)
          omega
      · rw [v3 a ha (by omega), v3 b (by omega) (by omega)]
        exact hA (a - 1) (b - 1) (by omega) (by omega) (by omega)
    · show InR (up v 32 r x 32 j)
      rcases Int.lt_trichotomy j r with hj | hj | hj
      · rw [v1 j j0 hj]; exact hb j j0 (by omega)
      · subst hj; rw [v2]; exact hx
      · rw [v3 j hj (by omega)]; exact hb (j - 1) (by omega) (by omega)
    · rw [show (i + 1).toNat = i.toNat + 1 by omega]
      exact sg_ins (r := r) h0 (by omega) v1 v2 (fun j j0 j1 => v3 j j0 (by omega))
  unfold s_X3_insert_7
  refine wp_g (by omega) ?_
  refine wp_i (fun c => ?_) (fun c => ?_)
  · exact fin (fun h => by omega)
  · have eb : v 32 b = u 32 b := hl b (by omega) (by omega)
    have ib := hb b (by omega) (by omega)
    repeat (first | (with_reducible refine wp_L ?_) | (with_reducible refine wp_g ?_ ?_; · omega) | (with_reducible refine wp_f ?_ ?_; · omega) | (with_reducible refine wp_t ?_ ?_; · omega))
    refine wp_i (fun c => ?_) (fun c => ?_)
    · repeat (first | (with_reducible refine wp_L ?_) | (with_reducible refine wp_g ?_ ?_; · omega) | (with_reducible refine wp_f ?_ ?_; · omega) | (with_reducible refine wp_t ?_ ?_; · omega))
      refine hg _ _ _ ⟨fun c hc => (up_c hc).trans (hf c hc), by omega, by omega, by omega, fun j j0 j1 => (up_j (by omega)).trans (hl j j0 (by omega)), fun j j0 j1 => ?_, fun h => by omega⟩ (by omega)
      by_cases hj : j = b + 1
      · subst hj
        rw [up_s, eb]
        congr 1
        omega
      · rw [up_j hj]; exact hh j (by omega) j1
    · exact fin (fun h => by
        rw [show r - 1 = b by omega]; omega)
theorem cmagnitude {e : Int} (hN : NWF N) (hn : CN u n N) (hV : WFb N V) (hk : k < NN ∧ sT k = 11) (hm : CV u k V) (hG : Gat V u e) (hd : 0 ≤ u 30 1 ∧ u 30 1 < nds N) (hp : 1 ≤ pk V e) :
    wp (f_X3_magnitude n k u) (fun q => (∀ c, c ≠ 32 → q.2 c = u c) ∧ isMed N V (u 30 1) e q.1 ∧ InR q.1) := by
  have hkk := sit_at hk
  have hnn := net_at hn.1
  have gb := hG.b hV
  unfold f_X3_magnitude
  refine wp_g ⟨hn.1, hk⟩ ?_
  refine wp_L ?_
  refine wl2 (fun i v => (∀ c, c ≠ 32 → v c = u c) ∧ 0 ≤ i ∧ i ≤ u 30 0 ∧ Asc (v 32) i ∧ (∀ j, 0 ≤ j → j < i → InR (v 32 j)) ∧ ∀ f : Int → Int, sg (fun j => f (v 32 j)) i.toNat = sg (fun j => f (mgp N V (u 30 1) (u 31 j))) i.toNat) (fun i _ => (u 30 0 - i).toNat) (fun go i v hI hg => ?_) FU _ _ ⟨fun _ _ => rfl, by omega, by omega, fun a b h0 h1 h2 => by omega, fun j h1 h2 => by omega, fun f => rfl⟩ (FU_l (by omega))
  obtain ⟨hf, h0, h1, hA, hb, hS⟩ := hI
  have nv : CN v n N := hn.row (fun j _ => hf _ (by omega))
  have mv : CV v k V := hm.row (fun j _ => hf _ (by omega))
  have e30 : v 30 = u 30 := hf 30 (by decide)
  have e31 : v 31 = u 31 := hf 31 (by decide)
  unfold s_X3_magnitude_2
  rw [e30]
  refine wp_g (by omega) ?_
  refine wp_i (fun c => ?_) (fun c => ?_)
  · have hi : i = u 30 0 := by omega
    subst hi
    have hc : u 30 0 = pk V e := hG.1
    have hq : (u 30 0 - 1).tdiv 2 = (u 30 0 - 1) / 2 := Int.tdiv_eq_ediv_of_nonneg (by omega)
    have e300 : v 30 0 = u 30 0 := by rw [e30]
    have hq2 : (v 30 0 - 1).tdiv 2 = (u 30 0 - 1) / 2 := by rw [e300]; exact hq
    repeat (first | (with_reducible refine wp_L ?_) | (with_reducible refine wp_g ?_ ?_; · omega) | (with_reducible refine wp_f ?_ ?_; · omega) | (with_reducible refine wp_t ?_ ?_; · omega))
    rw [e300]
    refine wp_s ⟨hf, ?_, hb _ (by omega) (by omega)⟩
    have emc : ∀ x, mc N V (u 30 1) e x = sg (fun j => if v 32 j ≤ x then 1 else 0) (u 30 0).toNat := by
      intro x
      rw [hS (fun y => if y ≤ x then 1 else 0), hG.2.2 (fun p => if mgp N V (u 30 1) p ≤ x then 1 else 0)]
      refine sg_c (fun p _ _ => ?_)
      show (if V 11 p = e ∧ mgp N V (u 30 1) p ≤ x then (1 : Int) else 0) = if V 11 p = e then (if mgp N V (u 30 1) p ≤ x then 1 else 0) else 0
      split <;> split <;> (try split) <;> omega
    have two : ∀ (f : Int → Int) (a b : Nat), sg f (a + b) = sg f a + sg (fun j => f (j + a)) b := by
      intro f a b
      induction b with
      | zero => show sg f a = sg f a + 0; omega
      | succ b ih =>
        show sg f (a + b) + f ((a + b : Nat) : Int) = sg f a + (sg (fun j => f (j + a)) b + f ((b : Int) + a))
        rw [ih, show ((a + b : Nat) : Int) = (b : Int) + a by omega]; omega
    generalize hmid : (u 30 0 - 1).tdiv 2 = mid at *
    have hmid2 : (pk V e - 1).tdiv 2 = mid := by rw [← hc]; exact hmid
    unfold isMed
    rw [hmid2]
    refine ⟨?_, ?_⟩
    · show mc N V (u 30 1) e (v 32 mid - 1) ≤ mid
      rw [emc, show (u 30 0).toNat = mid.toNat + ((u 30 0).toNat - mid.toNat) by omega, two, sg_z (f := fun j => (fun j => if v 32 j ≤ v 32 mid - 1 then (1 : Int) else 0) (j + (mid.toNat : Int))) (fun j j0 j1 => by
        have := hA mid (j + mid.toNat) (by omega) (by omega) (by omega)
        show (if v 32 (j + (mid.toNat : Int)) ≤ v 32 mid - 1 then (1 : Int) else 0) = 0
        rw [if_neg (by omega)])]
      have := @sg_le (fun j => if v 32 j ≤ v 32 mid - 1 then 1 else 0) 1 mid.toNat (fun i _ _ => by
        show 0 ≤ (if v 32 i ≤ v 32 mid - 1 then (1 : Int) else 0) ∧ (if v 32 i ≤ v 32 mid - 1 then (1 : Int) else 0) ≤ 1
        split <;> omega)
      omega
    · show mid < mc N V (u 30 1) e (v 32 mid)
      rw [emc]
      have e1 : sg (fun j => if v 32 j ≤ v 32 mid then (1 : Int) else 0) (mid.toNat + 1) = (mid.toNat + 1 : Nat) := by
        rw [sg_c (g := fun _ => 1) (fun j j0 j1 => by
          have := hA j mid j0 (by omega) (by omega)
          show (if v 32 j ≤ v 32 mid then (1 : Int) else 0) = 1
          rw [if_pos this])]
        induction mid.toNat + 1 with
        | zero => rfl
        | succ k ih => show sg _ k + 1 = _; rw [ih]; omega
      have e2 := @sg_mono (fun j => if v 32 j ≤ v 32 mid then (1 : Int) else 0) ((u 30 0).toNat - (mid.toNat + 1)) (mid.toNat + 1) (fun i _ _ => by
        show 0 ≤ (if v 32 i ≤ v 32 mid then (1 : Int) else 0)
        split <;> omega)
      rw [show mid.toNat + 1 + ((u 30 0).toNat - (mid.toNat + 1)) = (u 30 0).toNat by omega] at e2
      omega
  · have hM := hG.2.1 i h0 (by omega)
    have mb := mgp_b hN V (u 30 1) (u 31 i)
    repeat (first | (with_reducible refine wp_L ?_) | (with_reducible refine wp_g ?_ ?_; · omega) | (with_reducible refine wp_f ?_ ?_; · omega) | (with_reducible refine wp_t ?_ ?_; · omega))
    rw [e31]
    refine wp_e (cmagnitudeOfPick hN nv hV hk mv (by rw [e30]; exact hd) hM.1) ?_
    rw [e30]
    refine wp_b (cinsert ⟨h0, by omega⟩ (by omega) hA hb) (fun r w h => ?_)
    obtain ⟨a1, a2, a3, a4⟩ := h
    refine hg _ _ ⟨fun c hc => (a1 c hc).trans (hf c hc), by omega, by omega, a2, a3, fun f => ?_⟩ (by omega)
    rw [a4 f, hS f, sg_s h0]
end CM
