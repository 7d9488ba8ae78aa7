/-! pure part, 19: texts, on both sides -/
def df (v t : Int) : List Int := if t = 1000 then [48 + v / 1000 % 10, 48 + v / 100 % 10, 48 + v / 10 % 10, 48 + v % 10] else if t = 100 then [48 + v / 100 % 10, 48 + v / 10 % 10, 48 + v % 10] else if t = 10 then [48 + v / 10 % 10, 48 + v % 10] else if t = 1 then [48 + v % 10] else []
/-- a number's digits -/
def dg (v : Int) : List Int := if v < 10 then df v 1 else if v < 100 then df v 10 else if v < 1000 then df v 100 else df v 1000
theorem dg_len (v : Int) : (dg v).length = if v < 10 then 1 else if v < 100 then 2 else if v < 1000 then 3 else 4 := by
  unfold dg
  split
  · rfl
  · split
    · rfl
    · split <;> rfl
def TXm (u : uS) (D : List Int) : Prop := u 40 20 = (D.length : Int) ∧ ∀ j : Nat, j < D.length → u 49 (j : Int) = D.getD j 0
theorem getD_l {D E : List Int} {j : Nat} (h : j < D.length) : (D ++ E).getD j 0 = D.getD j 0 := by
  simp only [List.getD_eq_getElem?_getD, List.getElem?_append_left h]
theorem getD_r {D E : List Int} {j : Nat} (h : D.length ≤ j) : (D ++ E).getD j 0 = E.getD (j - D.length) 0 := by
  simp only [List.getD_eq_getElem?_getD, List.getElem?_append_right h]
theorem TXm.put {u : uS} {D : List Int} {x : Int} (h : TXm u D) : TXm (up (up u 49 (u 40 20) x) 40 20 (up u 49 (u 40 20) x 40 20 + 1)) (D ++ [x]) := by
  refine ⟨?_, fun j hj => ?_⟩
  · rw [up_s, up_k (by decide), h.1, List.length_append]; rfl
  · rw [up_k (by decide)]
    rw [List.length_append] at hj
    have hj : j < D.length + 1 := hj
    by_cases hl : j = D.length
    · subst hl
      rw [h.1, up_s, getD_r (Nat.le_refl _), Nat.sub_self]; rfl
    · rw [up_j (by rw [h.1]; omega), h.2 j (by omega), getD_l (by omega)]
/-- only the text has changed -/
def FrT (u w : uS) : Prop := (∀ c, c ≠ 40 → c ≠ 49 → w c = u c) ∧ ∀ j, j ≠ 20 → w 40 j = u 40 j
theorem FrT.rf {u : uS} : FrT u u := ⟨fun _ _ _ => rfl, fun _ _ => rfl⟩
theorem FrT.tr {u v w : uS} (h : FrT u v) (h2 : FrT v w) : FrT u w := ⟨fun c c0 c1 => (h2.1 c c0 c1).trans (h.1 c c0 c1), fun j hj => (h2.2 j hj).trans (h.2 j hj)⟩
theorem FrT.put {u v : uS} {a x y : Int} (h : FrT u v) : FrT u (up (up v 49 a x) 40 20 y) := ⟨fun c c0 c1 => (up_c c0).trans ((up_c c1).trans (h.1 c c0 c1)), fun j hj => (up_j hj).trans ((up_k (by decide)).trans (h.2 j hj))⟩
section TM
variable {u : uS} {D : List Int}
theorem estrlen {k : Nat} (hk : 2000 ≤ k ∧ k < 2016) : f_J0_length_8abf5 k u = some (((strL k).length : Int), u) := xgd_t hk
theorem echarAt {k : Nat} {x : Int} (hk : 2000 ≤ k ∧ k < 2016) (hx : 0 ≤ x ∧ x < ((strL k).length : Int)) : f_J0_charAt_5068e k x u = some ((strL k).getD x.toNat 0, u) := (xgd_t hk).trans (xgd_t hx)
theorem wsaysWord {k : Nat} (hk : 2000 ≤ k ∧ k < 2016) (hm : TXm u D) (hl : D.length + (strL k).length ≤ 80) : wp (f_X10_saysWord k u) (fun q => FrT u q.2 ∧ TXm q.2 (D ++ strL k)) := by
  have hs : (strL k).length < 100 := strL_n (k - 2000) (by omega)
  unfold f_X10_saysWord
  refine wp_g hk ?_
  refine wl2 (fun i v => FrT u v ∧ (0 ≤ i ∧ i ≤ ((strL k).length : Int)) ∧ TXm v (D ++ (strL k).take i.toNat)) (fun i _ => (((strL k).length : Int) - i).toNat) (fun go i v hI hg => ?_) FU _ _ ⟨FrT.rf, by omega, by rw [show (0 : Int).toNat = 0 from rfl, List.take_zero, List.append_nil]; exact hm⟩ (FU_l (by omega))
  obtain ⟨hf, hi, hT⟩ := hI
  unfold s_X10_saysWord_2
  refine wp_e (estrlen hk) ?_
  refine wp_g (by omega) ?_
  refine wp_i (fun c => ?_) (fun c => ?_)
  · refine wp_s ⟨hf, ?_⟩
    rw [List.take_of_length_le (by omega)] at hT
    exact hT
  · have hlen : v 40 20 = ((D ++ (strL k).take i.toNat).length : Int) := hT.1
    rw [List.length_append, List.length_take, Nat.min_eq_left (by omega)] at hlen
    refine wp_e (echarAt hk ⟨hi.1, by omega⟩) ?_
    repeat (first | (with_reducible refine wp_L ?_) | (with_reducible refine wp_g ?_ ?_; · omega) | (with_reducible refine wp_f ?_ ?_; · omega) | (with_reducible refine wp_t ?_ ?_; · omega))
    refine hg _ _ ⟨hf.put, by omega, ?_⟩ (by omega)
    have e : (strL k).take (i + 1).toNat = (strL k).take i.toNat ++ [(strL k).getD i.toNat 0] := by
      have hlt : i.toNat < (strL k).length := by omega
      rw [show (i + 1).toNat = i.toNat + 1 by omega, List.take_succ_eq_append_getElem hlt, List.getD_eq_getElem?_getD, List.getElem?_eq_getElem hlt, Option.getD_some]
    rw [e, ← List.append_assoc]
    exact hT.put
theorem wsaysNumber {x : Int} (hx : 0 ≤ x ∧ x ≤ 9999) (hm : TXm u D) (hl : D.length + 4 ≤ 80) : wp (f_X10_saysNumber x u) (fun q => FrT u q.2 ∧ TXm q.2 (D ++ dg x)) := by
  have td : ∀ t, 0 < t → x.tdiv t = x / t := fun t _ => Int.tdiv_eq_ediv_of_nonneg hx.1
  unfold f_X10_saysNumber
  refine wp_L ?_
  refine wl2 (fun t v => v = u ∧ (t = 1 ∨ (t = 10 ∧ 10 ≤ x) ∨ (t = 100 ∧ 100 ≤ x) ∨ (t = 1000 ∧ 1000 ≤ x))) (fun t _ => (10000 - t).toNat) (fun go t v hI hg => ?_) FU _ _ ⟨rfl, Or.inl rfl⟩ (FU_l (by decide))
  obtain ⟨rfl, ht⟩ := hI
  have ht2 : 0 < t ∧ t ≤ 1000 := by omega
  have e0 := td t ht2.1
  have hq0 : 0 ≤ x / t := Int.ediv_nonneg hx.1 (by omega)
  have hq1 : x / t ≤ x := Int.ediv_le_self t hx.1
  unfold s_X10_saysNumber_2
  refine wp_g (by omega) ?_
  rw [e0]
  refine wp_g (by omega) ?_
  refine wp_i (fun c => ?_) (fun c => ?_)
  · -- the digits
    have hdg : dg x = df x t := by
      unfold dg
      rcases ht with rfl | ⟨rfl, h⟩ | ⟨rfl, h⟩ | ⟨rfl, h⟩
      · rw [if_pos (by omega)]
      · rw [if_neg (by omega), if_pos (by omega)]
      · rw [if_neg (by omega), if_neg (by omega), if_pos (by omega)]
      · rw [if_neg (by omega), if_neg (by omega), if_neg (by omega)]
    rw [hdg]
    show wp (xl2 (s_X10_saysNumber_18 x) FU t v) _
    have hdl : (df x t).length ≤ 4 := by rcases ht with rfl | ⟨rfl, h⟩ | ⟨rfl, h⟩ | ⟨rfl, h⟩ <;> exact Nat.le_of_ble_eq_true rfl
    refine wl2 (fun r w => FrT v w ∧ (r = 0 ∨ r = 1 ∨ r = 10 ∨ r = 100 ∨ r = 1000) ∧ ∃ P : List Int, TXm w (D ++ P) ∧ P ++ df x r = df x t) (fun r _ => r.toNat) (fun go r w hI hg => ?_) FU _ _ ⟨FrT.rf, by omega, [], by rw [List.append_nil]; exact hm, rfl⟩ (FU_l (by omega))
    obtain ⟨hf, hr, P, hP, hPd⟩ := hI
    unfold s_X10_saysNumber_18
    refine wp_g (by omega) ?_
    refine wp_i (fun c => ?_) (fun c => ?_)
    · have hr0 : r = 0 := by omega
      subst hr0
      refine wp_s ⟨hf, ?_⟩
      have e : df x 0 = [] := rfl
      rw [e, List.append_nil] at hPd
      rw [← hPd]; exact hP
    · have e1 := td r (by omega)
      have hr1 : 0 ≤ x / r := Int.ediv_nonneg hx.1 (by omega)
      have hr2 : x / r ≤ x := Int.ediv_le_self r hx.1
      have hPl : (P ++ df x r).length ≤ 4 := by rw [hPd]; exact hdl
      rw [List.length_append] at hPl
      have hw : w 40 20 = ((D ++ P).length : Int) := hP.1
      rw [List.length_append] at hw
      have e10 : (x / r).tmod 10 = x / r % 10 := tmd hr1 10
      have er : r.tdiv 10 = r / 10 := Int.tdiv_eq_ediv_of_nonneg (by omega)
      have hdr : df x r = (48 + x / r % 10) :: df x (r / 10) := by
        rcases (show r = 1 ∨ r = 10 ∨ r = 100 ∨ r = 1000 by omega) with rfl | rfl | rfl | rfl
        · show [48 + x % 10] = [48 + x / 1 % 10]
          rw [Int.ediv_one]
        · rfl
        · rfl
        · rfl
      have hl1 : 1 ≤ (df x r).length := by rw [hdr]; exact Nat.le_add_left 1 _
      refine wp_g (by omega) ?_
      rw [e1, e10]
      refine wp_g (by omega) ?_
      refine wp_g (by omega) ?_
      refine wp_L ?_
      refine wp_L ?_
      refine wp_g (by omega) ?_
      refine wp_L ?_
      rw [er]
      refine hg _ _ ⟨hf.put, by omega, P ++ [48 + x / r % 10], by rw [← List.append_assoc]; exact hP.put, ?_⟩ (by omega)
      rw [List.append_assoc]
      exact (congrArg (P ++ ·) hdr.symm).trans hPd
  · refine wp_L ?_
    refine hg _ _ ⟨rfl, ?_⟩ (by omega)
    rcases ht with rfl | ⟨rfl, h⟩ | ⟨rfl, h⟩ | ⟨rfl, h⟩ <;> omega
end TM
