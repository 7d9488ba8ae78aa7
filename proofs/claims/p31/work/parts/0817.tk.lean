/-! the tokens of the law's text -/
section TK
variable {B ks rk ss ls vs : Int → Int} {n K j p x : Int}
theorem dg_at (hx : 0 ≤ x ∧ x ≤ 9999) (h : AT B p (dg x)) : ∀ q, p ≤ q → q < p + (dg x).length → kd (B q) = 2 := fun q q0 q1 => by
  have e := h (q - p).toNat (by omega)
  rw [show p + (((q - p).toNat : Nat) : Int) = q by omega] at e
  have hm : (dg x).getD (q - p).toNat 0 ∈ dg x := by
    rw [List.getD_eq_getElem?_getD, List.getElem?_eq_getElem (by omega), Option.getD_some]
    exact List.getElem_mem _
  have := dg_kd hx _ hm
  rw [e]
  unfold kd
  rw [if_neg (by omega), if_neg (by omega), if_pos (by omega)]
theorem tk_num (h : TDp B n K rk ss ls vs) (hj : 0 ≤ j ∧ j ≤ K) (hp : En ss ls j ≤ p) (hb : ∀ q, En ss ls j ≤ q → q < p → kd (B q) = 0) (hx : 0 ≤ x ∧ x ≤ 9999) (hd : AT B p (dg x)) (hn : p + (dg x).length < n) (hc : kd (B (p + (dg x).length)) ≠ 2) :
    j < K ∧ rk j = 2 ∧ ls j = (dg x).length ∧ vs j = x ∧ En ss ls (j + 1) = p + (dg x).length := by
  have hl := dg_len1 (x := x)
  have k0 := dg_at hx hd
  have kp := k0 p (Int.le_refl p) (by omega)
  obtain ⟨a1, a2, a3, a4, a5, a6⟩ := cu_tok (l := ((dg x).length : Int)) h hj ⟨hp, by omega⟩ hb (by rw [kp]; decide) ⟨by omega, by omega⟩ (fun q q0 q1 => by rw [kp]; exact k0 q q0 q1) (fun q => by omega) (fun _ _ => by rw [kp]; exact hc)
  refine ⟨a1, a4.trans kp, a3, ?_, a6⟩
  rw [a5, show (((dg x).length : Int)).toNat = (dg x).length by omega]
  exact vl_dg hx hd
theorem tk_semi (h : TDp B n K rk ss ls vs) (hj : 0 ≤ j ∧ j ≤ K) (hp : En ss ls j = p) (hn : p < n) (hc : B p = 59) : j < K ∧ rk j = 3 ∧ ls j = 1 ∧ En ss ls (j + 1) = p + 1 := by
  have kp : kd (B p) = 3 := by rw [hc]; decide
  obtain ⟨a1, a2, a3, a4, a5, a6⟩ := cu_tok (l := 1) h hj ⟨by omega, hn⟩ (fun q q0 q1 => by omega) (by rw [kp]; decide) ⟨by omega, by omega⟩ (fun q q0 q1 => by rw [show q = p by omega]) (fun _ => rfl) (fun _ q => by omega)
  exact ⟨a1, a4.trans kp, a3, a6⟩
theorem wd_kd : ∀ a, a < 9 → (1 ≤ (strL (2000 + a)).length ∧ (strL (2000 + a)).length ≤ 8) ∧ ∀ i, i < (strL (2000 + a)).length → kd ((strL (2000 + a)).getD i 0) = 1 := by decide +kernel
theorem tk_word {a : Nat} (h : TDp B n K rk ss ls vs) (hj : 0 ≤ j ∧ j ≤ K) (hp : En ss ls j = p) (ha : a < 9) (hd : AT B p (strL (2000 + a))) (hn : p + (strL (2000 + a)).length < n) (hc : kd (B (p + (strL (2000 + a)).length)) ≠ 1) :
    j < K ∧ rk j = 1 ∧ ls j = (strL (2000 + a)).length ∧ (∀ k, k = 1 → srt B k (ss j) (ls j) = a) ∧ En ss ls (j + 1) = p + (strL (2000 + a)).length := by
  obtain ⟨hl, hk⟩ := wd_kd a ha
  have k0 : ∀ q, p ≤ q → q < p + (strL (2000 + a)).length → kd (B q) = 1 := fun q q0 q1 => by
    have e := hd (q - p).toNat (by omega)
    rw [show p + (((q - p).toNat : Nat) : Int) = q by omega] at e
    rw [e]
    exact hk _ (by omega)
  have kp := k0 p (Int.le_refl p) (by omega)
  obtain ⟨a1, a2, a3, a4, a5, a6⟩ := cu_tok (p := p) (l := ((strL (2000 + a)).length : Int)) h hj ⟨by omega, by omega⟩ (fun q q0 q1 => by omega) (by rw [kp]; decide) ⟨by omega, by omega⟩ (fun q q0 q1 => by rw [kp]; exact k0 q q0 q1) (fun q => by omega) (fun _ _ => by rw [kp]; exact hc)
  refine ⟨a1, a4.trans kp, a3, fun k hk1 => ?_, a6⟩
  refine srt_is hk1 (by omega) ?_
  unfold WD
  rw [a2, a3, show ((2000 : Int) + (a : Int)).toNat = 2000 + a by omega]
  refine ⟨rfl, fun q q0 q1 => ?_⟩
  have e := hd q.toNat (by omega)
  rw [show ((q.toNat : Nat) : Int) = q by omega] at e
  exact e
end TK
