/-! the class's reading of the law's text, token by token -/
section CR
variable {B ks rk ss ls vs : Int → Int} {n K j e s ic x : Int} {it ct : Int → Int} {M : uS} {R : Int × Int × uS}
/-- token j comes next, at byte e; the whole comes out as R -/
def CUR (B ks rk ss ls vs : Int → Int) (n K : Int) (R : Int × Int × uS) (j e s ic : Int) (it ct : Int → Int) (M : uS) : Prop :=
  (TDp B n K rk ss ls vs ∧ ∀ j, 0 ≤ j → j < K → ks j = kf (rk j) (ls j)) ∧ (0 ≤ j ∧ j ≤ K) ∧ En ss ls j = e ∧ mr ks vs (srj B ks ss ls) K j s ic it ct M = R
theorem CUR.word {a : Nat} (h : CUR B ks rk ss ls vs n K R j e (-1) ic it ct M) (ha : a < 9) (hd : AT B e (strL (2000 + a))) (hn : e + (strL (2000 + a)).length < n) (hc : kd (B (e + (strL (2000 + a)).length)) ≠ 1) (hct : ct a < MST a) :
    CUR B ks rk ss ls vs n K R (j + 1) (e + (strL (2000 + a)).length) a 0 it (ctu ct a) M := by
  obtain ⟨⟨hT, hk⟩, hj, he, hr⟩ := h
  obtain ⟨a1, a2, a3, a4, a5⟩ := tk_word hT hj he ha hd hn hc
  have hl := (wd_kd a ha).1
  have k1 : ks j = 1 := by
    rw [hk j hj.1 a1, a2]
    unfold kf
    rw [if_neg (by omega)]
  have sr : srj B ks ss ls j = a := a4 _ k1
  refine ⟨⟨hT, hk⟩, by omega, a5, ?_⟩
  rw [← hr, mr_s a1, if_pos rfl, sr, if_neg (by omega), if_pos hct]
theorem CUR.num (h : CUR B ks rk ss ls vs n K R j e s ic it ct M) (hs : s ≠ -1) (hic : ic < ITM s) (hb : B e = 32) (hx : 0 ≤ x ∧ x ≤ 9999) (hd : AT B (e + 1) (dg x)) (hn : e + 1 + (dg x).length < n) (hc : kd (B (e + 1 + (dg x).length)) ≠ 2) (hlo : lo M s ic it ≤ x ∧ x ≤ hi s ic it) :
    CUR B ks rk ss ls vs n K R (j + 1) (e + 1 + (dg x).length) s (ic + 1) (itu it ic x) ct M := by
  obtain ⟨⟨hT, hk⟩, hj, he, hr⟩ := h
  obtain ⟨a1, a2, a3, a4, a5⟩ := tk_num (p := e + 1) hT hj (by omega) (fun q q0 q1 => by rw [show q = e by omega, hb]; decide) hx hd hn hc
  have hl := dgl4 (x := x)
  have k1 : ks j = 2 := by
    rw [hk j hj.1 a1, a2]
    unfold kf
    rw [if_neg (by omega)]
  refine ⟨⟨hT, hk⟩, by omega, a5, ?_⟩
  rw [← hr, mr_s a1, if_neg hs, if_neg (by omega), if_pos k1, a4, if_pos hlo]
theorem CUR.semi (h : CUR B ks rk ss ls vs n K R j e s ic it ct M) (hs : s ≠ -1) (hi : ITM s ≤ ic) (hb : B e = 59) (hn : e < n) : CUR B ks rk ss ls vs n K R (j + 1) (e + 1) (-1) ic it ct (fin M s it) := by
  obtain ⟨⟨hT, hk⟩, hj, he, hr⟩ := h
  obtain ⟨a1, a2, a3, a4⟩ := tk_semi hT hj he hn hb
  have k1 : ks j = 3 := by
    rw [hk j hj.1 a1, a2]
    unfold kf
    rw [if_neg (by omega)]
  refine ⟨⟨hT, hk⟩, by omega, a4, ?_⟩
  rw [← hr, mr_s a1, if_neg hs, if_pos hi, if_pos k1]
theorem CUR.end_ (h : CUR B ks rk ss ls vs n K R j n (-1) ic it ct M) : R = (0, K, M) := by
  obtain ⟨⟨hT, hk⟩, hj, he, hr⟩ := h
  have hjK := cu_end hT hj he
  rw [← hr, mr_e hjK, if_pos rfl, hjK]
end CR
