/-! the class's reading: a rung -/
section RR
variable {B ks rk ss ls vs : Int → Int} {n K e x y : Int} {ct : Int → Int} {M : uS} {R : Int × Int × uS}
theorem s2019 : strL 2019 = strL 2007 ++ [32] := by decide +kernel
theorem l2007 : (strL (2000 + 7)).length = 4 := by decide +kernel
theorem l2019e : (strL 2019).length = 5 := by decide +kernel
theorem CU9.rung (h : CU9 B ks rk ss ls vs n K R e ct M) (hd : AT B e (strL 2019 ++ dg x ++ [32] ++ dg y ++ [59])) (hn : e + (strL 2019 ++ dg x ++ [32] ++ dg y ++ [59]).length ≤ n) (hx : (if M 0 1 = 0 then 0 else M 3 (M 0 1 - 1) + 1) ≤ x ∧ x ≤ 9999) (hx0 : 0 ≤ x) (hy : (if M 0 1 = 0 then 0 else M 4 (M 0 1 - 1)) ≤ y ∧ y ≤ 99) (hy0 : 0 ≤ y) (hct : ct 7 < 8) :
    CU9 B ks rk ss ls vs n K R (e + (strL 2019 ++ dg x ++ [32] ++ dg y ++ [59]).length) (ctu ct 7) (up (up (up M 3 (M 0 1) x) 4 (M 0 1) y) 0 1 (M 0 1 + 1)) := by
  obtain ⟨j, ic, it, h⟩ := h
  have el : ((strL 2019 ++ dg x ++ [32] ++ dg y ++ [59]).length : Int) = 5 + (dg x).length + 1 + (dg y).length + 1 := by
    rw [List.length_append, List.length_append, List.length_append, List.length_append, l2019e]
    show ((5 + (dg x).length + 1 + (dg y).length + 1 : Nat) : Int) = _
    omega
  rw [el] at hn ⊢
  have p0 := hd.l.l.l.l
  rw [s2019] at p0
  have q0 : AT B e (strL (2000 + 7)) := p0.l
  have q1 : B (e + 4) = 32 := p0.r.c
  have p1 := hd.l.l.l.r
  rw [l2019e] at p1
  have p1 : AT B (e + 5) (dg x) := p1
  have p2 := hd.l.l.r.c
  rw [List.length_append, l2019e, show e + ((5 + (dg x).length : Nat) : Int) = e + 5 + (dg x).length by omega] at p2
  have p3 := hd.l.r
  rw [List.length_append, List.length_append, l2019e, show e + ((5 + (dg x).length + ([32] : List Int).length : Nat) : Int) = e + 5 + (dg x).length + 1 by show e + ((5 + (dg x).length + 1 : Nat) : Int) = _; omega] at p3
  have p4 := hd.r.c
  rw [List.length_append, List.length_append, List.length_append, l2019e, show e + ((5 + (dg x).length + ([32] : List Int).length + (dg y).length : Nat) : Int) = e + 5 + (dg x).length + 1 + (dg y).length by show e + ((5 + (dg x).length + 1 + (dg y).length : Nat) : Int) = _; omega] at p4
  have c1 := h.word (a := 7) (by decide) q0 (by rw [l2007]; omega) (by rw [l2007]; show kd (B (e + 4)) ≠ 1; rw [q1]; decide) (show ct 7 < MST 7 from hct)
  rw [l2007] at c1
  have c2 := c1.num (x := x) (by decide) (by decide) q1 (by omega) (by show AT B (e + 4 + 1) (dg x); rw [show e + 4 + 1 = e + 5 by omega]; exact p1) (by show e + 4 + 1 + _ < n; omega) (by show kd (B (e + 4 + 1 + _)) ≠ 2; rw [show e + 4 + 1 + ((dg x).length : Int) = e + 5 + (dg x).length by omega, p2]; decide) (show (if M 0 1 = 0 then 0 else M 3 (M 0 1 - 1) + 1) ≤ x ∧ x ≤ 9999 from hx)
  have c2 : CUR B ks rk ss ls vs n K R (j + 1 + 1) (e + 4 + 1 + (dg x).length) 7 (0 + 1) (itu it 0 x) (ctu ct 7) M := c2
  rw [show e + 4 + 1 + ((dg x).length : Int) = e + 5 + (dg x).length by omega] at c2
  have c3 := c2.num (x := y) (by decide) (by decide) p2 (by omega) p3 (by omega) (by rw [p4]; decide) (show (if M 0 1 = 0 then 0 else M 4 (M 0 1 - 1)) ≤ y ∧ y ≤ 99 from hy)
  have c4 := c3.semi (by decide) (by decide) p4 (by omega)
  rw [fin_7] at c4
  exact ⟨_, _, _, by rw [show e + (5 + ((dg x).length : Int) + 1 + (dg y).length + 1) = e + 5 + (dg x).length + 1 + (dg y).length + 1 by omega]; exact c4⟩
end RR
