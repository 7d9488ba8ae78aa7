/-! the class's reading: a station -/
section RS
variable {B ks rk ss ls vs : Int → Int} {n K e x y : Int} {ct : Int → Int} {M : uS} {R : Int × Int × uS}
/-- between statements, at byte e -/
def CU9 (B ks rk ss ls vs : Int → Int) (n K : Int) (R : Int × Int × uS) (e : Int) (ct : Int → Int) (M : uS) : Prop := ∃ j ic it, CUR B ks rk ss ls vs n K R j e (-1) ic it ct M
theorem s2009 : strL 2009 = strL 2000 ++ [32] := by decide +kernel
theorem l2000 : (strL (2000 + 0)).length = 7 := by decide +kernel
theorem CU9.station (h : CU9 B ks rk ss ls vs n K R e ct M) (hd : AT B e (strL 2009 ++ dg x ++ [32] ++ dg y ++ [59])) (hn : e + (strL 2009 ++ dg x ++ [32] ++ dg y ++ [59]).length ≤ n) (hx : 0 ≤ x ∧ x ≤ 999) (hy : 0 ≤ y ∧ y ≤ 999) (hct : ct 0 < 8) :
    CU9 B ks rk ss ls vs n K R (e + (strL 2009 ++ dg x ++ [32] ++ dg y ++ [59]).length) (ctu ct 0) (up (up (up M 1 (M 0 0) x) 2 (M 0 0) y) 0 0 (M 0 0 + 1)) := by
  obtain ⟨j, ic, it, h⟩ := h
  have el : ((strL 2009 ++ dg x ++ [32] ++ dg y ++ [59]).length : Int) = 8 + (dg x).length + 1 + (dg y).length + 1 := by
    rw [List.length_append, List.length_append, List.length_append, List.length_append, l2009]
    show ((8 + (dg x).length + 1 + (dg y).length + 1 : Nat) : Int) = _
    omega
  rw [el] at hn ⊢
  have p0 := hd.l.l.l.l
  rw [s2009] at p0
  have q0 : AT B e (strL (2000 + 0)) := p0.l
  have q1 : B (e + 7) = 32 := p0.r.c
  have p1 := hd.l.l.l.r
  rw [l2009] at p1
  have p1 : AT B (e + 8) (dg x) := p1
  have p2 := hd.l.l.r.c
  rw [List.length_append, l2009, show e + ((8 + (dg x).length : Nat) : Int) = e + 8 + (dg x).length by omega] at p2
  have p3 := hd.l.r
  rw [List.length_append, List.length_append, l2009, show e + ((8 + (dg x).length + ([32] : List Int).length : Nat) : Int) = e + 8 + (dg x).length + 1 by show e + ((8 + (dg x).length + 1 : Nat) : Int) = _; omega] at p3
  have p4 := hd.r.c
  rw [List.length_append, List.length_append, List.length_append, l2009, show e + ((8 + (dg x).length + ([32] : List Int).length + (dg y).length : Nat) : Int) = e + 8 + (dg x).length + 1 + (dg y).length by show e + ((8 + (dg x).length + 1 + (dg y).length : Nat) : Int) = _; omega] at p4
  have c1 := h.word (a := 0) (by decide) q0 (by rw [l2000]; omega) (by rw [l2000]; show kd (B (e + 7)) ≠ 1; rw [q1]; decide) (show ct 0 < MST 0 from hct)
  rw [l2000] at c1
  have c2 := c1.num (x := x) (by decide) (by decide) q1 (by omega) (by show AT B (e + 7 + 1) (dg x); rw [show e + 7 + 1 = e + 8 by omega]; exact p1) (by show e + 7 + 1 + _ < n; omega) (by show kd (B (e + 7 + 1 + _)) ≠ 2; rw [show e + 7 + 1 + ((dg x).length : Int) = e + 8 + (dg x).length by omega, p2]; decide) (show 0 ≤ x ∧ x ≤ 999 from hx)
  have c2 : CUR B ks rk ss ls vs n K R (j + 1 + 1) (e + 7 + 1 + (dg x).length) 0 (0 + 1) (itu it 0 x) (ctu ct 0) M := c2
  rw [show e + 7 + 1 + ((dg x).length : Int) = e + 8 + (dg x).length by omega] at c2
  have c3 := c2.num (x := y) (by decide) (by decide) p2 (by omega) p3 (by omega) (by rw [p4]; decide) (show 0 ≤ y ∧ y ≤ 999 from hy)
  have c4 := c3.semi (by decide) (by decide) p4 (by omega)
  rw [fin_0] at c4
  exact ⟨_, _, _, by rw [show e + (8 + ((dg x).length : Int) + 1 + (dg y).length + 1) = e + 8 + (dg x).length + 1 + (dg y).length + 1 by omega]; exact c4⟩
end RS
