/-! the class's reading: the grid and the rest -/
section RG
variable {B ks rk ss ls vs : Int → Int} {n K e x y : Int} {ct : Int → Int} {M : uS} {R : Int × Int × uS}
theorem AT.cut {W X : List Int} (h : AT B e (W ++ X)) : AT B e W ∧ AT B (e + W.length) X := ⟨h.l, h.r⟩
/-- a statement of one number -/
def st1 (a : Nat) (x : Int) : List Int := strL (2000 + a) ++ ([32] ++ (dg x ++ [59]))
def st2 (a : Nat) (x y : Int) : List Int := strL (2000 + a) ++ ([32] ++ (dg x ++ ([32] ++ (dg y ++ [59]))))
def st5 (a : Nat) (x y z v w : Int) : List Int := strL (2000 + a) ++ ([32] ++ (dg x ++ ([32] ++ (dg y ++ ([32] ++ (dg z ++ ([32] ++ (dg v ++ ([32] ++ (dg w ++ [59]))))))))))
theorem fin_s1 {s : Int} {it : Int → Int} (h0 : s ≠ 0) (h7 : s ≠ 7) (hi1 : ITM s = 1) : fin M s (itu it 0 x) = up M 0 (db s) x := by
  rw [fin_x h0 h7]
  funext j q
  unfold up
  by_cases h : j = 0 ∧ q = db s
  · rw [if_pos h, if_pos ⟨h.1, by omega, by omega⟩, show q - db s = 0 by omega]
    exact if_pos rfl
  · rw [if_neg h, if_neg (fun hh => h ⟨hh.1, by omega⟩)]
theorem fin_s2 {s : Int} {it : Int → Int} (h0 : s ≠ 0) (h7 : s ≠ 7) (hi1 : ITM s = 2) : fin M s (itu (itu it 0 x) 1 y) = up (up M 0 (db s) x) 0 (db s + 1) y := by
  rw [fin_x h0 h7]
  funext j q
  unfold up
  by_cases h1 : j = 0 ∧ q = db s + 1
  · rw [if_pos h1, if_pos ⟨h1.1, by omega, by omega⟩, show q - db s = 1 by omega]
    exact if_pos rfl
  · rw [if_neg h1]
    by_cases h : j = 0 ∧ q = db s
    · rw [if_pos h, if_pos ⟨h.1, by omega, by omega⟩, show q - db s = 0 by omega]
      exact (if_neg (by decide)).trans (if_pos rfl)
    · rw [if_neg h, if_neg (fun hh => by omega)]
theorem fin_s5 {it : Int → Int} {a b c d f : Int} : fin M 1 (itu (itu (itu (itu (itu it 0 a) 1 b) 2 c) 3 d) 4 f) = up (up (up (up (up M 0 2 a) 0 3 b) 0 4 c) 0 5 d) 0 6 f := by
  rw [fin_x (by decide) (by decide)]
  funext j q
  show (if j = 0 ∧ 2 ≤ q ∧ q < 2 + 5 then itu (itu (itu (itu (itu it 0 a) 1 b) 2 c) 3 d) 4 f (q - 2) else M j q) = _
  unfold up
  by_cases hj : j = 0
  · subst hj
    by_cases h : 2 ≤ q ∧ q < 7
    · have : q = 2 ∨ q = 3 ∨ q = 4 ∨ q = 5 ∨ q = 6 := by omega
      rcases this with rfl | rfl | rfl | rfl | rfl <;> rfl
    · rw [if_neg (by omega), if_neg (by omega), if_neg (by omega), if_neg (by omega), if_neg (by omega), if_neg (by omega)]
  · rw [if_neg (fun h => hj h.1), if_neg (fun h => hj h.1), if_neg (fun h => hj h.1), if_neg (fun h => hj h.1), if_neg (fun h => hj h.1), if_neg (fun h => hj h.1)]
theorem CU9.s1 {a : Nat} (ha : a < 9) (hi1 : ITM a = 1) (h0 : a ≠ 0) (h7 : a ≠ 7) (h : CU9 B ks rk ss ls vs n K R e ct M) (hd : AT B e (st1 a x)) (hn : e + (st1 a x).length ≤ n) (hx : 0 ≤ x ∧ x ≤ 9999) (hlo : ∀ it, lo M a 0 it ≤ x ∧ x ≤ hi a 0 it) (hct : ct a < MST a) :
    CU9 B ks rk ss ls vs n K R (e + (st1 a x).length) (ctu ct a) (up M 0 (db a) x) := by
  obtain ⟨j, ic, it, h⟩ := h
  have el : ((st1 a x).length : Int) = (strL (2000 + a)).length + 1 + (dg x).length + 1 := by
    unfold st1
    simp only [List.length_append, List.length_cons, List.length_nil]
    omega
  rw [el] at hn ⊢
  have hd : AT B e (strL (2000 + a) ++ ([32] ++ (dg x ++ [59]))) := hd
  obtain ⟨q0, d1⟩ := hd.cut
  obtain ⟨q1, d2⟩ := d1.cut
  have q1 := q1.c
  rw [show (([32] : List Int).length : Int) = 1 from rfl] at d2
  obtain ⟨p1, d3⟩ := d2.cut
  have p2 := d3.c
  have c1 := h.word ha q0 (by omega) (by rw [q1]; decide) hct
  have c2 := c1.num (x := x) (by omega) (by omega) q1 hx p1 (by omega) (by rw [p2]; decide) (hlo it)
  have c3 := c2.semi (by omega) (by omega) p2 (by omega)
  rw [fin_s1 (by omega) (by omega) hi1] at c3
  exact ⟨_, _, _, by rw [show e + ((strL (2000 + a)).length + 1 + ((dg x).length : Int) + 1) = e + (strL (2000 + a)).length + 1 + (dg x).length + 1 by omega]; exact c3⟩
theorem CU9.s2 {a : Nat} (ha : a < 9) (hi1 : ITM a = 2) (h0 : a ≠ 0) (h7 : a ≠ 7) (h : CU9 B ks rk ss ls vs n K R e ct M) (hd : AT B e (st2 a x y)) (hn : e + (st2 a x y).length ≤ n) (hx : 0 ≤ x ∧ x ≤ 9999) (hy : 0 ≤ y ∧ y ≤ 9999) (hlo : ∀ it, lo M a 0 it ≤ x ∧ x ≤ hi a 0 it) (hlo1 : ∀ it, it 0 = x → lo M a 1 it ≤ y ∧ y ≤ hi a 1 it) (hct : ct a < MST a) :
    CU9 B ks rk ss ls vs n K R (e + (st2 a x y).length) (ctu ct a) (up (up M 0 (db a) x) 0 (db a + 1) y) := by
  obtain ⟨j, ic, it, h⟩ := h
  have el : ((st2 a x y).length : Int) = (strL (2000 + a)).length + 1 + (dg x).length + 1 + (dg y).length + 1 := by
    unfold st2
    simp only [List.length_append, List.length_cons, List.length_nil]
    omega
  rw [el] at hn ⊢
  have hd : AT B e (strL (2000 + a) ++ ([32] ++ (dg x ++ ([32] ++ (dg y ++ [59]))))) := hd
  obtain ⟨q0, d1⟩ := hd.cut
  obtain ⟨q1, d2⟩ := d1.cut
  have q1 := q1.c
  rw [show (([32] : List Int).length : Int) = 1 from rfl] at d2
  obtain ⟨p1, d3⟩ := d2.cut
  obtain ⟨p2, d4⟩ := d3.cut
  have p2 := p2.c
  rw [show (([32] : List Int).length : Int) = 1 from rfl] at d4
  obtain ⟨p3, d5⟩ := d4.cut
  have p4 := d5.c
  have c1 := h.word ha q0 (by omega) (by rw [q1]; decide) hct
  have c2 := c1.num (x := x) (by omega) (by omega) q1 hx p1 (by omega) (by rw [p2]; decide) (hlo it)
  rw [show (0 : Int) + 1 = 1 from rfl] at c2
  have c3 := c2.num (x := y) (by omega) (by omega) p2 hy p3 (by omega) (by rw [p4]; decide) (hlo1 _ (if_pos rfl))
  have c4 := c3.semi (by omega) (by omega) p4 (by omega)
  rw [fin_s2 (by omega) (by omega) hi1] at c4
  exact ⟨_, _, _, by rw [show e + ((strL (2000 + a)).length + 1 + ((dg x).length : Int) + 1 + (dg y).length + 1) = e + (strL (2000 + a)).length + 1 + (dg x).length + 1 + (dg y).length + 1 by omega]; exact c4⟩
theorem CU9.s5 {g1 g2 g3 g4 g5 : Int} (h : CU9 B ks rk ss ls vs n K R e ct M) (hd : AT B e (st5 1 g1 g2 g3 g4 g5)) (hn : e + (st5 1 g1 g2 g3 g4 g5).length ≤ n) (h1 : 0 ≤ g1 ∧ g1 ≤ 999) (h2 : 0 ≤ g2 ∧ g2 ≤ 999) (h3 : 1 ≤ g3 ∧ g3 ≤ 12) (h4 : 1 ≤ g4 ∧ g4 ≤ 12) (h5 : 1 ≤ g5 ∧ g5 ≤ 99) (hct : ct 1 < 1) :
    CU9 B ks rk ss ls vs n K R (e + (st5 1 g1 g2 g3 g4 g5).length) (ctu ct 1) (up (up (up (up (up M 0 2 g1) 0 3 g2) 0 4 g3) 0 5 g4) 0 6 g5) := by
  obtain ⟨j, ic, it, h⟩ := h
  have el : ((st5 1 g1 g2 g3 g4 g5).length : Int) = (strL (2000 + 1)).length + 1 + (dg g1).length + 1 + (dg g2).length + 1 + (dg g3).length + 1 + (dg g4).length + 1 + (dg g5).length + 1 := by
    unfold st5
    generalize strL (2000 + 1) = W
    simp only [List.length_append, List.length_cons, List.length_nil]
    omega
  rw [el] at hn ⊢
  have hd : AT B e (strL (2000 + 1) ++ ([32] ++ (dg g1 ++ ([32] ++ (dg g2 ++ ([32] ++ (dg g3 ++ ([32] ++ (dg g4 ++ ([32] ++ (dg g5 ++ [59])))))))))) ) := hd
  obtain ⟨q0, d⟩ := hd.cut
  obtain ⟨p0, d⟩ := d.cut
  have p0 := p0.c
  rw [show (([32] : List Int).length : Int) = 1 from rfl] at d
  obtain ⟨q1, d⟩ := d.cut
  obtain ⟨p1, d⟩ := d.cut
  have p1 := p1.c
  rw [show (([32] : List Int).length : Int) = 1 from rfl] at d
  obtain ⟨q2, d⟩ := d.cut
  obtain ⟨p2, d⟩ := d.cut
  have p2 := p2.c
  rw [show (([32] : List Int).length : Int) = 1 from rfl] at d
  obtain ⟨q3, d⟩ := d.cut
  obtain ⟨p3, d⟩ := d.cut
  have p3 := p3.c
  rw [show (([32] : List Int).length : Int) = 1 from rfl] at d
  obtain ⟨q4, d⟩ := d.cut
  obtain ⟨p4, d⟩ := d.cut
  have p4 := p4.c
  rw [show (([32] : List Int).length : Int) = 1 from rfl] at d
  obtain ⟨q5, d⟩ := d.cut
  have p5 := d.c
  have c := h.word (a := 1) (by decide) q0 (by omega) (by rw [p0]; decide) (show ct 1 < 1 from hct)
  have c := c.num (x := g1) (by decide) (by decide) p0 (by omega) q1 (by omega) (by rw [p1]; decide) (show 0 ≤ g1 ∧ g1 ≤ 999 from h1)
  rw [show (0 : Int) + 1 = 1 from rfl] at c
  have c := c.num (x := g2) (by decide) (by decide) p1 (by omega) q2 (by omega) (by rw [p2]; decide) (show 0 ≤ g2 ∧ g2 ≤ 999 from h2)
  rw [show (1 : Int) + 1 = 2 from rfl] at c
  have c := c.num (x := g3) (by decide) (by decide) p2 (by omega) q3 (by omega) (by rw [p3]; decide) (show 1 ≤ g3 ∧ g3 ≤ 12 from h3)
  rw [show (2 : Int) + 1 = 3 from rfl] at c
  have c := c.num (x := g4) (by decide) (by decide) p3 (by omega) q4 (by omega) (by rw [p4]; decide) (show 1 ≤ g4 ∧ g4 ≤ 12 from h4)
  rw [show (3 : Int) + 1 = 4 from rfl] at c
  have c := c.num (x := g5) (by decide) (by decide) p4 (by omega) q5 (by omega) (by rw [p5]; decide) (show 1 ≤ g5 ∧ g5 ≤ 99 from h5)
  rw [show (4 : Int) + 1 = 5 from rfl] at c
  have c := c.semi (by decide) (by decide) p5 (by omega)
  have c := (congrArg (CUR B ks rk ss ls vs n K R _ _ (-1) _ _ _) fin_s5).mp c
  exact ⟨_, _, _, by rw [show e + ((strL (2000 + 1)).length + 1 + ((dg g1).length : Int) + 1 + (dg g2).length + 1 + (dg g3).length + 1 + (dg g4).length + 1 + (dg g5).length + 1) = e + (strL (2000 + 1)).length + 1 + (dg g1).length + 1 + (dg g2).length + 1 + (dg g3).length + 1 + (dg g4).length + 1 + (dg g5).length + 1 by omega]; exact c⟩
/-- the grid's text, statement by statement -/
def gr2 (gx gy co ro st te sh lo tn tf vo sl de : Int) : List Int := st5 1 gx gy co ro st ++ (st1 2 te ++ (st2 3 sh lo ++ (st2 4 tn tf ++ (st1 5 vo ++ (st1 6 sl ++ st1 8 de)))))
theorem grT_e {gx gy co ro st te sh lo tn tf vo sl de : Int} : grT gx gy co ro st te sh lo tn tf vo sl de = gr2 gx gy co ro st te sh lo tn tf vo sl de := by
  have e10 : strL 2010 = strL (2000 + 1) ++ [32] := by decide +kernel
  have e11 : strL 2011 = [32] := by decide +kernel
  have e12 : strL 2012 = [59] ++ (strL (2000 + 2) ++ [32]) := by decide +kernel
  have e13 : strL 2013 = [59] ++ (strL (2000 + 3) ++ [32]) := by decide +kernel
  have e14 : strL 2014 = [59] ++ (strL (2000 + 4) ++ [32]) := by decide +kernel
  have e15 : strL 2015 = [59] ++ (strL (2000 + 5) ++ [32]) := by decide +kernel
  have e16 : strL 2016 = [59] ++ (strL (2000 + 6) ++ [32]) := by decide +kernel
  have e17 : strL 2017 = [59] ++ (strL (2000 + 8) ++ [32]) := by decide +kernel
  have e18 : strL 2018 = [59] := by decide +kernel
  unfold grT gr2 st5 st1 st2
  rw [e10, e11, e12, e13, e14, e15, e16, e17, e18]
  generalize strL (2000 + 1) = w1
  generalize strL (2000 + 2) = w2
  generalize strL (2000 + 3) = w3
  generalize strL (2000 + 4) = w4
  generalize strL (2000 + 5) = w5
  generalize strL (2000 + 6) = w6
  generalize strL (2000 + 8) = w8
  simp only [List.append_assoc, List.nil_append]
/-- what it makes of a network -/
def gup (M : uS) (gx gy co ro st te sh lo tn tf vo sl de : Int) : uS := up (up (up (up (up (up (up (up (up (up (up (up (up M 0 2 gx) 0 3 gy) 0 4 co) 0 5 ro) 0 6 st) 0 7 te) 0 8 sh) 0 9 lo) 0 10 tn) 0 11 tf) 0 12 vo) 0 13 sl) 0 14 de
theorem CU9.grid {gx gy co ro st te sh lo tn tf vo sl de : Int} (h : CU9 B ks rk ss ls vs n K R e ct M) (hg : GB gx gy co ro st te sh lo tn tf vo sl de) (hd : AT B e (grT gx gy co ro st te sh lo tn tf vo sl de)) (hn : e + (grT gx gy co ro st te sh lo tn tf vo sl de).length ≤ n) (hct : ∀ w, w ≠ 0 → ct w = 0) :
    ∃ ct', (ct' 0 = ct 0 ∧ ct' 7 = ct 7) ∧ CU9 B ks rk ss ls vs n K R (e + (grT gx gy co ro st te sh lo tn tf vo sl de).length) ct' (gup M gx gy co ro st te sh lo tn tf vo sl de) := by
  obtain ⟨h11, h12, h13, h14, h15, h16, h17, h18, h19, h20, h21, h22, h23⟩ := hg
  rw [grT_e] at hd hn ⊢
  have el : ((gr2 gx gy co ro st te sh lo tn tf vo sl de).length : Int) = (st5 1 gx gy co ro st).length + (st1 2 te).length + (st2 3 sh lo).length + (st2 4 tn tf).length + (st1 5 vo).length + (st1 6 sl).length + (st1 8 de).length := by
    unfold gr2
    simp only [List.length_append]
    omega
  rw [el] at hn ⊢
  unfold gr2 at hd
  obtain ⟨d1, hd⟩ := hd.cut
  obtain ⟨d2, hd⟩ := hd.cut
  obtain ⟨d3, hd⟩ := hd.cut
  obtain ⟨d4, hd⟩ := hd.cut
  obtain ⟨d5, hd⟩ := hd.cut
  obtain ⟨d6, d8⟩ := hd.cut
  have c := h.s5 d1 (by omega) (by omega) (by omega) (by omega) (by omega) (by omega) (by rw [hct 1 (by decide)]; decide)
  have c := c.s1 (a := 2) (by decide) (by decide) (by decide) (by decide) d2 (by omega) (by omega) (fun it => show 1 ≤ te ∧ te ≤ 999 from by omega) (show ct 2 < 1 from by rw [hct 2 (by decide)]; decide)
  have c := c.s2 (a := 3) (by decide) (by decide) (by decide) (by decide) d3 (by omega) (by omega) (by omega) (fun it => show 1 ≤ sh ∧ sh ≤ 50 from by omega) (fun it hit => show it 0 ≤ lo ∧ lo ≤ 99 from by omega) (show ct 3 < 1 from by rw [hct 3 (by decide)]; decide)
  have c := c.s2 (a := 4) (by decide) (by decide) (by decide) (by decide) d4 (by omega) (by omega) (by omega) (fun it => show 1 ≤ tn ∧ tn ≤ 9999 from by omega) (fun it hit => show 0 ≤ tf ∧ tf ≤ it 0 from by omega) (show ct 4 < 1 from by rw [hct 4 (by decide)]; decide)
  have c := c.s1 (a := 5) (by decide) (by decide) (by decide) (by decide) d5 (by omega) (by omega) (fun it => show 1 ≤ vo ∧ vo ≤ 8 from by omega) (show ct 5 < 1 from by rw [hct 5 (by decide)]; decide)
  have c := c.s1 (a := 6) (by decide) (by decide) (by decide) (by decide) d6 (by omega) (by omega) (fun it => show 0 ≤ sl ∧ sl ≤ 99 from by omega) (show ct 6 < 1 from by rw [hct 6 (by decide)]; decide)
  have c := c.s1 (a := 8) (by decide) (by decide) (by decide) (by decide) d8 (by omega) (by omega) (fun it => show 0 ≤ de ∧ de ≤ 99 from by omega) (show ct 8 < 1 from by rw [hct 8 (by decide)]; decide)
  refine ⟨ctu (ctu (ctu (ctu (ctu (ctu (ctu ct 1) 2) 3) 4) 5) 6) 8, ⟨rfl, rfl⟩, ?_⟩
  rw [show e + (((st5 1 gx gy co ro st).length : Int) + (st1 2 te).length + (st2 3 sh lo).length + (st2 4 tn tf).length + (st1 5 vo).length + (st1 6 sl).length + (st1 8 de).length) = e + (st5 1 gx gy co ro st).length + (st1 2 te).length + (st2 3 sh lo).length + (st2 4 tn tf).length + (st1 5 vo).length + (st1 6 sl).length + (st1 8 de).length by omega]
  exact c
end RG
