/-! pure part, 2: the values that class and reference are both tied to.
N: a network: N 0 by the reference's numbering of told (0 stations, 1 rungs, 2 3 x y, 4 5 columns rows, 6 step, 7 tenths, 8 9 short long, 10 11 on off, 12 votes, 13 slack, 14 decay), N 1 xs, N 2 ys, N 3 amplitudes, N 4 magnitudes.
V: a situation: V 0 0 tick, V 0 1 picks, V 0 2 events, V 1 levels, V 2 samples, V 5 triggered, V 6 muted, V 7 latest pick; of picks V 8 station, V 9 time, V 10 peak, V 11 event, V 12 removed; of events V 13 declared, V 14 retracted -/
noncomputable def cif {α : Type} (c : Prop) (a b : α) : α := @ite α c (Classical.propDecidable c) a b
theorem cif_t {α : Type} {c : Prop} {a b : α} (h : c) : cif c a b = a := if_pos h
theorem cif_f {α : Type} {c : Prop} {a b : α} (h : ¬ c) : cif c a b = b := if_neg h
theorem cif_c {α : Type} {c d : Prop} {a b : α} (h : c ↔ d) : cif c a b = cif d a b := by rw [propext h]
/-- the root, cut: b bits to go, a found -/
def rs (x : Int) : Nat → Int → Int
  | 0, a => a
  | b + 1, a => rs x b (if (a + (2 : Int) ^ b) * (a + (2 : Int) ^ b) ≤ x then a + (2 : Int) ^ b else a)
def dst (dx dy : Int) : Int := rs (dx * dx + dy * dy) 13 0
def tvS (N : uS) (a b : Int) : Int := (dst (N 1 a - N 1 b) (N 2 a - N 2 b) * 10).tdiv (N 0 7)
def ndX (N : uS) (n : Int) : Int := N 0 2 + n.tmod (N 0 4) * N 0 6
def ndY (N : uS) (n : Int) : Int := N 0 3 + n.tdiv (N 0 4) * N 0 6
def ndD (N : uS) (n s : Int) : Int := dst (ndX N n - N 1 s) (ndY N n - N 2 s)
def tvN (N : uS) (n s : Int) : Int := (ndD N n s * 10).tdiv (N 0 7)
def nds (N : uS) : Int := N 0 4 * N 0 5
def rg (N : uS) (a : Int) : Nat → Int
  | 0 => -1
  | n + 1 => if N 3 (n : Int) ≤ a then N 4 (n : Int) else rg N a n
def rung (N : uS) (a : Int) : Int := rg N a (N 0 1).toNat
def smA (V : uS) (s t : Int) : Int := if t ≤ 0 then 0 else V 2 (99 * s + t % 99)
def lat (V : uS) (s m : Int) : Int := sg (fun b => smA V s (V 0 0 - b)) m.toNat
def rat (N : uS) (S L : Int) : Int := if L = 0 then 0 else (S * N 0 9 * 100).tdiv (L * N 0 8)
def rto (N V : uS) (s : Int) : Int := rat N (lat V s (N 0 8)) (lat V s (N 0 9))
abbrev fit (N V : uS) (p q : Int) : Prop := V 8 p ≠ V 8 q ∧ V 12 p ≠ 1 ∧ V 12 q ≠ 1 ∧ absI (V 9 p - V 9 q) ≤ tvS N (V 8 p) (V 8 q) + N 0 13
def pk (V : uS) (e : Int) : Int := sg (fun p => if V 11 p = e then 1 else 0) (V 0 1).toNat
def lv (V : uS) : Int := sg (fun e => if V 14 e = 1 then 0 else 1) (V 0 2).toNat
def fitA (N V : uS) (e p : Int) : Prop := ∀ q, 0 ≤ q → q < V 0 1 → V 11 q = e → q ≠ p → fit N V q p
/-- the first event from e on, of d, that the pick p joins -/
noncomputable def fe (N V : uS) (p : Int) : Nat → Int → Int
  | 0, _ => -1
  | d + 1, e => cif (V 14 e = 0 ∧ fitA N V e p) e (fe N V p d (e + 1))
/-- the group of p, once the picks before i have been gone through -/
def gm (N V : uS) (p : Int) : Nat → Int → Prop
  | 0 => fun q => q = p
  | i + 1 => fun q => gm N V p i q ∨ (q = (i : Int) ∧ q ≠ p ∧ V 11 q = -1 ∧ V 12 q = 0 ∧ ∀ r, gm N V p i r → fit N V r q)
noncomputable def gsz (N V : uS) (p : Int) (i : Nat) : Int := sg (fun q => cif (gm N V p i q) 1 0) (V 0 1).toNat
/-- the picks of the group are of the event that comes next -/
noncomputable def mkg (N V : uS) (p : Int) (i : Nat) : uS := fun j q => if j = 11 then cif (gm N V p i q) (V 0 2) (V 11 q) else V j q
noncomputable def dcl (N V : uS) (p : Int) : uS := up (up (up (mkg N V p (V 0 1).toNat) 14 (V 0 2) 0) 13 (V 0 2) (V 0 0)) 0 2 (V 0 2 + 1)
noncomputable def vt (N V : uS) (p : Int) : uS :=
  if fe N V p (V 0 2).toNat 0 ≠ -1 then up V 11 p (fe N V p (V 0 2).toNat 0)
  else if N 0 12 ≤ gsz N V p (V 0 1).toNat ∧ V 0 2 < 20 then dcl N V p else V
def ap (V : uS) (s : Int) : uS := up (up (up (up (up (up (up (up V 8 (V 0 1) s) 9 (V 0 1) (V 0 0)) 10 (V 0 1) (V 1 s)) 11 (V 0 1) (-1)) 12 (V 0 1) 0) 0 1 (V 0 1 + 1)) 5 s 1) 7 s (V 0 1)
def rp (N V : uS) (s : Int) : uS := up (up V 10 (V 7 s) (maxI (V 10 (V 7 s)) (V 1 s))) 5 s (if rto N V s < N 0 11 then 0 else 1)
noncomputable def jd (N V : uS) (s : Int) : uS :=
  if V 5 s = 1 then rp N V s
  else if N 0 9 ≤ V 0 0 ∧ V 6 s = 0 ∧ V 0 1 < 60 ∧ N 0 10 ≤ rto N V s then vt N (ap V s) (V 0 1) else V
noncomputable def itj (N : uS) : Nat → Int → uS → uS
  | 0, _, V => V
  | d + 1, s, V => itj N d (s + 1) (jd N V s)
/-- the samples of the stations before n, at the tick that begins -/
def smp (V : uS) (n : Int) : uS := fun j i =>
  if j = 0 ∧ i = 0 then V 0 0 + 1 else if j = 2 ∧ 0 ≤ i ∧ i < 99 * n ∧ i % 99 = (V 0 0 + 1) % 99 then V 1 (i / 99) else V j i
noncomputable def tk (N V : uS) : uS := itj N (N 0 0).toNat 0 (smp V (N 0 0))
noncomputable def tks (N : uS) : Nat → uS → uS
  | 0, V => V
  | n + 1, V => tks N n (tk N V)
/-- muting: the picks go -/
def mt1 (V : uS) (s : Int) : uS := fun j i =>
  if j = 6 ∧ i = s then 1 else if j = 5 ∧ i = s then 0 else if j = 12 ∧ 0 ≤ i ∧ i < V 0 1 ∧ V 8 i = s then 1 else if j = 11 ∧ 0 ≤ i ∧ i < V 0 1 ∧ V 8 i = s then -1 else V j i
/-- the events before n that have too few picks go -/
def mt2 (N V : uS) (n : Int) : uS := fun j i =>
  if j = 14 ∧ 0 ≤ i ∧ i < n ∧ V 14 i = 0 ∧ pk V i < N 0 12 then 1
  else if j = 11 ∧ 0 ≤ V 11 i ∧ V 11 i < n ∧ V 14 (V 11 i) = 0 ∧ pk V (V 11 i) < N 0 12 then -1 else V j i
def mtn (N V : uS) (n : Int) : Int := sg (fun e => if V 14 e = 0 ∧ pk V e < N 0 12 then 1 else 0) n.toNat
def mt (N V : uS) (s : Int) : uS := mt2 N (mt1 V s) (V 0 2)
/-- the picks of e go (those before i) -/
def fri (V : uS) (e i : Int) : uS := fun j q => if j = 11 ∧ q < i ∧ V 11 q = e then -1 else V j q
def fr (V : uS) (e : Int) : uS := fun j q => if j = 11 ∧ V 11 q = e then -1 else V j q
def rtr (V : uS) (e : Int) : uS := fr (up V 14 e 1) e
def dly (N V : uS) (n p : Int) : Int := V 9 p - tvN N n (V 8 p)
def org (N V : uS) (n e : Int) : Int := (sg (fun p => if V 11 p = e then dly N V n p else 0) (V 0 1).toNat).tdiv (pk V e)
def msf (N V : uS) (n e : Int) : Int := sg (fun p => if V 11 p = e then absI (dly N V n p - org N V n e) else 0) (V 0 1).toNat
/-- the best node, from n on, d to go -/
def nb (N V : uS) (e : Int) : Nat → Int → Int → Int → Int
  | 0, _, b, _ => b
  | d + 1, n, b, l => nb N V e d (n + 1) (if msf N V n e < l then n else b) (if msf N V n e < l then msf N V n e else l)
def nde (N V : uS) (e : Int) : Int := nb N V e (nds N - 1).toNat 1 0 (msf N V 0 e)
def mgp (N V : uS) (n p : Int) : Int := rung N (V 10 p + N 0 14 * ndD N n (V 8 p))
/-- how many picks of e have a magnitude of at most x -/
def mc (N V : uS) (n e x : Int) : Int := sg (fun p => if V 11 p = e ∧ mgp N V n p ≤ x then 1 else 0) (V 0 1).toNat
def isMed (N V : uS) (n e v : Int) : Prop := mc N V n e (v - 1) ≤ (pk V e - 1).tdiv 2 ∧ (pk V e - 1).tdiv 2 < mc N V n e v
/-! what values are like -/
def NWF (N : uS) : Prop := (0 ≤ N 0 0 ∧ N 0 0 ≤ 8) ∧ (0 ≤ N 0 1 ∧ N 0 1 ≤ 8) ∧ (0 ≤ N 0 2 ∧ N 0 2 ≤ 999) ∧ (0 ≤ N 0 3 ∧ N 0 3 ≤ 999) ∧ (1 ≤ N 0 4 ∧ N 0 4 ≤ 12) ∧ (1 ≤ N 0 5 ∧ N 0 5 ≤ 12) ∧ (1 ≤ N 0 6 ∧ N 0 6 ≤ 99) ∧ (1 ≤ N 0 7 ∧ N 0 7 ≤ 999) ∧ (1 ≤ N 0 8 ∧ N 0 8 ≤ 50) ∧ (N 0 8 ≤ N 0 9 ∧ N 0 9 ≤ 99) ∧ (1 ≤ N 0 10 ∧ N 0 10 ≤ 9999) ∧ (0 ≤ N 0 11 ∧ N 0 11 ≤ 9999) ∧ (1 ≤ N 0 12 ∧ N 0 12 ≤ 8) ∧ (0 ≤ N 0 13 ∧ N 0 13 ≤ 99) ∧ (0 ≤ N 0 14 ∧ N 0 14 ≤ 99) ∧ (∀ s, 0 ≤ s → s < N 0 0 → (0 ≤ N 1 s ∧ N 1 s ≤ 999) ∧ (0 ≤ N 2 s ∧ N 2 s ≤ 999)) ∧ (∀ r, 0 ≤ r → r < N 0 1 → (0 ≤ N 3 r ∧ N 3 r ≤ 9999) ∧ (0 ≤ N 4 r ∧ N 4 r ≤ 99))
/-- bounds of a situation, at every step -/
def WFb (N V : uS) : Prop := (0 ≤ V 0 0 ∧ V 0 0 ≤ 10199) ∧ (0 ≤ V 0 1 ∧ V 0 1 ≤ 60) ∧ (0 ≤ V 0 2 ∧ V 0 2 ≤ 20)
  ∧ (∀ s, 0 ≤ s → s < 8 → (0 ≤ V 1 s ∧ V 1 s ≤ 9999) ∧ (0 ≤ V 5 s ∧ V 5 s ≤ 1) ∧ (0 ≤ V 6 s ∧ V 6 s ≤ 1))
  ∧ (∀ i, 0 ≤ i → i < 792 → 0 ≤ V 2 i ∧ V 2 i ≤ 9999)
  ∧ (∀ p, 0 ≤ p → p < V 0 1 → (0 ≤ V 8 p ∧ V 8 p < N 0 0) ∧ (0 ≤ V 9 p ∧ V 9 p ≤ 10199) ∧ (0 ≤ V 10 p ∧ V 10 p ≤ 9999) ∧ (-1 ≤ V 11 p ∧ V 11 p ≤ 20) ∧ (0 ≤ V 12 p ∧ V 12 p ≤ 1))
  ∧ (∀ e, 0 ≤ e → e < V 0 2 → (0 ≤ V 14 e ∧ V 14 e ≤ 1) ∧ (0 ≤ V 13 e ∧ V 13 e ≤ 10199))
/-- how its parts hang together -/
def WFx (N V : uS) : Prop := (∀ s, 0 ≤ s → s < 8 → (V 6 s = 1 → V 5 s = 0) ∧ (V 5 s = 1 → s < N 0 0 ∧ 0 ≤ V 7 s ∧ V 7 s < V 0 1))
  ∧ (∀ p, 0 ≤ p → p < V 0 1 → V 11 p < V 0 2 ∧ (V 12 p = 1 → V 11 p = -1) ∧ (0 ≤ V 11 p → V 14 (V 11 p) = 0))
  ∧ (∀ e, 0 ≤ e → e < V 0 2 → V 14 e = 0 → N 0 12 ≤ pk V e)
def WFc (N V : uS) : Prop := WFb N V ∧ WFx N V
/-! what cells show a value -/
def vd (a b : Int) (j : Nat) (s : Int) : Prop := 0 ≤ s ∧ ((j = 0 ∧ s < 3) ∨ ((j = 1 ∨ j = 5 ∨ j = 6 ∨ j = 7) ∧ s < 8) ∨ (j = 2 ∧ s < 792) ∨ ((8 ≤ j ∧ j ≤ 12) ∧ s < a) ∨ ((j = 13 ∨ j = 14) ∧ s < b))
/-- where the reference keeps them -/
def ix (j : Nat) (s : Int) : Int := if j = 0 then s else if j = 1 then 3 + 4 * s + 0 else if j = 5 then 3 + 4 * s + 1 else if j = 6 then 3 + 4 * s + 2 else if j = 7 then 3 + 4 * s + 3 else if j = 2 then 35 + s
  else if j = 8 then 827 + 5 * s + 0 else if j = 9 then 827 + 5 * s + 1 else if j = 10 then 827 + 5 * s + 2 else if j = 11 then 827 + 5 * s + 3 else if j = 12 then 827 + 5 * s + 4 else if j = 14 then 1127 + 2 * s else 1127 + 2 * s + 1
def VE (a b : Int) (A V : uS) : Prop := ∀ j s, vd a b j s → A j s = V j s
def MSo (u : uS) (c : Nat) (o : Int) (V : uS) : Prop := VE (V 0 1) (V 0 2) (fun j s => u c (o + ix j s)) V
def MS (u : uS) (V : uS) : Prop := VE (V 0 1) (V 0 2) (fun j s => u 41 (ix j s)) V
def CV (u : uS) (k : Nat) (V : uS) : Prop := VE (V 0 1) (V 0 2) (fun j s => u (k + j) s) V
/-- the sums that the class keeps -/
def CL (N u : uS) (k : Nat) (V : uS) : Prop := ∀ s, 0 ≤ s → s < N 0 0 → u (k + 3) s = lat V s (N 0 8) ∧ u (k + 4) s = lat V s (N 0 9)
def CS (N u : uS) (k : Nat) (V : uS) : Prop := (k < NN ∧ sT k = 11) ∧ CV u k V ∧ CL N u k V
def MN (u N : uS) : Prop := (∀ i, 0 ≤ i → i < 15 → u 42 i = N 0 i) ∧ (∀ s, 0 ≤ s → s < N 0 0 → u 43 s = N 1 s ∧ u 44 s = N 2 s) ∧ (∀ r, 0 ≤ r → r < N 0 1 → u 45 r = N 3 r ∧ u 46 r = N 4 r)
/-- the class's network at k, the derived tables with it -/
def CN (u : uS) (k : Nat) (N : uS) : Prop := (k < NN ∧ sT k = 9) ∧ (u k 10 = N 0 0 ∧ u (k + 2) 0 = N 0 1 ∧ u (k + 1) 0 = N 0 2 ∧ u (k + 1) 1 = N 0 3 ∧ u (k + 1) 2 = N 0 4 ∧ u (k + 1) 3 = N 0 5 ∧ u (k + 1) 4 = N 0 6 ∧ u k 2 = N 0 7 ∧ u k 3 = N 0 8 ∧ u k 4 = N 0 9 ∧ u k 5 = N 0 10 ∧ u k 6 = N 0 11 ∧ u k 7 = N 0 12 ∧ u k 8 = N 0 13 ∧ u k 9 = N 0 14)
  ∧ (∀ s, 0 ≤ s → s < N 0 0 → u (k + 5) s = N 1 s ∧ u (k + 6) s = N 2 s) ∧ (∀ r, 0 ≤ r → r < N 0 1 → u (k + 3) r = N 3 r ∧ u (k + 4) r = N 4 r)
  ∧ (∀ a b, 0 ≤ a → a < N 0 0 → 0 ≤ b → b < N 0 0 → u (k + 7) (8 * a + b) = tvS N a b) ∧ (∀ n s, 0 ≤ n → n < nds N → 0 ≤ s → s < N 0 0 → u (k + 8) (8 * n + s) = ndD N n s)
