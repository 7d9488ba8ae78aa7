/-! pure base: ints as integers, the state, shapes, combinators -/
/-! X, part a: ints as integers; the one picture of all cells of class and law -/
abbrev InR (x : Int) : Prop := -2147483648 ≤ x ∧ x < 2147483648
abbrev InL (x : Int) : Prop := -9223372036854775808 ≤ x ∧ x < 9223372036854775808
def iI (x : Int) : Int32 := Int32.ofInt x
def lI (x : Int) : Int64 := Int64.ofInt x
theorem iI_t {x : Int} (h : InR x) : (iI x).toInt = x := Int32.toInt_ofInt_of_le (by have := h.1; omega) (by have := h.2; omega)
theorem lI_t {x : Int} (h : InL x) : (lI x).toInt = x := Int64.toInt_ofInt_of_le (by have := h.1; omega) (by have := h.2; omega)
theorem iI_x (x : Int32) : iI x.toInt = x := Int32.ofInt_toInt x
theorem inR_x (x : Int32) : InR x.toInt := ⟨by have := Int32.le_toInt x; omega, by have := Int32.toInt_lt x; omega⟩
theorem iI_add (a b : Int) : iI a + iI b = iI (a + b) := (Int32.ofInt_add a b).symm
theorem iI_sub (a b : Int) : iI a - iI b = iI (a - b) := (Int32.ofInt_sub a b).symm
theorem iI_mul (a b : Int) : iI a * iI b = iI (a * b) := (Int32.ofInt_mul a b).symm
theorem iI_neg (a : Int) : -iI a = iI (-a) := (Int32.ofInt_neg a).symm
theorem lI_mul (a b : Int) : lI a * lI b = lI (a * b) := (Int64.ofInt_mul a b).symm
theorem lI_add (a b : Int) : lI a + lI b = lI (a + b) := (Int64.ofInt_add a b).symm
theorem iI_lt {a b : Int} (ha : InR a) (hb : InR b) : iI a < iI b ↔ a < b := by rw [Int32.lt_iff_toInt_lt, iI_t ha, iI_t hb]
theorem iI_le {a b : Int} (ha : InR a) (hb : InR b) : iI a ≤ iI b ↔ a ≤ b := by rw [Int32.le_iff_toInt_le, iI_t ha, iI_t hb]
theorem iI_eq {a b : Int} (ha : InR a) (hb : InR b) : iI a = iI b ↔ a = b :=
  ⟨fun h => by have h2 := congrArg Int32.toInt h; rwa [iI_t ha, iI_t hb] at h2, fun h => by rw [h]⟩
theorem lI_eq {a b : Int} (ha : InL a) (hb : InL b) : lI a = lI b ↔ a = b :=
  ⟨fun h => by have h2 := congrArg Int64.toInt h; rwa [lI_t ha, lI_t hb] at h2, fun h => by rw [h]⟩
theorem lI_lt {a b : Int} (ha : InL a) (hb : InL b) : lI a < lI b ↔ a < b := by rw [Int64.lt_iff_toInt_lt, lI_t ha, lI_t hb]
theorem iI_div {a b : Int} (ha : InR a) (hb : InR b) : iI a / iI b = iI (a.tdiv b) :=
  (Int32.ofInt_tdiv (by rw [Int32.toInt_minValue]; have := ha.1; omega) (by rw [Int32.toInt_maxValue]; have := ha.2; omega) (by rw [Int32.toInt_minValue]; have := hb.1; omega) (by rw [Int32.toInt_maxValue]; have := hb.2; omega)).symm
theorem lI_div {a b : Int} (ha : InL a) (hb : InL b) : lI a / lI b = lI (a.tdiv b) :=
  (Int64.ofInt_tdiv (by rw [Int64.toInt_minValue]; have := ha.1; omega) (by rw [Int64.toInt_maxValue]; have := ha.2; omega) (by rw [Int64.toInt_minValue]; have := hb.1; omega) (by rw [Int64.toInt_maxValue]; have := hb.2; omega)).symm
theorem iI_rem {a b : Int} (ha : InR a) (hb : InR b) : iI a - iI a / iI b * iI b = iI (a.tmod b) := by
  rw [iI_div ha hb, iI_mul, iI_sub, Int.tmod_def, Int.mul_comm]
theorem iI_l {a : Int} (ha : InR a) : (iI a).toInt64 = lI a :=
  Int32.toInt64_ofInt (by rw [Int32.toInt_minValue]; have := ha.1; omega) (by rw [Int32.toInt_maxValue]; have := ha.2; omega)
theorem lI_i (a : Int) : (lI a).toInt32 = iI a := Int64.toInt32_ofInt
theorem iI_0 : iI 0 = 0 := rfl
theorem iI_ne0 {a : Int} (ha : InR a) (h : a ≠ 0) : ¬ iI a = 0 := fun h2 => h ((iI_eq ha (by decide)).mp (h2.trans iI_0.symm))
theorem lI_ne0 {a : Int} (ha : InL a) (h : a ≠ 0) : ¬ lI a = 0 := fun h2 => h ((lI_eq ha (by decide)).mp h2)
theorem iI_nat (n : Nat) : Int32.ofNat n = iI (n : Int) := Int32.ofInt_eq_ofNat.symm
theorem iI_in {a : Int} {n : Nat} (h : 0 ≤ a ∧ a < (n : Int)) (hn : n < 2147483648) : vp_in (iI a) n :=
  vp_in_iff.mpr (by rw [iI_t ⟨by omega, by omega⟩]; exact h)
theorem iI_cl {a : Int} (h : InR a) : (iI a).toNatClampNeg = a.toNat := by
  show (iI a).toInt.toNat = _
  rw [iI_t h]
/-! the state: cell, place -/
abbrev uS : Type := Nat → Int → Int
def up (u : uS) (k : Nat) (j v : Int) : uS := fun a b => if a = k ∧ b = j then v else u a b
def upA (u : uS) (k : Nat) (f : Int → Int) : uS := fun a b => if a = k then f b else u a b
theorem up_s (u : uS) (k : Nat) (j v : Int) : up u k j v k j = v := if_pos ⟨rfl, rfl⟩
theorem up_k {u : uS} {k i : Nat} {j v b : Int} (h : i ≠ k) : up u k j v i b = u i b := if_neg fun q => h q.1
theorem up_j {u : uS} {k i : Nat} {j v b : Int} (h : b ≠ j) : up u k j v i b = u i b := if_neg fun q => h q.2
theorem upA_s (u : uS) (k : Nat) (f : Int → Int) (b : Int) : upA u k f k b = f b := if_pos rfl
theorem upA_k {u : uS} {k i : Nat} {f : Int → Int} {b : Int} (h : i ≠ k) : upA u k f i b = u i b := if_neg h
/-! the shapes: by the classes' places in vwCl; 100 int, 101 boolean, 102 byte, 103 long, 104 rows of Situations, 105, 109 the StringBuilders' bytes, 106 rows of Places, 107 rows of Picks, 108 a text's bytes -/
def NN : Nat := 264
def NM : Nat := 358
def shNet : List (Nat × Nat) := [(9, 15), (6, 5), (10, 3), (100, 8), (100, 8), (100, 8), (100, 8), (100, 64), (100, 1152)]
def shSit : List (Nat × Nat) := [(11, 17), (100, 8), (100, 792), (100, 8), (100, 8), (100, 8), (100, 8), (100, 8), (100, 60), (100, 60), (100, 60), (100, 60), (100, 60), (100, 20), (100, 20)]
def shMain : List (Nat × Nat) := [(13, 12), (100, 500), (5, 6), (12, 5), (100, 500), (100, 500), (100, 500), (100, 500), (100, 9), (100, 5)] ++ shNet ++ shNet ++ [(4, 2), (100, 60), (7, 6), (100, 60), (100, 60), (8, 5), (104, 10), (104, 2), (101, 2), (1, 4), (105, 0)]
/-- the law's cells, from 264 on: its Net and rows; places with their samples; a second StringBuilder; a text; rows of a call; picks; a row of one seed -/
def shLaw : List (Nat × Nat) := [(14, 24), (106, 8), (107, 60), (101, 20), (100, 20), (100, 8), (100, 8)] ++ [(16, 7), (100, 400), (16, 7), (100, 400), (16, 7), (100, 400), (16, 7), (100, 400), (16, 7), (100, 400), (16, 7), (100, 400), (16, 7), (100, 400), (16, 7), (100, 400)] ++ [(1, 4), (109, 0), (0, 4), (108, 0), (100, 5), (101, 20), (107, 60)] ++ List.replicate 60 (15, 5) ++ [(100, 2), (100, 60), (100, 8), (100, 1)]
def sh (k : Nat) : Nat × Nat := if k < 54 then shMain.getD k (999, 0) else if k < 264 then shSit.getD ((k - 54) % 15) (999, 0) else shLaw.getD (k - 264) (999, 0)
def sT (k : Nat) : Nat := (sh k).1
def sN (k : Nat) : Nat := (sh k).2
/-- where the rows of Situations begin -/
def sB (k : Nat) : Nat := if k = 34 then 84 else 234
/-- fields by class: 0 a number, 1000 a cell named by the state, else how far behind the object its cell lies -/
def fL (ci : Nat) : List Nat :=
  if ci = 4 then [1, 0] else if ci = 5 then [0, 1, 6, 7, 0, 0] else if ci = 6 then [0, 0, 0, 0, 0] else if ci = 7 then [0, 0, 0, 0, 1, 2] else if ci = 8 then [1, 2, 3, 0, 0]
  else if ci = 9 then [1, 2, 0, 0, 0, 0, 0, 0, 0, 0, 0, 5, 6, 7, 8] else if ci = 10 then [0, 1, 2] else if ci = 11 then [0, 0, 0, 1, 2, 3, 4, 5, 6, 7, 8, 9, 10, 11, 12, 13, 14]
  else if ci = 12 then [0, 1, 2, 3, 4] else if ci = 13 then [1, 0, 0, 2, 1000, 1000, 54, 69, 33, 28, 30, 39]
  else if ci = 14 then [1, 2, 3, 4, 5, 6, 0, 0, 0, 0, 0, 0, 0, 0, 0, 0, 0, 0, 0, 0, 0, 0, 0, 0] else if ci = 15 then [0, 0, 0, 0, 0] else if ci = 16 then [0, 0, 0, 0, 0, 0, 1] else if ci = 1 then [1, 0, 0, 0] else if ci = 0 then [1, 0, 0, 0] else []
def fC (ci j : Nat) : Nat := (fL ci).getD j 0
def fN (ci : Nat) : Nat := (fL ci).length
def gL_ITEMS : List Int := [2, 5, 1, 2, 2, 1, 1, 2, 1]
def gL_MOST : List Int := [8, 1, 1, 1, 1, 1, 1, 8, 1]
def gL_LOWEST : List Int := [0, 0, 0, 0, 0, 0, 0, 1, 1, 1, 1, 0, 0, 0, 0, 1, 1, 0, 0, 0, 1, 0, 0, 0, 0, 1, 0, 0, 0, 0, 0, 0, 0, 0, 0, 0, 0, 0, 0, 0, 0, 0, 0, 0, 0]
def gL_HIGHEST : List Int := [999, 999, 0, 0, 0, 999, 999, 12, 12, 99, 999, 0, 0, 0, 0, 50, 99, 0, 0, 0, 9999, 9999, 0, 0, 0, 8, 0, 0, 0, 0, 99, 0, 0, 0, 0, 9999, 99, 0, 0, 0, 99, 0, 0, 0, 0]
def gL_DigitOnes : List Int := [48, 49, 50, 51, 52, 53, 54, 55, 56, 57, 48, 49, 50, 51, 52, 53, 54, 55, 56, 57, 48, 49, 50, 51, 52, 53, 54, 55, 56, 57, 48, 49, 50, 51, 52, 53, 54, 55, 56, 57, 48, 49, 50, 51, 52, 53, 54, 55, 56, 57, 48, 49, 50, 51, 52, 53, 54, 55, 56, 57, 48, 49, 50, 51, 52, 53, 54, 55, 56, 57, 48, 49, 50, 51, 52, 53, 54, 55, 56, 57, 48, 49, 50, 51, 52, 53, 54, 55, 56, 57, 48, 49, 50, 51, 52, 53, 54, 55, 56, 57]
def gL_DigitTens : List Int := [48, 48, 48, 48, 48, 48, 48, 48, 48, 48, 49, 49, 49, 49, 49, 49, 49, 49, 49, 49, 50, 50, 50, 50, 50, 50, 50, 50, 50, 50, 51, 51, 51, 51, 51, 51, 51, 51, 51, 51, 52, 52, 52, 52, 52, 52, 52, 52, 52, 52, 53, 53, 53, 53, 53, 53, 53, 53, 53, 53, 54, 54, 54, 54, 54, 54, 54, 54, 54, 54, 55, 55, 55, 55, 55, 55, 55, 55, 55, 55, 56, 56, 56, 56, 56, 56, 56, 56, 56, 56, 57, 57, 57, 57, 57, 57, 57, 57, 57, 57]
/-- the texts: their signs -/
def gStr : List (List Int) := [[115, 116, 97, 116, 105, 111, 110], [103, 114, 105, 100], [115, 112, 101, 101, 100], [97, 118, 101, 114, 97, 103, 101], [116, 114, 105, 103, 103, 101, 114], [118, 111, 116, 101, 115], [115, 108, 97, 99, 107], [114, 117, 110, 103], [100, 101, 99, 97, 121], [115, 116, 97, 116, 105, 111, 110, 32], [103, 114, 105, 100, 32], [32], [59, 115, 112, 101, 101, 100, 32], [59, 97, 118, 101, 114, 97, 103, 101, 32], [59, 116, 114, 105, 103, 103, 101, 114, 32], [59, 118, 111, 116, 101, 115, 32], [59, 115, 108, 97, 99, 107, 32], [59, 100, 101, 99, 97, 121, 32], [59], [114, 117, 110, 103, 32]]
/-! X, part c: pure combinators; calls, entry and return over the picture -/
def xlet {α β : Type} (e : α) (f : α → Option β) : Option β := f e
def xgd {β : Type} (c : Prop) [Decidable c] (o : Option β) : Option β := if c then o else none
def xbd {β : Type} (o : Option (Int × uS)) (f : Int → uS → Option β) : Option β := match o with
  | none => none
  | some q => f q.1 q.2
theorem xlet_of {α β : Type} {e : α} {f : α → Option β} {r : β} (h : xlet e f = some r) : ∃ x, x = e ∧ f x = some r := ⟨e, rfl, h⟩
theorem xgd_of {β : Type} {c : Prop} [Decidable c] {o : Option β} {r : β} (h : xgd c o = some r) : c ∧ o = some r := by
  unfold xgd at h
  by_cases hc : c
  · rw [if_pos hc] at h; exact ⟨hc, h⟩
  · rw [if_neg hc] at h; cases h
theorem xgd_t {β : Type} {c : Prop} [Decidable c] {o : Option β} (hc : c) : xgd c o = o := if_pos hc
theorem xbd_of {β : Type} {o : Option (Int × uS)} {f : Int → uS → Option β} {r : β} (h : xbd o f = some r) : ∃ v u, o = some (v, u) ∧ f v u = some r := by
  cases o with
  | none => cases h
  | some q => exact ⟨q.1, q.2, rfl, h⟩
theorem xbd_s {β : Type} {v : Int} {u : uS} {f : Int → uS → Option β} : xbd (some (v, u)) f = f v u := rfl
theorem xif_t {β : Type} {c : Prop} [Decidable c] {A B : Option β} {r : β} (h : (if c then A else B) = some r) (hc : c) : A = some r := by rwa [if_pos hc] at h
theorem xif_f {β : Type} {c : Prop} [Decidable c] {A B : Option β} {r : β} (h : (if c then A else B) = some r) (hc : ¬ c) : B = some r := by rwa [if_neg hc] at h
def FU : Nat := 20000
def xl1 {A β : Type} (F : (A → Option β) → A → Option β) : Nat → A → Option β
  | 0, _ => none
  | n + 1, a => F (xl1 F n) a
def xl2 {A B β : Type} (F : (A → B → Option β) → A → B → Option β) : Nat → A → B → Option β
  | 0, _, _ => none
  | n + 1, a, b => F (xl2 F n) a b
def xl3 {A B C β : Type} (F : (A → B → C → Option β) → A → B → C → Option β) : Nat → A → B → C → Option β
  | 0, _, _, _ => none
  | n + 1, a, b, c => F (xl3 F n) a b c
def xl4 {A B C D β : Type} (F : (A → B → C → D → Option β) → A → B → C → D → Option β) : Nat → A → B → C → D → Option β
  | 0, _, _, _, _ => none
  | n + 1, a, b, c, d => F (xl4 F n) a b c d
def xl5 {A B C D E β : Type} (F : (A → B → C → D → E → Option β) → A → B → C → D → E → Option β) : Nat → A → B → C → D → E → Option β
  | 0, _, _, _, _, _ => none
  | n + 1, a, b, c, d, e => F (xl5 F n) a b c d e
def xl6 {A B C D E G β : Type} (F : (A → B → C → D → E → G → Option β) → A → B → C → D → E → G → Option β) : Nat → A → B → C → D → E → G → Option β
  | 0, _, _, _, _, _, _ => none
  | n + 1, a, b, c, d, e, g => F (xl6 F n) a b c d e g
theorem xl1_W {A β : Type} {F : (A → Option β) → A → Option β} (P : A → β → Prop) (hF : ∀ go, (∀ a r, go a = some r → P a r) → ∀ a r, F go a = some r → P a r) : ∀ n a r, xl1 F n a = some r → P a r := by
  intro n
  induction n with
  | zero => intro a r h; cases h
  | succ n ih => intro a r h; exact hF _ ih a r h
theorem xl2_W {A B β : Type} {F : (A → B → Option β) → A → B → Option β} (P : A → B → β → Prop) (hF : ∀ go, (∀ a b r, go a b = some r → P a b r) → ∀ a b r, F go a b = some r → P a b r) : ∀ n a b r, xl2 F n a b = some r → P a b r := by
  intro n
  induction n with
  | zero => intro a b r h; cases h
  | succ n ih => intro a b r h; exact hF _ ih a b r h
theorem xl3_W {A B C β : Type} {F : (A → B → C → Option β) → A → B → C → Option β} (P : A → B → C → β → Prop) (hF : ∀ go, (∀ a b c r, go a b c = some r → P a b c r) → ∀ a b c r, F go a b c = some r → P a b c r) : ∀ n a b c r, xl3 F n a b c = some r → P a b c r := by
  intro n
  induction n with
  | zero => intro a b c r h; cases h
  | succ n ih => intro a b c r h; exact hF _ ih a b c r h
theorem xl4_W {A B C D β : Type} {F : (A → B → C → D → Option β) → A → B → C → D → Option β} (P : A → B → C → D → β → Prop) (hF : ∀ go, (∀ a b c d r, go a b c d = some r → P a b c d r) → ∀ a b c d r, F go a b c d = some r → P a b c d r) : ∀ n a b c d r, xl4 F n a b c d = some r → P a b c d r := by
  intro n
  induction n with
  | zero => intro a b c d r h; cases h
  | succ n ih => intro a b c d r h; exact hF _ ih a b c d r h
theorem xl5_W {A B C D E β : Type} {F : (A → B → C → D → E → Option β) → A → B → C → D → E → Option β} (P : A → B → C → D → E → β → Prop) (hF : ∀ go, (∀ a b c d e r, go a b c d e = some r → P a b c d e r) → ∀ a b c d e r, F go a b c d e = some r → P a b c d e r) : ∀ n a b c d e r, xl5 F n a b c d e = some r → P a b c d e r := by
  intro n
  induction n with
  | zero => intro a b c d e r h; cases h
  | succ n ih => intro a b c d e r h; exact hF _ ih a b c d e r h
theorem xl6_W {A B C D E G β : Type} {F : (A → B → C → D → E → G → Option β) → A → B → C → D → E → G → Option β} (P : A → B → C → D → E → G → β → Prop) (hF : ∀ go, (∀ a b c d e g r, go a b c d e g = some r → P a b c d e g r) → ∀ a b c d e g r, F go a b c d e g = some r → P a b c d e g r) : ∀ n a b c d e g r, xl6 F n a b c d e g = some r → P a b c d e g r := by
  intro n
  induction n with
  | zero => intro a b c d e g r h; cases h
  | succ n ih => intro a b c d e g r h; exact hF _ ih a b c d e g r h
/-! X, part d: the rest of the rows; shapes of fields -/
theorem xlet_at {α β : Type} {e x : α} {f : α → Option β} {r : β} (hx : x = e) (h : xlet e f = some r) : f x = some r := by rw [hx]; exact h
def cmpL (a b : Int) : Int := if b < a then 1 else if a = b then 0 else -1
theorem inR_cmp (a b : Int) : InR (cmpL a b) := by
  unfold cmpL
  by_cases h1 : b < a
  · rw [if_pos h1]; decide
  · rw [if_neg h1]
    by_cases h2 : a = b
    · rw [if_pos h2]; decide
    · rw [if_neg h2]; decide
def minI (a b : Int) : Int := if a ≤ b then a else b
def maxI (a b : Int) : Int := if a < b then b else a
def absI (a : Int) : Int := if 0 ≤ a then a else 0 - a
def orI (a b : Int) : Int := (iI a ||| iI b).toInt
def nar8 (a : Int) : Int := (a + 128) % 256 - 128
def shlI (a b : Int) : Int := a * 2 ^ b.toNat
def shrI (a b : Int) : Int := a / 2 ^ b.toNat
/-- what arraycopy from place 0 to place 0 makes of the target -/
def cpyI (f g : Int → Int) (n : Int) : Int → Int := fun j => if 0 ≤ j ∧ j < n then f j else g j
theorem sN_lt (k : Nat) : sN k < 2147483648 := by
  have h1 : ∀ k, k < 54 → (shMain.getD k (999, 0)).2 < 2147483648 := by decide +kernel
  have h2 : ∀ k, k < 15 → (shSit.getD k (999, 0)).2 < 2147483648 := by decide +kernel
  have h4 : ∀ k, k < 94 → (shLaw.getD k (999, 0)).2 < 2147483648 := by decide +kernel
  unfold sN sh
  by_cases h : k < 54
  · rw [if_pos h]; exact h1 k h
  · rw [if_neg h]
    by_cases h3 : k < 264
    · rw [if_pos h3]; exact h2 _ (Nat.mod_lt _ (by decide))
    · rw [if_neg h3]
      by_cases h5 : k - 264 < 94
      · exact h4 _ h5
      · have hl : shLaw.length = 94 := by decide +kernel
        rw [List.getD_eq_getElem?_getD, List.getElem?_eq_none (by omega)]
        decide
theorem arr_f {k : Nat} (h : k < NN ∧ sT k = 100) : k < NN ∧ sT k = 100 ∧ sN k = sN k := ⟨h.1, h.2, rfl⟩
def xbt {β : Type} (o : Option (Nat × Int × uS)) (f : Int → uS → Option β) (x : Nat → uS → Option β) : Option β := match o with
  | none => none
  | some q => if q.1 = 0 then f q.2.1 q.2.2 else x q.1 q.2.2
theorem xbt_of {β : Type} {o : Option (Nat × Int × uS)} {f : Int → uS → Option β} {x : Nat → uS → Option β} {r : β} (h : xbt o f x = some r) : ∃ g v u, o = some (g, v, u) ∧ ((g = 0 ∧ f v u = some r) ∨ (g ≠ 0 ∧ x g u = some r)) := by
  cases o with
  | none => cases h
  | some q =>
    refine ⟨q.1, q.2.1, q.2.2, rfl, ?_⟩
    by_cases hg : q.1 = 0
    · exact Or.inl ⟨hg, by simpa only [xbt, hg, if_true] using h⟩
    · exact Or.inr ⟨hg, by simpa only [xbt, hg, if_false] using h⟩
theorem xbt_0 {β : Type} {v : Int} {u : uS} {f : Int → uS → Option β} {x : Nat → uS → Option β} : xbt (some (0, v, u)) f x = f v u := rfl
/-! X, part f: strings that the class files hold: string k is the cell 2000 + k, its signs gStr[k] -/
def strL (k : Nat) : List Int := gStr.getD (k - 2000) []
theorem strL_b : ∀ k, k < 20 → ∀ x ∈ gStr.getD k [], 0 ≤ x ∧ x < 128 := by decide +kernel
theorem strL_n : ∀ k, k < 20 → (gStr.getD k []).length < 100 := by decide +kernel
abbrev sbOk (u : uS) : Prop := 0 ≤ u 1000 1 ∧ u 1000 1 < 1000 ∧ ∀ j : Nat, j < (u 1000 1).toNat → -128 ≤ u 38 (j : Int) ∧ u 38 (j : Int) < 128
/-- the state once the bytes have grown to n -/
def grown (u : uS) (n : Int) : uS := fun a i => if a = 1000 ∧ i = 1 then n else if a = 38 then (if i < u 1000 1 then u 38 i else 0) else u a i
