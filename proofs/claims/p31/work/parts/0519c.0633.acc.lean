/-! pure part, 3: what a cell shows, by name (written by acc.py) -/
theorem MS.t {u V : uS} (h : MS u V) : u 41 (0) = V 0 0 := h 0 0 (by unfold vd; omega)
theorem MSo.t {u V : uS} {c : Nat} {o : Int} (h : MSo u c o V) : u c (o + (0)) = V 0 0 := h 0 0 (by unfold vd; omega)
theorem CV.t {u V : uS} {k : Nat} (h : CV u k V) : u k 0 = V 0 0 := h 0 0 (by unfold vd; omega)
theorem MS.n {u V : uS} (h : MS u V) : u 41 (1) = V 0 1 := h 0 1 (by unfold vd; omega)
theorem MSo.n {u V : uS} {c : Nat} {o : Int} (h : MSo u c o V) : u c (o + (1)) = V 0 1 := h 0 1 (by unfold vd; omega)
theorem CV.n {u V : uS} {k : Nat} (h : CV u k V) : u k 1 = V 0 1 := h 0 1 (by unfold vd; omega)
theorem MS.e {u V : uS} (h : MS u V) : u 41 (2) = V 0 2 := h 0 2 (by unfold vd; omega)
theorem MSo.e {u V : uS} {c : Nat} {o : Int} (h : MSo u c o V) : u c (o + (2)) = V 0 2 := h 0 2 (by unfold vd; omega)
theorem CV.e {u V : uS} {k : Nat} (h : CV u k V) : u k 2 = V 0 2 := h 0 2 (by unfold vd; omega)
theorem MS.lv {u V : uS} (h : MS u V) {s : Int} (h0 : 0 ≤ s) (h1 : s < 8) : u 41 (3 + 4 * s + 0) = V 1 s := h 1 s (by unfold vd; omega)
theorem MSo.lv {u V : uS} {c : Nat} {o : Int} (h : MSo u c o V) {s : Int} (h0 : 0 ≤ s) (h1 : s < 8) : u c (o + (3 + 4 * s + 0)) = V 1 s := h 1 s (by unfold vd; omega)
theorem CV.lv {u V : uS} {k : Nat} (h : CV u k V) {s : Int} (h0 : 0 ≤ s) (h1 : s < 8) : u (k + 1) s = V 1 s := h 1 s (by unfold vd; omega)
theorem MS.on {u V : uS} (h : MS u V) {s : Int} (h0 : 0 ≤ s) (h1 : s < 8) : u 41 (3 + 4 * s + 1) = V 5 s := h 5 s (by unfold vd; omega)
theorem MSo.on {u V : uS} {c : Nat} {o : Int} (h : MSo u c o V) {s : Int} (h0 : 0 ≤ s) (h1 : s < 8) : u c (o + (3 + 4 * s + 1)) = V 5 s := h 5 s (by unfold vd; omega)
theorem CV.on {u V : uS} {k : Nat} (h : CV u k V) {s : Int} (h0 : 0 ≤ s) (h1 : s < 8) : u (k + 5) s = V 5 s := h 5 s (by unfold vd; omega)
theorem MS.mu {u V : uS} (h : MS u V) {s : Int} (h0 : 0 ≤ s) (h1 : s < 8) : u 41 (3 + 4 * s + 2) = V 6 s := h 6 s (by unfold vd; omega)
theorem MSo.mu {u V : uS} {c : Nat} {o : Int} (h : MSo u c o V) {s : Int} (h0 : 0 ≤ s) (h1 : s < 8) : u c (o + (3 + 4 * s + 2)) = V 6 s := h 6 s (by unfold vd; omega)
theorem CV.mu {u V : uS} {k : Nat} (h : CV u k V) {s : Int} (h0 : 0 ≤ s) (h1 : s < 8) : u (k + 6) s = V 6 s := h 6 s (by unfold vd; omega)
theorem MS.la {u V : uS} (h : MS u V) {s : Int} (h0 : 0 ≤ s) (h1 : s < 8) : u 41 (3 + 4 * s + 3) = V 7 s := h 7 s (by unfold vd; omega)
theorem MSo.la {u V : uS} {c : Nat} {o : Int} (h : MSo u c o V) {s : Int} (h0 : 0 ≤ s) (h1 : s < 8) : u c (o + (3 + 4 * s + 3)) = V 7 s := h 7 s (by unfold vd; omega)
theorem CV.la {u V : uS} {k : Nat} (h : CV u k V) {s : Int} (h0 : 0 ≤ s) (h1 : s < 8) : u (k + 7) s = V 7 s := h 7 s (by unfold vd; omega)
theorem MS.sm {u V : uS} (h : MS u V) {s : Int} (h0 : 0 ≤ s) (h1 : s < 792) : u 41 (35 + s) = V 2 s := h 2 s (by unfold vd; omega)
theorem MSo.sm {u V : uS} {c : Nat} {o : Int} (h : MSo u c o V) {s : Int} (h0 : 0 ≤ s) (h1 : s < 792) : u c (o + (35 + s)) = V 2 s := h 2 s (by unfold vd; omega)
theorem CV.sm {u V : uS} {k : Nat} (h : CV u k V) {s : Int} (h0 : 0 ≤ s) (h1 : s < 792) : u (k + 2) s = V 2 s := h 2 s (by unfold vd; omega)
theorem MS.ps {u V : uS} (h : MS u V) {s : Int} (h0 : 0 ≤ s) (h1 : s < V 0 1) : u 41 (827 + 5 * s + 0) = V 8 s := h 8 s (by unfold vd; omega)
theorem MSo.ps {u V : uS} {c : Nat} {o : Int} (h : MSo u c o V) {s : Int} (h0 : 0 ≤ s) (h1 : s < V 0 1) : u c (o + (827 + 5 * s + 0)) = V 8 s := h 8 s (by unfold vd; omega)
theorem CV.ps {u V : uS} {k : Nat} (h : CV u k V) {s : Int} (h0 : 0 ≤ s) (h1 : s < V 0 1) : u (k + 8) s = V 8 s := h 8 s (by unfold vd; omega)
theorem MS.pt {u V : uS} (h : MS u V) {s : Int} (h0 : 0 ≤ s) (h1 : s < V 0 1) : u 41 (827 + 5 * s + 1) = V 9 s := h 9 s (by unfold vd; omega)
theorem MSo.pt {u V : uS} {c : Nat} {o : Int} (h : MSo u c o V) {s : Int} (h0 : 0 ≤ s) (h1 : s < V 0 1) : u c (o + (827 + 5 * s + 1)) = V 9 s := h 9 s (by unfold vd; omega)
theorem CV.pt {u V : uS} {k : Nat} (h : CV u k V) {s : Int} (h0 : 0 ≤ s) (h1 : s < V 0 1) : u (k + 9) s = V 9 s := h 9 s (by unfold vd; omega)
theorem MS.pp {u V : uS} (h : MS u V) {s : Int} (h0 : 0 ≤ s) (h1 : s < V 0 1) : u 41 (827 + 5 * s + 2) = V 10 s := h 10 s (by unfold vd; omega)
theorem MSo.pp {u V : uS} {c : Nat} {o : Int} (h : MSo u c o V) {s : Int} (h0 : 0 ≤ s) (h1 : s < V 0 1) : u c (o + (827 + 5 * s + 2)) = V 10 s := h 10 s (by unfold vd; omega)
theorem CV.pp {u V : uS} {k : Nat} (h : CV u k V) {s : Int} (h0 : 0 ≤ s) (h1 : s < V 0 1) : u (k + 10) s = V 10 s := h 10 s (by unfold vd; omega)
theorem MS.pe {u V : uS} (h : MS u V) {s : Int} (h0 : 0 ≤ s) (h1 : s < V 0 1) : u 41 (827 + 5 * s + 3) = V 11 s := h 11 s (by unfold vd; omega)
theorem MSo.pe {u V : uS} {c : Nat} {o : Int} (h : MSo u c o V) {s : Int} (h0 : 0 ≤ s) (h1 : s < V 0 1) : u c (o + (827 + 5 * s + 3)) = V 11 s := h 11 s (by unfold vd; omega)
theorem CV.pe {u V : uS} {k : Nat} (h : CV u k V) {s : Int} (h0 : 0 ≤ s) (h1 : s < V 0 1) : u (k + 11) s = V 11 s := h 11 s (by unfold vd; omega)
theorem MS.pr {u V : uS} (h : MS u V) {s : Int} (h0 : 0 ≤ s) (h1 : s < V 0 1) : u 41 (827 + 5 * s + 4) = V 12 s := h 12 s (by unfold vd; omega)
theorem MSo.pr {u V : uS} {c : Nat} {o : Int} (h : MSo u c o V) {s : Int} (h0 : 0 ≤ s) (h1 : s < V 0 1) : u c (o + (827 + 5 * s + 4)) = V 12 s := h 12 s (by unfold vd; omega)
theorem CV.pr {u V : uS} {k : Nat} (h : CV u k V) {s : Int} (h0 : 0 ≤ s) (h1 : s < V 0 1) : u (k + 12) s = V 12 s := h 12 s (by unfold vd; omega)
theorem MS.dc {u V : uS} (h : MS u V) {s : Int} (h0 : 0 ≤ s) (h1 : s < V 0 2) : u 41 (1127 + 2 * s + 1) = V 13 s := h 13 s (by unfold vd; omega)
theorem MSo.dc {u V : uS} {c : Nat} {o : Int} (h : MSo u c o V) {s : Int} (h0 : 0 ≤ s) (h1 : s < V 0 2) : u c (o + (1127 + 2 * s + 1)) = V 13 s := h 13 s (by unfold vd; omega)
theorem CV.dc {u V : uS} {k : Nat} (h : CV u k V) {s : Int} (h0 : 0 ≤ s) (h1 : s < V 0 2) : u (k + 13) s = V 13 s := h 13 s (by unfold vd; omega)
theorem MS.re {u V : uS} (h : MS u V) {s : Int} (h0 : 0 ≤ s) (h1 : s < V 0 2) : u 41 (1127 + 2 * s) = V 14 s := h 14 s (by unfold vd; omega)
theorem MSo.re {u V : uS} {c : Nat} {o : Int} (h : MSo u c o V) {s : Int} (h0 : 0 ≤ s) (h1 : s < V 0 2) : u c (o + (1127 + 2 * s)) = V 14 s := h 14 s (by unfold vd; omega)
theorem CV.re {u V : uS} {k : Nat} (h : CV u k V) {s : Int} (h0 : 0 ≤ s) (h1 : s < V 0 2) : u (k + 14) s = V 14 s := h 14 s (by unfold vd; omega)
theorem vd_lim {a b : Int} {j : Nat} {s : Int} (h : vd a b j s) (ha : a ≤ 60) (hb : b ≤ 20) : vd 60 20 j s := by unfold vd at *; omega
theorem ix_lim {j : Nat} {s : Int} (h : vd 60 20 j s) : 0 ≤ ix j s ∧ ix j s < 1167 := by
  unfold vd at h
  rcases h with ⟨h0, ⟨rfl, h⟩ | ⟨rfl | rfl | rfl | rfl, h⟩ | ⟨rfl, h⟩ | ⟨⟨h1, h2⟩, h⟩ | ⟨rfl | rfl, h⟩⟩
  · show 0 ≤ s ∧ s < 1167; omega
  · show 0 ≤ 3 + 4 * s + 0 ∧ 3 + 4 * s + 0 < 1167; omega
  · show 0 ≤ 3 + 4 * s + 1 ∧ 3 + 4 * s + 1 < 1167; omega
  · show 0 ≤ 3 + 4 * s + 2 ∧ 3 + 4 * s + 2 < 1167; omega
  · show 0 ≤ 3 + 4 * s + 3 ∧ 3 + 4 * s + 3 < 1167; omega
  · show 0 ≤ 35 + s ∧ 35 + s < 1167; omega
  · have h3 : j = 8 ∨ j = 9 ∨ j = 10 ∨ j = 11 ∨ j = 12 := by omega
    rcases h3 with rfl | rfl | rfl | rfl | rfl
    · show 0 ≤ 827 + 5 * s + 0 ∧ 827 + 5 * s + 0 < 1167; omega
    · show 0 ≤ 827 + 5 * s + 1 ∧ 827 + 5 * s + 1 < 1167; omega
    · show 0 ≤ 827 + 5 * s + 2 ∧ 827 + 5 * s + 2 < 1167; omega
    · show 0 ≤ 827 + 5 * s + 3 ∧ 827 + 5 * s + 3 < 1167; omega
    · show 0 ≤ 827 + 5 * s + 4 ∧ 827 + 5 * s + 4 < 1167; omega
  · show 0 ≤ 1127 + 2 * s + 1 ∧ 1127 + 2 * s + 1 < 1167; omega
  · show 0 ≤ 1127 + 2 * s ∧ 1127 + 2 * s < 1167; omega
/-- the field of a place, and where in it: ix backwards -/
def jx (i : Int) : Nat := if i < 3 then 0 else if i < 35 then (if (i - 3) % 4 = 0 then 1 else if (i - 3) % 4 = 1 then 5 else if (i - 3) % 4 = 2 then 6 else 7) else if i < 827 then 2
  else if i < 1127 then (8 + ((i - 827) % 5).toNat) else if (i - 1127) % 2 = 0 then 14 else 13
def sx (i : Int) : Int := if i < 3 then i else if i < 35 then (i - 3) / 4 else if i < 827 then i - 35 else if i < 1127 then (i - 827) / 5 else (i - 1127) / 2
theorem ix_inv {j : Nat} {s : Int} (h : vd 60 20 j s) : jx (ix j s) = j ∧ sx (ix j s) = s := by
  unfold vd at h
  rcases h with ⟨h0, ⟨rfl, h⟩ | ⟨rfl | rfl | rfl | rfl, h⟩ | ⟨rfl, h⟩ | ⟨⟨h1, h2⟩, h⟩ | ⟨rfl | rfl, h⟩⟩
  · show jx (s) = 0 ∧ sx (s) = s; unfold jx sx; constructor <;> (repeat' split) <;> omega
  · show jx (3 + 4 * s + 0) = 1 ∧ sx (3 + 4 * s + 0) = s; unfold jx sx; constructor <;> (repeat' split) <;> omega
  · show jx (3 + 4 * s + 1) = 5 ∧ sx (3 + 4 * s + 1) = s; unfold jx sx; constructor <;> (repeat' split) <;> omega
  · show jx (3 + 4 * s + 2) = 6 ∧ sx (3 + 4 * s + 2) = s; unfold jx sx; constructor <;> (repeat' split) <;> omega
  · show jx (3 + 4 * s + 3) = 7 ∧ sx (3 + 4 * s + 3) = s; unfold jx sx; constructor <;> (repeat' split) <;> omega
  · show jx (35 + s) = 2 ∧ sx (35 + s) = s; unfold jx sx; constructor <;> (repeat' split) <;> omega
  · have h3 : j = 8 ∨ j = 9 ∨ j = 10 ∨ j = 11 ∨ j = 12 := by omega
    rcases h3 with rfl | rfl | rfl | rfl | rfl
    · show jx (827 + 5 * s + 0) = 8 ∧ sx (827 + 5 * s + 0) = s; unfold jx sx; constructor <;> (repeat' split) <;> omega
    · show jx (827 + 5 * s + 1) = 9 ∧ sx (827 + 5 * s + 1) = s; unfold jx sx; constructor <;> (repeat' split) <;> omega
    · show jx (827 + 5 * s + 2) = 10 ∧ sx (827 + 5 * s + 2) = s; unfold jx sx; constructor <;> (repeat' split) <;> omega
    · show jx (827 + 5 * s + 3) = 11 ∧ sx (827 + 5 * s + 3) = s; unfold jx sx; constructor <;> (repeat' split) <;> omega
    · show jx (827 + 5 * s + 4) = 12 ∧ sx (827 + 5 * s + 4) = s; unfold jx sx; constructor <;> (repeat' split) <;> omega
  · show jx (1127 + 2 * s + 1) = 13 ∧ sx (1127 + 2 * s + 1) = s; unfold jx sx; constructor <;> (repeat' split) <;> omega
  · show jx (1127 + 2 * s) = 14 ∧ sx (1127 + 2 * s) = s; unfold jx sx; constructor <;> (repeat' split) <;> omega
theorem ix_inj {j j' : Nat} {s s' : Int} (h : vd 60 20 j s) (h' : vd 60 20 j' s') (e : ix j s = ix j' s') : j = j' ∧ s = s' := by
  have h1 := ix_inv h
  have h2 := ix_inv h'
  rw [e] at h1
  exact ⟨h1.1.symm.trans h2.1, h1.2.symm.trans h2.2⟩
/-! stores -/
theorem VE.upM {a b : Int} {u V : uS} {c : Nat} (h : VE a b (fun j s => u c (ix j s)) V) (ha : a ≤ 60) (hb : b ≤ 20) {j : Nat} {s v i : Int} (hv : vd 60 20 j s) (hi : i = ix j s) : VE a b (fun j s => (up u c i v) c (ix j s)) (up V j s v) := by
  intro j' s' h'
  show up u c i v c (ix j' s') = up V j s v j' s'
  subst hi
  unfold up
  by_cases e : ix j' s' = ix j s
  · obtain ⟨e1, e2⟩ := ix_inj (vd_lim h' ha hb) hv e
    rw [if_pos ⟨rfl, e⟩, if_pos ⟨e1, e2⟩]
  · rw [if_neg (fun q => e q.2), if_neg (fun q => e (by rw [q.1, q.2]))]
    exact h j' s' h'
theorem VE.upC {a b : Int} {u V : uS} {k : Nat} (h : VE a b (fun j s => u (k + j) s) V) {j0 : Nat} {s0 v : Int} : VE a b (fun j s => (up u (k + j0) s0 v) (k + j) s) (up V j0 s0 v) := by
  intro j' s' h'
  show up u (k + j0) s0 v (k + j') s' = up V j0 s0 v j' s'
  unfold up
  by_cases e : j' = j0 ∧ s' = s0
  · rw [if_pos ⟨by omega, e.2⟩, if_pos e]
  · rw [if_neg (fun q => e ⟨by omega, q.2⟩), if_neg e]
    exact h j' s' h'
/-- other rows don't matter -/
theorem VE.row {a b : Int} {u u' V : uS} {c : Nat} {o : Int} (h : VE a b (fun j s => u c (o + ix j s)) V) (e : u' c = u c) : VE a b (fun j s => u' c (o + ix j s)) V := by rw [e]; exact h
theorem MS.row {u u' V : uS} (h : MS u V) (e : u' 41 = u 41) : MS u' V := by unfold MS; rw [e]; exact h
theorem MSo.row {u u' V : uS} {c : Nat} {o : Int} (h : MSo u c o V) (e : u' c = u c) : MSo u' c o V := by unfold MSo; rw [e]; exact h
theorem MN.row {u u' N : uS} (h : MN u N) (e : ∀ c, 42 ≤ c → c ≤ 46 → u' c = u c) : MN u' N := by
  unfold MN at *
  rw [e 42 (by omega) (by omega), e 43 (by omega) (by omega), e 44 (by omega) (by omega), e 45 (by omega) (by omega), e 46 (by omega) (by omega)]; exact h
theorem CV.row {u u' V : uS} {k : Nat} (h : CV u k V) (e : ∀ j, j < 15 → u' (k + j) = u (k + j)) : CV u' k V := fun j s hv => by
  have hj : j < 15 := by unfold vd at hv; omega
  show u' (k + j) s = _
  rw [e j hj]; exact h j s hv
theorem CS.row {N u u' V : uS} {k : Nat} (h : CS N u k V) (e : ∀ j, j < 15 → u' (k + j) = u (k + j)) : CS N u' k V := by
  refine ⟨h.1, h.2.1.row e, fun s h0 h1 => ?_⟩
  rw [e 3 (by omega), e 4 (by omega)]; exact h.2.2 s h0 h1
theorem CN.row {N u u' : uS} {k : Nat} (h : CN u k N) (e : ∀ j, j < 9 → u' (k + j) = u (k + j)) : CN u' k N := by
  unfold CN at *
  rw [show u' k = u k from e 0 (by omega), e 1 (by omega), e 2 (by omega), e 3 (by omega), e 4 (by omega), e 5 (by omega), e 6 (by omega), e 7 (by omega), e 8 (by omega)]; exact h
theorem up_c {u : uS} {k c : Nat} {j v : Int} (h : c ≠ k) : up u k j v c = u c := by funext b; exact up_k h
theorem upA_c {u : uS} {k c : Nat} {f : Int → Int} (h : c ≠ k) : upA u k f c = u c := by funext b; exact upA_k h
