/-! L, part d: the one picture, once all objects are made -/
def ord12 : Nat → List Nat
  | 0 => []
  | n + 1 => ord12 n ++ [84 + 15 * n + 0, 84 + 15 * n + 1, 84 + 15 * n + 2, 84 + 15 * n + 3, 84 + 15 * n + 4, 84 + 15 * n + 5, 84 + 15 * n + 6, 84 + 15 * n + 7, 84 + 15 * n + 8, 84 + 15 * n + 9, 84 + 15 * n + 10, 84 + 15 * n + 11, 84 + 15 * n + 12, 84 + 15 * n + 13, 84 + 15 * n + 14]
def ordW : List Nat := ((0 :: ((((((((([1] ++ [2, 3, 4, 5, 6, 7, 8, 9]) ++ [10, 11, 12, 13, 14, 15, 16, 17, 18]) ++ [19, 20, 21, 22, 23, 24, 25, 26, 27]) ++ [54, 55, 56, 57, 58, 59, 60, 61, 62, 63, 64, 65, 66, 67, 68]) ++ [69, 70, 71, 72, 73, 74, 75, 76, 77, 78, 79, 80, 81, 82, 83]) ++ (33 :: 34 :: 35 :: 36 :: ord12 12)) ++ [28, 29]) ++ [30, 31, 32]) ++ [37, 38])) ++ [40, 41, 42, 43, 44, 45, 46, 47, 48, 49, 50, 51, 52, 53]) ++ [39]
theorem ordW_at : ∀ k, k < 264 → ordW[ordW.idxOf k]? = some k := by decide +kernel
def gW (t : gP) : va_W := ordW.map (fun k => (t.2.2.1 k, gE t u0 k))
theorem gW_at {t : gP} {k : Nat} (hk : k < 264) : (gW t)[ordW.idxOf k]? = some (t.2.2.1 k, gE t u0 k) := by
  unfold gW
  rw [List.getElem?_map, ordW_at k hk]
  rfl
theorem G_start {t : gP} {H : Heap} (hP : va_P t.1 vwCl (gW t) H) (hD : va_D (gA t) (gW t)) : G t u0 H := by
  refine ⟨fun k hk => hP _ _ (gW_at hk), fun i j hi hj h => ?_, fun k hk => hD.2 _ _ (gW_at hk)⟩
  have h1 := hD.1 _ _ _ _ (gW_at hi) (gW_at hj) h
  have h2 := ordW_at i hi
  rw [h1, ordW_at j hj] at h2
  exact (Option.some.inj h2).symm
theorem td_eq (j : Nat) : tdF (j : Int) = u0 42 (j : Int) := by
  by_cases h : j < 30
  · exact (by decide +kernel : ∀ j : Nat, j < 30 → tdF (j : Int) = u0 42 (j : Int)) j h
  · have e : u0 42 (j : Int) = if 0 ≤ (j : Int) ∧ (j : Int) < 30 then dN 0 ((j : Int) % 15) else 0 := rfl
    rw [e, if_neg (by omega)]
    unfold tdF lfF
    rw [if_neg (by omega)]
    unfold cdF fU
    repeat rw [if_neg (by omega)]
theorem gE_42 (t : gP) : iA t 30 tdF = gE t u0 42 := by
  rw [gE_a (g := 100) (by decide) (by decide)]
  unfold iA
  have h : (fun j : Nat => iI (tdF (j : Int))) = fun j : Nat => iI (u0 42 (j : Int)) := by funext j; rw [td_eq]
  rw [h]
  rfl
def gF (t : gP) (k : Nat) : Nat × va_E := (t.2.2.1 k, gE t u0 k)
theorem blk_gr (t : gP) : grW t (fun j => t.2.2.1 (2 + j)) = [2, 3, 4, 5, 6, 7, 8, 9].map (gF t) := rfl
theorem blk_na (t : gP) : netW t (fun j => t.2.2.1 (10 + j)) = [10, 11, 12, 13, 14, 15, 16, 17, 18].map (gF t) := rfl
theorem blk_nb (t : gP) : netW t (fun j => t.2.2.1 (19 + j)) = [19, 20, 21, 22, 23, 24, 25, 26, 27].map (gF t) := rfl
theorem blk_s0 (t : gP) : sitW t (fun j => t.2.2.1 (54 + j)) = [54, 55, 56, 57, 58, 59, 60, 61, 62, 63, 64, 65, 66, 67, 68].map (gF t) := rfl
theorem blk_s1 (t : gP) : sitW t (fun j => t.2.2.1 (69 + j)) = [69, 70, 71, 72, 73, 74, 75, 76, 77, 78, 79, 80, 81, 82, 83].map (gF t) := rfl
theorem blk_x0 (t : gP) : x0W t (fun j => t.2.2.1 (28 + j)) = [28, 29].map (gF t) := rfl
theorem blk_x3 (t : gP) : x3W t (fun j => t.2.2.1 (30 + j)) = [30, 31, 32].map (gF t) := rfl
theorem blk_j (t : gP) : jW t (fun j => t.2.2.1 (37 + j)) = [37, 38].map (gF t) := rfl
theorem blk_0 (t : gP) : ((t.2.2.1 0, .inr (13, [.ref (t.2.2.1 1), .int (iI 0), .int (iI (-1)), .ref (t.2.2.1 2), .ref (t.2.2.1 10), .ref (t.2.2.1 19), .ref (t.2.2.1 54), .ref (t.2.2.1 69), .ref (t.2.2.1 33), .ref (t.2.2.1 28), .ref (t.2.2.1 30), .ref (t.2.2.1 37)])) : Nat × va_E) = gF t 0 := rfl
theorem blk_1 (t : gP) : ([(t.2.2.1 1, .inl (t.2.1 100, (500, .inl (fun _ => 0))))] : va_W) = [1].map (gF t) := rfl
theorem sit_nn (t : gP) : ∀ n, n < 12 → sitW t (fun j => t.2.2.1 (84 + 15 * n + j)) = [84 + 15 * n + 0, 84 + 15 * n + 1, 84 + 15 * n + 2, 84 + 15 * n + 3, 84 + 15 * n + 4, 84 + 15 * n + 5, 84 + 15 * n + 6, 84 + 15 * n + 7, 84 + 15 * n + 8, 84 + 15 * n + 9, 84 + 15 * n + 10, 84 + 15 * n + 11, 84 + 15 * n + 12, 84 + 15 * n + 13, 84 + 15 * n + 14].map (gF t)
  | 0, _ => rfl
  | 1, _ => rfl
  | 2, _ => rfl
  | 3, _ => rfl
  | 4, _ => rfl
  | 5, _ => rfl
  | 6, _ => rfl
  | 7, _ => rfl
  | 8, _ => rfl
  | 9, _ => rfl
  | 10, _ => rfl
  | 11, _ => rfl
  | n + 12, h => absurd h (by omega)
theorem sits12 (t : gP) : sitsW t (fun i j => t.2.2.1 (84 + 15 * i + j)) 12 = (ord12 12).map (gF t) := by
  have h : ∀ n, n ≤ 12 → sitsW t (fun i j => t.2.2.1 (84 + 15 * i + j)) n = (ord12 n).map (gF t) := by
    intro n
    induction n with
    | zero => intro _; rfl
    | succ n ih =>
      intro hn
      show sitsW t (fun i j => t.2.2.1 (84 + 15 * i + j)) n ++ sitW t (fun j => t.2.2.1 (84 + 15 * n + j)) = (ord12 n ++ _).map (gF t)
      rw [List.map_append, ih (by omega), sit_nn t n (by omega)]
  exact h 12 (Nat.le_refl _)
theorem P_app {D : va_G} {cl : List vw_C} {H : Heap} {a b : va_W} : va_P D cl (a ++ b) H ↔ va_P D cl a H ∧ va_P D cl b H := by
  refine ⟨fun h => ⟨fun k x hx => h k x ?_, fun k x hx => h (a.length + k) x ?_⟩, fun h k x hx => ?_⟩
  · rw [List.getElem?_append_left (List.getElem?_eq_some_iff.mp hx).1]; exact hx
  · rw [List.getElem?_append_right (Nat.le_add_right _ _), Nat.add_sub_cancel_left]; exact hx
  · rcases List.mem_append.mp (List.mem_of_getElem? hx) with h1 | h1
    · obtain ⟨i, hi⟩ := List.getElem?_of_mem h1
      exact h.1 i x hi
    · obtain ⟨i, hi⟩ := List.getElem?_of_mem h1
      exact h.2 i x hi
theorem P_cons {D : va_G} {cl : List vw_C} {H : Heap} {x : Nat × va_E} {b : va_W} : va_P D cl (x :: b) H ↔ va_at D cl x H ∧ va_P D cl b H := by
  rw [show x :: b = [x] ++ b from rfl, P_app]
  refine ⟨fun h => ⟨h.1 0 x rfl, h.2⟩, fun h => ⟨fun k y hy => ?_, h.2⟩⟩
  match k, hy with
  | 0, hy => cases hy; exact h.1
  | k + 1, hy => simp at hy
theorem D_fst {A : Nat → Prop} {w w' : va_W} (h : w.map Prod.fst = w'.map Prod.fst) (hD : va_D A w) : va_D A w' := by
  have h1 : ∀ (k : Nat) (x : Nat × va_E), w'[k]? = some x → ∃ y : Nat × va_E, w[k]? = some y ∧ y.1 = x.1 := fun k x hx => by
    have h2 : (w.map Prod.fst)[k]? = some x.1 := by rw [h, List.getElem?_map, hx]; rfl
    rw [List.getElem?_map] at h2
    cases hw : w[k]? with
    | none => rw [hw] at h2; cases h2
    | some y => rw [hw] at h2; exact ⟨y, rfl, Option.some.inj h2⟩
  refine ⟨fun i j x y hx hy hxy => ?_, fun k x hx => ?_⟩
  · obtain ⟨x', a1, a2⟩ := h1 i x hx
    obtain ⟨y', b1, b2⟩ := h1 j y hy
    exact hD.1 i j x' y' a1 b1 (a2.trans (hxy.trans b2.symm))
  · obtain ⟨x', a1, a2⟩ := h1 k x hx
    rw [← a2]
    exact hD.2 k x' a1
theorem at_q {D : va_G} {cl : List vw_C} {H : Heap} {o n : Nat} {cA : ClassId} {f g : Nat → Option Nat} (h : ∀ j, j < n → f j = g j) (hP : va_at D cl (o, .inl (cA, (n, .inr (.inr (.inr (.inr f)))))) H) : va_at D cl (o, .inl (cA, (n, .inr (.inr (.inr (.inr g)))))) H := by
  show H[o]? = some (vp_cell _ _)
  have h1 : H[o]? = some (vp_cell _ _) := hP
  rw [h1]
  have h2 : vp_cell cA (n, .inr (.inr (.inr (.inr f)))) = vp_cell cA (n, .inr (.inr (.inr (.inr g)))) := by
    rw [vp_cell_q, vp_cell_q]
    unfold arrV
    congr 1
    apply Array.ext
    · simp
    · intro i h3 h4
      simp at h3
      simp [h i h3]
  rw [h2]
/-- all of the list that the constructors leave -/
def allW (t : gP) (ad : Nat → Nat) : va_W := (mainW t ad ++ modW t (fun j => ad (40 + j)) (tdF, (fun _ => 0), (fun _ => 0), (fun _ => 0), (fun _ => 0))) ++ [(ad 39, .inl (t.2.1 103, (1, .inr (.inl (fun _ => 0)))))]
theorem blk_m (t : gP) : modW t (fun j => t.2.2.1 (40 + j)) (tdF, (fun _ => 0), (fun _ => 0), (fun _ => 0), (fun _ => 0)) = [40, 41, 42, 43, 44, 45, 46, 47, 48, 49, 50, 51, 52, 53].map (gF t) := by
  unfold modW
  rw [gE_42]
  rfl
theorem blk_o (t : gP) : ([(t.2.2.1 39, .inl (t.2.1 103, (1, .inr (.inl (fun _ => 0)))))] : va_W) = [39].map (gF t) := rfl
def w4r (t : gP) : va_W := (t.2.2.1 33, .inr (8, [.ref (t.2.2.1 34), .ref (t.2.2.1 35), .ref (t.2.2.1 36), .int 0, .int 0])) :: (t.2.2.1 34, .inl (t.2.1 104, (10, .inr (.inr (.inr (.inr (fun j => some (t.2.2.1 (84 + 15 * j))))))))) :: (t.2.2.1 35, .inl (t.2.1 104, (2, .inr (.inr (.inr (.inr (fun j => some (t.2.2.1 (234 + 15 * j))))))))) :: (t.2.2.1 36, .inl (t.2.1 101, (2, .inl (fun _ => 0)))) :: sitsW t (fun i j => t.2.2.1 (84 + 15 * i + j)) 12
theorem blk_w4 (t : gP) : w4r t = (33 :: 34 :: 35 :: 36 :: ord12 12).map (gF t) := by
  unfold w4r
  rw [sits12]
  rfl
theorem w4r_P {t : gP} {H : Heap} (h : va_P t.1 vwCl (w4 t (t.2.2.1 33) (t.2.2.1 34) (t.2.2.1 35) (t.2.2.1 36) (fun i j => t.2.2.1 (84 + 15 * i + j)) 10 2) H) : va_P t.1 vwCl (w4r t) H := by
  unfold w4 at h
  unfold w4r
  simp only [P_cons] at h ⊢
  obtain ⟨h1, h2, h3, h4, h5⟩ := h
  refine ⟨h1, at_q (fun j hj => ?_) h2, at_q (fun j hj => ?_) h3, h4, h5⟩
  · rw [if_pos hj]
    rfl
  · rw [if_pos hj, show 84 + 15 * (10 + j) + 0 = 234 + 15 * j by omega]
theorem allW_G {t : gP} {H : Heap} (hP : va_P t.1 vwCl (allW t t.2.2.1) H) (hD : va_D (gA t) (allW t t.2.2.1)) : G t u0 H := by
  have e : gW t = ((gF t 0 :: ((((((((([1].map (gF t) ++ [2, 3, 4, 5, 6, 7, 8, 9].map (gF t)) ++ [10, 11, 12, 13, 14, 15, 16, 17, 18].map (gF t)) ++ [19, 20, 21, 22, 23, 24, 25, 26, 27].map (gF t)) ++ [54, 55, 56, 57, 58, 59, 60, 61, 62, 63, 64, 65, 66, 67, 68].map (gF t)) ++ [69, 70, 71, 72, 73, 74, 75, 76, 77, 78, 79, 80, 81, 82, 83].map (gF t)) ++ (33 :: 34 :: 35 :: 36 :: ord12 12).map (gF t)) ++ [28, 29].map (gF t)) ++ [30, 31, 32].map (gF t)) ++ [37, 38].map (gF t))) ++ [40, 41, 42, 43, 44, 45, 46, 47, 48, 49, 50, 51, 52, 53].map (gF t)) ++ [39].map (gF t) := by
    show ordW.map (gF t) = _
    unfold ordW
    simp only [List.map_append, List.map_cons, List.cons_append]
  rw [← blk_m, ← blk_o, ← blk_w4, ← blk_gr, ← blk_na, ← blk_nb, ← blk_s0, ← blk_s1, ← blk_x0, ← blk_x3, ← blk_j, ← blk_0, ← blk_1] at e
  refine G_start ?_ ?_
  · rw [e]
    unfold allW mainW at hP
    simp only [P_app, P_cons] at hP ⊢
    obtain ⟨⟨⟨a0, ⟨⟨⟨⟨⟨⟨⟨⟨⟨b1, b2⟩, b3⟩, b4⟩, b5⟩, b6⟩, b7⟩, b8⟩, b9⟩, b10⟩⟩, c1⟩, c2⟩ := hP
    exact ⟨⟨⟨a0, ⟨⟨⟨⟨⟨⟨⟨⟨⟨b1, b2⟩, b3⟩, b4⟩, b5⟩, b6⟩, w4r_P b7⟩, b8⟩, b9⟩, b10⟩⟩, c1⟩, c2⟩
  · refine D_fst ?_ hD
    rw [e]
    unfold allW mainW
    simp only [List.map_append, List.map_cons]
    rfl
