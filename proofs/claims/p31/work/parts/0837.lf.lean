/-! L, part d: the constructors' list as the picture -/
theorem P_app {D : va_G} {cl : List vw_C} {H : Heap} {a b : va_W} : va_P D cl (a ++ b) H ↔ va_P D cl a H ∧ va_P D cl b H := by
  refine ⟨fun h => ⟨fun k x hx => h k x ?_, fun k x hx => h (a.length + k) x ?_⟩, fun h k x hx => ?_⟩
  · rw [List.getElem?_append_left (List.getElem?_eq_some_iff.mp hx).1]; exact hx
  · rw [List.getElem?_append_right (Nat.le_add_right _ _), Nat.add_sub_cancel_left]; exact hx
  · rcases List.mem_append.mp (List.mem_of_getElem? hx) with h1 | h1
    · obtain ⟨i, hi⟩ := List.getElem?_of_mem h1
      exact h.1 i x hi
    · obtain ⟨i, hi⟩ := List.getElem?_of_mem h1
      exact h.2 i x hi
theorem P_cons {D : va_G} {cl : List vw_C} {H : Heap} {x : Nat × va_E} {b : va_W} : va_P D cl (x :: b) H ↔ va_at D cl x H ∧ va_P D cl b H := by
  rw [show x :: b = [x] ++ b from rfl, P_app]
  refine ⟨fun h => ⟨h.1 0 x rfl, h.2⟩, fun h => ⟨fun k y hy => ?_, h.2⟩⟩
  match k, hy with
  | 0, hy => cases hy; exact h.1
  | k + 1, hy => simp at hy
theorem D_fst {A : Nat → Prop} {w w' : va_W} (h : w.map Prod.fst = w'.map Prod.fst) (hD : va_D A w) : va_D A w' := by
  have h1 : ∀ (k : Nat) (x : Nat × va_E), w'[k]? = some x → ∃ y : Nat × va_E, w[k]? = some y ∧ y.1 = x.1 := fun k x hx => by
    have h2 : (w.map Prod.fst)[k]? = some x.1 := by rw [h, List.getElem?_map, hx]; rfl
    rw [List.getElem?_map] at h2
    cases hw : w[k]? with
    | none => rw [hw] at h2; cases h2
    | some y => rw [hw] at h2; exact ⟨y, rfl, Option.some.inj h2⟩
  refine ⟨fun i j x y hx hy hxy => ?_, fun k x hx => ?_⟩
  · obtain ⟨x', a1, a2⟩ := h1 i x hx
    obtain ⟨y', b1, b2⟩ := h1 j y hy
    exact hD.1 i j x' y' a1 b1 (a2.trans (hxy.trans b2.symm))
  · obtain ⟨x', a1, a2⟩ := h1 k x hx
    rw [← a2]
    exact hD.2 k x' a1
theorem at_q {D : va_G} {cl : List vw_C} {H : Heap} {o n : Nat} {cA : ClassId} {f g : Nat → Option Nat} (h : ∀ j, j < n → f j = g j) (hP : va_at D cl (o, .inl (cA, (n, .inr (.inr (.inr (.inr f)))))) H) : va_at D cl (o, .inl (cA, (n, .inr (.inr (.inr (.inr g)))))) H := by
  show H[o]? = some (vp_cell _ _)
  have h1 : H[o]? = some (vp_cell _ _) := hP
  rw [h1]
  have h2 : vp_cell cA (n, .inr (.inr (.inr (.inr f)))) = vp_cell cA (n, .inr (.inr (.inr (.inr g)))) := by
    rw [vp_cell_q, vp_cell_q]
    unfold arrV
    congr 1
    apply Array.ext
    · simp
    · intro i h3 h4
      simp at h3
      simp [h i h3]
  rw [h2]
def w4r (t : gP) : va_W := (t.2.2.1 33, .inr (8, [.ref (t.2.2.1 34), .ref (t.2.2.1 35), .ref (t.2.2.1 36), .int 0, .int 0])) :: (t.2.2.1 34, .inl (t.2.1 104, (10, .inr (.inr (.inr (.inr (fun j => some (t.2.2.1 (84 + 15 * (j % 10)))))))))) :: (t.2.2.1 35, .inl (t.2.1 104, (2, .inr (.inr (.inr (.inr (fun j => some (t.2.2.1 (234 + 15 * (j % 2)))))))))) :: (t.2.2.1 36, .inl (t.2.1 101, (2, .inl (fun _ => 0)))) :: sitsW t (fun i j => t.2.2.1 (84 + 15 * i + j)) 12
theorem blk_w4 (t : gP) : w4r t = (33 :: 34 :: 35 :: 36 :: ord12 12).map (gF t) := by
  unfold w4r
  rw [sits12]
  rfl
theorem w4r_P {t : gP} {H : Heap} (h : va_P t.1 vwCl (w4 t (t.2.2.1 33) (t.2.2.1 34) (t.2.2.1 35) (t.2.2.1 36) (fun i j => t.2.2.1 (84 + 15 * i + j)) 10 2) H) : va_P t.1 vwCl (w4r t) H := by
  unfold w4 at h
  unfold w4r
  simp only [P_cons] at h ⊢
  obtain ⟨h1, h2, h3, h4, h5⟩ := h
  refine ⟨h1, at_q (fun j hj => ?_) h2, at_q (fun j hj => ?_) h3, h4, h5⟩
  · rw [if_pos hj, Nat.mod_eq_of_lt hj]
    rfl
  · rw [if_pos hj, Nat.mod_eq_of_lt hj, show 84 + 15 * (10 + j) + 0 = 234 + 15 * j by omega]
theorem mainW_G {t : gP} {H : Heap} (h39 : t.2.2.1 39 = t.2.2.1 37) (hz : ∀ k, 264 ≤ k → k < 358 → t.2.2.1 (1000 + k) = 0) (hP : va_P t.1 vwCl (mainW t t.2.2.1) H) (hD : va_D (gA t) (mainW t t.2.2.1)) : G t u0 H := by
  have e : gW t = gF t 0 :: ((((((((([1].map (gF t) ++ [2, 3, 4, 5, 6, 7, 8, 9].map (gF t)) ++ [10, 11, 12, 13, 14, 15, 16, 17, 18].map (gF t)) ++ [19, 20, 21, 22, 23, 24, 25, 26, 27].map (gF t)) ++ [54, 55, 56, 57, 58, 59, 60, 61, 62, 63, 64, 65, 66, 67, 68].map (gF t)) ++ [69, 70, 71, 72, 73, 74, 75, 76, 77, 78, 79, 80, 81, 82, 83].map (gF t)) ++ (33 :: 34 :: 35 :: 36 :: ord12 12).map (gF t)) ++ [28, 29].map (gF t)) ++ [30, 31, 32].map (gF t)) ++ [37, 38].map (gF t)) := by
    show ordW.map (gF t) = _
    unfold ordW
    simp only [List.map_append, List.map_cons]
  rw [← blk_w4, ← blk_gr, ← blk_na, ← blk_nb, ← blk_s0, ← blk_s1, ← blk_x0, ← blk_x3, ← blk_j, ← blk_0 t h39, ← blk_1] at e
  refine G_start hz ?_ ?_
  · rw [e]
    unfold mainW at hP
    simp only [P_app, P_cons] at hP ⊢
    obtain ⟨a0, ⟨⟨⟨⟨⟨⟨⟨⟨⟨b1, b2⟩, b3⟩, b4⟩, b5⟩, b6⟩, b7⟩, b8⟩, b9⟩, b10⟩⟩ := hP
    exact ⟨a0, ⟨⟨⟨⟨⟨⟨⟨⟨⟨b1, b2⟩, b3⟩, b4⟩, b5⟩, b6⟩, w4r_P b7⟩, b8⟩, b9⟩, b10⟩⟩
  · refine D_fst ?_ hD
    rw [e]
    unfold mainW
    simp only [List.map_append, List.map_cons]
    rfl
