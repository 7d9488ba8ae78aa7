/-! L, part d: the one picture, once all objects are made -/
def ord12 : Nat → List Nat
  | 0 => []
  | n + 1 => ord12 n ++ [84 + 15 * n + 0, 84 + 15 * n + 1, 84 + 15 * n + 2, 84 + 15 * n + 3, 84 + 15 * n + 4, 84 + 15 * n + 5, 84 + 15 * n + 6, 84 + 15 * n + 7, 84 + 15 * n + 8, 84 + 15 * n + 9, 84 + 15 * n + 10, 84 + 15 * n + 11, 84 + 15 * n + 12, 84 + 15 * n + 13, 84 + 15 * n + 14]
def ordW : List Nat := 0 :: ((((((((([1] ++ [2, 3, 4, 5, 6, 7, 8, 9]) ++ [10, 11, 12, 13, 14, 15, 16, 17, 18]) ++ [19, 20, 21, 22, 23, 24, 25, 26, 27]) ++ [54, 55, 56, 57, 58, 59, 60, 61, 62, 63, 64, 65, 66, 67, 68]) ++ [69, 70, 71, 72, 73, 74, 75, 76, 77, 78, 79, 80, 81, 82, 83]) ++ (33 :: 34 :: 35 :: 36 :: ord12 12)) ++ [28, 29]) ++ [30, 31, 32]) ++ [37, 38])
theorem ordW_at : ∀ k, k < 264 → sT k ≠ 999 → ordW[ordW.idxOf k]? = some k := by decide +kernel
def gF (t : gP) (k : Nat) : Nat × va_E := (t.2.2.1 k, gE t u0 k)
def gW (t : gP) : va_W := ordW.map (gF t)
theorem gW_at {t : gP} {k : Nat} (hk : k < 264 ∧ sT k ≠ 999) : (gW t)[ordW.idxOf k]? = some (t.2.2.1 k, gE t u0 k) := by
  unfold gW
  rw [List.getElem?_map, ordW_at k hk.1 hk.2]
  rfl
theorem al_0 {t : gP} (hz : ∀ k, 264 ≤ k → k < 358 → t.2.2.1 (1000 + k) = 0) {k : Nat} (h : al t k) : k < 264 ∧ sT k ≠ 999 := by
  have h1 : NN = 264 := rfl
  have h2 : NM = 358 := rfl
  have q := al_iff.mp h
  refine ⟨?_, q.1⟩
  rcases q.2 with q1 | q1
  · omega
  · by_cases q3 : k < 264
    · exact q3
    · have := hz k (by omega) (by omega)
      omega
theorem G_start {t : gP} {H : Heap} (hz : ∀ k, 264 ≤ k → k < 358 → t.2.2.1 (1000 + k) = 0) (hP : va_P t.1 vwCl (gW t) H) (hD : va_D (gA t) (gW t)) : G t u0 H := by
  have hM : NM = 358 := rfl
  refine ⟨fun k hk => hP _ _ (gW_at (al_0 hz hk)), fun i j hi hj h => ?_, fun k hk => hD.2 _ _ (gW_at (al_0 hz hk)), fun k hk h16 => ?_, fun h => absurd (al_0 hz h).1 (by decide), fun k hk h => ?_⟩
  · have ai := al_0 hz hi
    have aj := al_0 hz hj
    have h1 := hD.1 _ _ _ _ (gW_at ai) (gW_at aj) h
    have h2 := ordW_at i ai.1 ai.2
    rw [h1, ordW_at j aj.1 aj.2] at h2
    exact (Option.some.inj h2).symm
  · have a := (al_0 hz hk).1
    have := sT_16 k (by omega) h16
    omega
  · have a := (al_0 hz hk).1
    rcases h with h | h
    · have := sT_106 k (by omega) h
      omega
    · have := sT_107 k (by omega) h
      omega
theorem blk_gr (t : gP) : grW t (fun j => t.2.2.1 (2 + j)) = [2, 3, 4, 5, 6, 7, 8, 9].map (gF t) := rfl
theorem blk_na (t : gP) : netW t (fun j => t.2.2.1 (10 + j)) = [10, 11, 12, 13, 14, 15, 16, 17, 18].map (gF t) := rfl
theorem blk_nb (t : gP) : netW t (fun j => t.2.2.1 (19 + j)) = [19, 20, 21, 22, 23, 24, 25, 26, 27].map (gF t) := rfl
theorem blk_s0 (t : gP) : sitW t (fun j => t.2.2.1 (54 + j)) = [54, 55, 56, 57, 58, 59, 60, 61, 62, 63, 64, 65, 66, 67, 68].map (gF t) := rfl
theorem blk_s1 (t : gP) : sitW t (fun j => t.2.2.1 (69 + j)) = [69, 70, 71, 72, 73, 74, 75, 76, 77, 78, 79, 80, 81, 82, 83].map (gF t) := rfl
theorem blk_x0 (t : gP) : x0W t (fun j => t.2.2.1 (28 + j)) = [28, 29].map (gF t) := rfl
theorem blk_x3 (t : gP) : x3W t (fun j => t.2.2.1 (30 + j)) = [30, 31, 32].map (gF t) := rfl
theorem blk_j (t : gP) : jW t (fun j => t.2.2.1 (37 + j)) = [37, 38].map (gF t) := rfl
theorem blk_0 (t : gP) (h : t.2.2.1 39 = t.2.2.1 37) : ((t.2.2.1 0, .inr (13, [.ref (t.2.2.1 1), .int (iI 0), .int (iI (-1)), .ref (t.2.2.1 2), .ref (t.2.2.1 10), .ref (t.2.2.1 19), .ref (t.2.2.1 54), .ref (t.2.2.1 69), .ref (t.2.2.1 33), .ref (t.2.2.1 28), .ref (t.2.2.1 30), .ref (t.2.2.1 37)])) : Nat × va_E) = gF t 0 := by
  rw [← h]
  rfl
theorem blk_1 (t : gP) : ([(t.2.2.1 1, .inl (t.2.1 100, (500, .inl (fun _ => 0))))] : va_W) = [1].map (gF t) := rfl
theorem sit_nn (t : gP) : ∀ n, n < 12 → sitW t (fun j => t.2.2.1 (84 + 15 * n + j)) = [84 + 15 * n + 0, 84 + 15 * n + 1, 84 + 15 * n + 2, 84 + 15 * n + 3, 84 + 15 * n + 4, 84 + 15 * n + 5, 84 + 15 * n + 6, 84 + 15 * n + 7, 84 + 15 * n + 8, 84 + 15 * n + 9, 84 + 15 * n + 10, 84 + 15 * n + 11, 84 + 15 * n + 12, 84 + 15 * n + 13, 84 + 15 * n + 14].map (gF t)
  | 0, _ => rfl
  | 1, _ => rfl
  | 2, _ => rfl
  | 3, _ => rfl
  | 4, _ => rfl
  | 5, _ => rfl
  | 6, _ => rfl
  | 7, _ => rfl
  | 8, _ => rfl
  | 9, _ => rfl
  | 10, _ => rfl
  | 11, _ => rfl
  | n + 12, h => absurd h (by omega)
theorem sits12 (t : gP) : sitsW t (fun i j => t.2.2.1 (84 + 15 * i + j)) 12 = (ord12 12).map (gF t) := by
  have h : ∀ n, n ≤ 12 → sitsW t (fun i j => t.2.2.1 (84 + 15 * i + j)) n = (ord12 n).map (gF t) := by
    intro n
    induction n with
    | zero => intro _; rfl
    | succ n ih =>
      intro hn
      show sitsW t (fun i j => t.2.2.1 (84 + 15 * i + j)) n ++ sitW t (fun j => t.2.2.1 (84 + 15 * n + j)) = (ord12 n ++ _).map (gF t)
      rw [List.map_append, ih (by omega), sit_nn t n (by omega)]
  exact h 12 (Nat.le_refl _)
