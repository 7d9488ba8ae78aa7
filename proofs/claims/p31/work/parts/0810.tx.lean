/-! the law's StringBuilders and its text -/
def TXs (u : uS) (D : List Int) : Prop := u 287 1 = 0 ∧ u 287 3 = (D.length : Int) ∧ (16 ≤ u 1000 3 ∧ u 1000 3 ≤ 520) ∧ (D.length : Int) ≤ u 1000 3 ∧ (∀ j : Nat, j < (u 1000 3).toNat → -128 ≤ u 288 (j : Int) ∧ u 288 (j : Int) < 128) ∧ (∀ j : Nat, j < D.length → u 288 (j : Int) = D.getD j 0)
def TXt (u : uS) (D : List Int) : Prop := u 289 1 = 0 ∧ u 1000 2 = (D.length : Int) ∧ ∀ j : Nat, j < D.length → u 290 (j : Int) = D.getD j 0
section TX
variable {u v w : uS} {D T : List Int}
theorem mk38 (hk : mkOk u) : (u 0 4).toNat ≠ 38 ∧ (u 0 5).toNat ≠ 38 := by
  have := hk.1
  have := hk.2
  omega
theorem TXl.new (hk : mkOk u) : TXl (sbU u) [] := by
  have e1 : sbU u 1000 1 = 16 := rfl
  refine ⟨rfl, rfl, by rw [e1]; decide, by rw [e1]; decide, fun j _ => ⟨by show (-128 : Int) ≤ 0; decide, by show (0 : Int) < 128; decide⟩, fun j hj => absurd hj (Nat.not_lt_zero j), ?_, ?_⟩
  · exact (mk38 hk).1
  · exact (mk38 hk).2
theorem TXl.push (h : TXl u D) : TXl (sbU2 u) [] ∧ TXs (sbU2 u) D := by
  obtain ⟨h1, h2, h3, h4, h5, h6, h7, h8⟩ := h
  have e1 : sbU2 u 1000 1 = 16 := rfl
  have e3 : sbU2 u 1000 3 = u 1000 1 := rfl
  refine ⟨⟨rfl, rfl, by rw [e1]; decide, by rw [e1]; decide, fun j _ => ⟨by show (-128 : Int) ≤ 0; decide, by show (0 : Int) < 128; decide⟩, fun j hj => absurd hj (Nat.not_lt_zero j), h7, h8⟩, h1, h2, by rw [e3]; exact h3, by rw [e3]; exact h4, by rw [e3]; exact h5, h6⟩
theorem TXs.fr (h : TXs u D) (hf : FrC u w) : TXs w D := by
  unfold TXs
  rw [hf.1 287 (by decide) (by decide) (by decide), hf.1 288 (by decide) (by decide) (by decide), hf.2 3 (by decide)]
  exact h
theorem TXl.pop (h : TXs u D) (hk : mkOk u) : TXl (sbU3 u) D := by
  obtain ⟨h1, h2, h3, h4, h5, h6⟩ := h
  have e1 : sbU3 u 1000 1 = u 1000 3 := rfl
  exact ⟨h1, h2, by rw [e1]; exact h3, by rw [e1]; exact h4, by rw [e1]; exact h5, h6, (mk38 hk).1, (mk38 hk).2⟩
theorem TXl.fr (h : TXl u D) (h37 : w 37 = u 37) (h38 : w 38 = u 38) (h1 : w 1000 1 = u 1000 1) (h0 : w 0 = u 0) : TXl w D := by
  unfold TXl
  rw [h37, h38, h1, h0]
  exact h
theorem etoString (h : TXl u D) (hk : mkOk u) : f_toString u = some (289, tsU u) := by
  obtain ⟨h1, h2, h3, h4, h5, h6, h7, h8⟩ := h
  refine wp_eq ?_
  unfold f_toString
  refine wp_g ⟨hk, ⟨by omega, by omega, h5⟩, h1, by omega, by omega, by omega⟩ ?_
  refine wp_L ?_
  exact wp_s rfl
theorem TXt.of (h : TXl u D) : TXt (tsU u) D := by
  obtain ⟨h1, h2, h3, h4, h5, h6, h7, h8⟩ := h
  refine ⟨rfl, h2, fun j hj => ?_⟩
  show (if (j : Int) < u 37 3 then u 38 (j : Int) else 0) = _
  rw [if_pos (by omega)]
  exact h6 j hj
theorem tsU_o {c : Nat} (h : c ≠ 1000 ∧ c ≠ 289 ∧ c ≠ 290) : tsU u c = u c := by
  funext i
  unfold tsU
  rw [if_neg (fun q => h.1 q.1), if_neg h.2.1, if_neg h.2.2]
theorem TXs.ts (h : TXs u D) : TXs (tsU u) D := by
  have e : tsU u 1000 3 = u 1000 3 := rfl
  unfold TXs
  rw [tsU_o (c := 287) (by decide), tsU_o (c := 288) (by decide), e]
  exact h
theorem sbU3_o {c : Nat} (h : c ≠ 37 ∧ c ≠ 38 ∧ c ≠ 1000) : sbU3 u c = u c := by
  funext i
  unfold sbU3
  rw [if_neg h.1, if_neg h.2.1, if_neg (fun q => h.2.2 q.1)]
theorem sbU2_o {c : Nat} (h : c ≠ 37 ∧ c ≠ 38 ∧ c ≠ 287 ∧ c ≠ 288 ∧ c ≠ 1000) : sbU2 u c = u c := by
  funext i
  unfold sbU2
  rw [if_neg (by omega), if_neg (by omega), if_neg (by omega), if_neg (fun q => h.2.2.2.2 q.1), if_neg (fun q => h.2.2.2.2 q.1)]
theorem sbU_o {c : Nat} (h : c ≠ 37 ∧ c ≠ 38 ∧ c ≠ 1000) : sbU u c = u c := by
  funext i
  unfold sbU
  rw [if_neg (by omega), if_neg (fun q => h.2.2 q.1)]
theorem TXt.pop (h : TXt u D) : TXt (sbU3 u) D := by
  have e : sbU3 u 1000 2 = u 1000 2 := rfl
  unfold TXt
  rw [sbU3_o (c := 289) (by decide), sbU3_o (c := 290) (by decide), e]
  exact h
theorem getD_b (hA : ∀ x ∈ D, 0 ≤ x ∧ x < 128) {j : Nat} (hj : j < D.length) : 0 ≤ D.getD j 0 ∧ D.getD j 0 < 128 := by
  rw [List.getD_eq_getElem?_getD, List.getElem?_eq_getElem hj, Option.getD_some]
  exact hA _ (List.getElem_mem hj)
theorem TXt.ok (h : TXt u D) (hl : D.length < 1000) (hA : ∀ x ∈ D, 0 ≤ x ∧ x < 128) : txOk u := by
  obtain ⟨h1, h2, h3⟩ := h
  refine ⟨by omega, by omega, fun j hj => ?_⟩
  rw [h3 j (by omega)]
  exact getD_b hA (by omega)
theorem lappendD (h : TXl u D) (ht : TXt u T) (hA : ∀ x ∈ T, 0 ≤ x ∧ x < 128) (hl : D.length + T.length ≤ 258) : wp (fd_J4_append u) (fun q => q.1 = 37 ∧ FrC u q.2 ∧ TXl q.2 (D ++ T)) := by
  have h2 := h.2.1
  have ok := ht.ok (by omega) hA
  have hlen : u 1000 2 = (T.length : Int) := ht.2.1
  unfold fd_J4_append
  have main : wp (fd_J5_append u) (fun q => q.1 = 37 ∧ FrC u q.2 ∧ TXl q.2 (D ++ T)) := by
    unfold fd_J5_append
    refine wp_e (xgd_t ⟨ht.1, ok⟩) ?_
    rw [h2, hlen]
    refine wp_b (lensure h (by omega)) (fun r v hv => ?_)
    obtain ⟨f1, t1, c1, q37⟩ := hv
    have f1 : FrC u v := f1
    have t1 : TXl v D := t1
    have c1 : (D.length : Int) + T.length ≤ v 1000 1 := c1
    have tv : TXt v T := by
      unfold TXt
      rw [f1.1 289 (by decide) (by decide) (by decide), f1.1 290 (by decide) (by decide) (by decide), f1.2 2 (by decide)]
      exact ht
    have okv := tv.ok (by omega) hA
    have hlv : v 1000 2 = (T.length : Int) := tv.2.1
    have t1' := t1
    obtain ⟨a1, a2, a3, a4, a5, a6, a7, a8⟩ := t1'
    have hp : fd_putStringAt (v 37 3) v = some (0, upA v 38 (fun j => if (D.length : Int) ≤ j ∧ j < (D.length : Int) + v 1000 2 then v 290 (j - (D.length : Int)) else v 38 j)) := by
      refine wp_eq ?_
      unfold fd_putStringAt
      have ei : fd_inflate v = some (0, v) := by
        refine wp_eq ?_
        unfold fd_inflate
        refine wp_g ⟨tv.1, by omega⟩ ?_
        refine wp_t a1 ?_
        exact wp_s rfl
      refine wp_e ei ?_
      unfold fd_getBytes
      rw [a1, a2]
      have eg : (xgd (v 289 1 = 0 ∧ InR 0 ∧ (0 : Int) = 0 ∧ txOk v ∧ (0 ≤ (D.length : Int) ∧ (D.length : Int) + v 1000 2 ≤ v 1000 1 ∧ v 1000 1 < 2147483648)) <| xlet (upA v 38 (fun j => if (D.length : Int) ≤ j ∧ j < (D.length : Int) + v 1000 2 then v 290 (j - (D.length : Int)) else v 38 j)) fun u12 => some ((0 : Int), u12)) = some (0, upA v 38 (fun j => if (D.length : Int) ≤ j ∧ j < (D.length : Int) + v 1000 2 then v 290 (j - (D.length : Int)) else v 38 j)) := by
        refine wp_eq ?_
        refine wp_g ⟨tv.1, by decide, rfl, okv, by omega, by omega, by omega⟩ ?_
        refine wp_L ?_
        exact wp_s rfl
      refine wp_e eg ?_
      exact wp_s rfl
    refine wp_e hp ?_
    refine wp_l (fun u8 h8 => ?_)
    have k1 : ∀ c, c ≠ 37 → c ≠ 38 → c ≠ 1000 → u8 c = u c := fun c c0 c1 c2 => by rw [h8]; exact (up_c c0).trans ((upA_c c1).trans (f1.1 c c0 c1 c2))
    have k2 : ∀ j, j ≠ 1 → u8 1000 j = u 1000 j := fun j hj => by rw [h8, up_k (by decide), upA_k (by decide)]; exact f1.2 j hj
    refine wp_s ⟨rfl, ⟨k1, k2⟩, ?_⟩
    show TXl u8 _
    rw [h8]
    have e37 : upA v 38 (fun j => if (D.length : Int) ≤ j ∧ j < (D.length : Int) + v 1000 2 then v 290 (j - (D.length : Int)) else v 38 j) 37 3 = (D.length : Int) := (upA_k (by decide)).trans a2
    show TXl (up (upA v 38 (fun j => if (D.length : Int) ≤ j ∧ j < (D.length : Int) + v 1000 2 then v 290 (j - (D.length : Int)) else v 38 j)) 37 3 (upA v 38 (fun j => if (D.length : Int) ≤ j ∧ j < (D.length : Int) + v 1000 2 then v 290 (j - (D.length : Int)) else v 38 j) 37 3 + (T.length : Int))) (D ++ T)
    rw [e37]
    refine t1.lay (fun c hc => upA_c hc) rfl c1 hA (fun j hj => ?_) (fun j hj => ?_) (fun j hj => ?_)
    · rw [upA_s, if_neg (by omega)]
    · rw [upA_s, if_pos ⟨by omega, by omega⟩, show (D.length : Int) + (j : Int) - (D.length : Int) = (j : Int) by omega]
      exact tv.2.2 j hj
    · rw [upA_s, if_neg (by omega)]
  refine wp_b main (fun r v hv => ?_)
  obtain ⟨r1, r2⟩ := hv
  refine wp_g r1 (wp_s ⟨rfl, r2⟩)
/-! one step of the text each -/
variable {β : Type} {Q : β → Prop} {go : uS → Option β}
theorem sS {k : Nat} (hk : 2000 ≤ k ∧ k < 2020) (h : TXl u D) (hl : D.length + (strL k).length ≤ 258) (kk : ∀ w, FrC u w → TXl w (D ++ strL k) → wp (go w) Q) : wp (xbd (f_J4_append_15ec4 k u) fun v w => xgd (v = 37) (go w)) Q := by
  refine wp_b (lappendS hk h hl) (fun r w hw => ?_)
  obtain ⟨a, b, c⟩ := hw
  exact wp_g a (kk w b c)
theorem sC {x : Int} (hx : 0 ≤ x ∧ x < 128) (h : TXl u D) (hl : D.length + 1 ≤ 258) (kk : ∀ w, FrC u w → TXl w (D ++ [x]) → wp (go w) Q) : wp (xbd (f_J4_append_cf468 x u) fun v w => xgd (v = 37) (go w)) Q := by
  refine wp_b (lappendC hx h hl) (fun r w hw => ?_)
  obtain ⟨a, b, c⟩ := hw
  exact wp_g a (kk w b c)
theorem sI {x : Int} (hx : 0 ≤ x ∧ x ≤ 9999) (h : TXl u D) (hl : D.length + 4 ≤ 258) (kk : ∀ w, FrC u w → TXl w (D ++ dg x) → wp (go w) Q) : wp (xbd (f_J4_append_bf812 x u) fun v w => xgd (v = 37) (go w)) Q := by
  refine wp_b (lappendI hx h hl) (fun r w hw => ?_)
  obtain ⟨a, b, c⟩ := hw
  exact wp_g a (kk w b c)
end TX
