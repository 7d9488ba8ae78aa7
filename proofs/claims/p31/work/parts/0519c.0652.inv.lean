/-! pure part, 22: what holds between calls -/
/-- the class's cells: N network, V present, U and c history, S and f slots, L B buffer, E the error's place, D description -/
def CI (N V : uS) (U S : Int → uS) (f : Int → Int) (c L E : Int) (B : Int → Int) (D : List Int) (u : uS) : Prop :=
  ((u 0 4 = 10 ∧ u 0 5 = 19) ∨ (u 0 4 = 19 ∧ u 0 5 = 10)) ∧ CN u (u 0 4).toNat N ∧ CS N u 54 V ∧ HC N u U c ∧ SC N u S f ∧ (u 0 1 = L ∧ u 0 2 = E) ∧ (∀ j, 0 ≤ j → j < L → u 1 j = B j) ∧ (D = D)
/-- what the values are like -/
def PW (N V : uS) (U S : Int → uS) (f : Int → Int) (c L E : Int) (B : Int → Int) (D : List Int) : Prop :=
  NWF N ∧ (WFc N V ∧ V 0 0 ≤ 9999) ∧ (HW N U c ∧ ∀ j, 0 ≤ j → j < c → U j 0 0 ≤ 9999) ∧ (SW N S f ∧ ∀ s, 0 ≤ s → s < 2 → f s = 1 → S s 0 0 ≤ 9999) ∧ (0 ≤ L ∧ L ≤ 500) ∧ (∀ j, 0 ≤ j → j < L → 0 ≤ B j ∧ B j < 256) ∧ (-1 ≤ E ∧ E ≤ 500) ∧ D.length ≤ 60 ∧ ∀ x ∈ D, 0 ≤ x ∧ x < 128
/-- a call of the class leaves the reference's cells; a call of the reference leaves the class's -/
def FC (u w : uS) : Prop := ∀ c, 40 ≤ c → (c < 54 ∨ (264 ≤ c ∧ c ≠ 1000)) → w c = u c
/-- cells that the class may use as it likes, and the law's own -/
def Scr (c : Nat) : Prop := (28 ≤ c ∧ c ≤ 32) ∨ (69 ≤ c ∧ c < 84) ∨ (39 ≤ c ∧ c < 54)
section IV
variable {u w N V : uS} {U S : Int → uS} {f : Int → Int} {c L E : Int} {B : Int → Int} {D : List Int}
theorem CI.net (h : CI N V U S f c L E B D u) : (u 0 4).toNat < NN ∧ sT (u 0 4).toNat = 9 := h.2.1.1
theorem CI.sc (h : CI N V U S f c L E B D u) (hw : ∀ d, ¬ Scr d → w d = u d) : CI N V U S f c L E B D w := by
  obtain ⟨h1, h2, h3, h4, h5, h6, h7, h8⟩ := h
  have n1 := net_at h2.1
  unfold Scr at hw
  unfold CI
  rw [hw 0 (by omega)]
  refine ⟨h1, h2.row (fun j hj => hw _ (by omega)), h3.row (fun j hj => hw _ (by omega)), h4.row (hw _ (by omega)) (fun d d0 d1 => hw _ (by omega)), h5.row (hw _ (by omega)) (fun d d0 d1 => hw _ (by omega)), h6, ?_, h8⟩
  rw [hw 1 (by omega)]; exact h7
/-! the class's checks -/
theorem cneedStation {x : Int} (hC : CI N V U S f c L E B D u) (hN : NWF N) (hx : InR x) : f_X9_needStation x u = some (if 0 ≤ x ∧ x < N 0 0 then (0, 0, u) else (1, 0, u)) := by
  have n0 := hN.1
  have a0 := hC.2.1.2.1.1
  refine wp_eq ?_
  unfold f_X9_needStation
  refine wp_g (by omega) ?_
  refine wp_L ?_
  refine wp_i (fun c => ?_) (fun c => ?_)
  · rw [if_neg (by omega)]
    exact wp_s rfl
  · refine wp_L ?_
    refine wp_g hC.net ?_
    refine wp_g (by omega) ?_
    refine wp_i (fun c => ?_) (fun c => ?_)
    · rw [if_pos (by omega)]; exact wp_s rfl
    · rw [if_neg (by omega)]; exact wp_s rfl
theorem cneedNode {x : Int} (hC : CI N V U S f c L E B D u) (hN : NWF N) (hx : InR x) : f_X9_needNode x u = some (if 0 ≤ x ∧ x < nds N then (0, 0, u) else (1, 0, u)) := by
  have nd := nds_b hN
  refine wp_eq ?_
  unfold f_X9_needNode
  refine wp_g (by omega) ?_
  refine wp_L ?_
  refine wp_i (fun c => ?_) (fun c => ?_)
  · rw [if_neg (by omega)]
    exact wp_s rfl
  · refine wp_L ?_
    refine wp_g hC.net ?_
    refine wp_e (cnodeCount hC.2.1) ?_
    refine wp_g (by omega) ?_
    refine wp_i (fun c => ?_) (fun c => ?_)
    · rw [if_pos (by omega)]; exact wp_s rfl
    · rw [if_neg (by omega)]; exact wp_s rfl
theorem cneedPick {x : Int} (hC : CI N V U S f c L E B D u) (hV : WFb N V) (hx : InR x) : f_X9_needPick x u = some (if 0 ≤ x ∧ x < V 0 1 then (0, 0, u) else (1, 0, u)) := by
  have b1 := hV.2.1
  have e : u 54 1 = V 0 1 := hC.2.2.1.2.1.n
  refine wp_eq ?_
  unfold f_X9_needPick
  refine wp_g (by omega) ?_
  refine wp_L ?_
  refine wp_i (fun c => ?_) (fun c => ?_)
  · rw [if_neg (by omega)]
    exact wp_s rfl
  · refine wp_g (by omega) ?_
    refine wp_i (fun c => ?_) (fun c => ?_)
    · rw [if_pos (by omega)]; exact wp_s rfl
    · rw [if_neg (by omega)]; exact wp_s rfl
theorem cneedEvent {x : Int} (hC : CI N V U S f c L E B D u) (hV : WFb N V) (hx : InR x) : f_X9_needEvent x u = some (if 0 ≤ x ∧ x < V 0 2 then (0, 0, u) else (1, 0, u)) := by
  have b1 := hV.2.2.1
  have e : u 54 2 = V 0 2 := hC.2.2.1.2.1.e
  refine wp_eq ?_
  unfold f_X9_needEvent
  refine wp_g (by omega) ?_
  refine wp_L ?_
  refine wp_i (fun c => ?_) (fun c => ?_)
  · rw [if_neg (by omega)]
    exact wp_s rfl
  · refine wp_g (by omega) ?_
    refine wp_i (fun c => ?_) (fun c => ?_)
    · rw [if_pos (by omega)]; exact wp_s rfl
    · rw [if_neg (by omega)]; exact wp_s rfl
theorem cneedLevel {x : Int} (hx : InR x) : f_X9_needLevel x u = some (if 0 ≤ x ∧ x ≤ 9999 then (0, 0, u) else (2, 0, u)) := by
  refine wp_eq ?_
  unfold f_X9_needLevel
  refine wp_g (by omega) ?_
  refine wp_L ?_
  refine wp_i (fun c => ?_) (fun c => ?_)
  · rw [if_neg (by omega)]
    exact wp_s rfl
  · refine wp_g (by omega) ?_
    refine wp_i (fun c => ?_) (fun c => ?_)
    · rw [if_pos (by omega)]; exact wp_s rfl
    · rw [if_neg (by omega)]; exact wp_s rfl
theorem cneedTicks {m x : Int} (hx : InR x) (hm : InR m) : f_X9_needTicks m x u = some (if m ≤ x ∧ x ≤ 200 then (0, 0, u) else (2, 0, u)) := by
  refine wp_eq ?_
  unfold f_X9_needTicks
  refine wp_g (by omega) ?_
  refine wp_L ?_
  refine wp_i (fun c => ?_) (fun c => ?_)
  · rw [if_neg (by omega)]
    exact wp_s rfl
  · refine wp_g (by omega) ?_
    refine wp_i (fun c => ?_) (fun c => ?_)
    · rw [if_pos (by omega)]; exact wp_s rfl
    · rw [if_neg (by omega)]; exact wp_s rfl
theorem cneedMuted {x m : Int} (hC : CI N V U S f c L E B D u) (hV : WFb N V) (hx : 0 ≤ x ∧ x < 8) (hm : InR m) : f_X9_needMuted x m u = some (if V 6 x = m then (0, 0, u) else (3, 0, u)) := by
  have e : u 60 x = V 6 x := hC.2.2.1.2.1.mu hx.1 hx.2
  have b := hV.2.2.2.1 x hx.1 hx.2
  refine wp_eq ?_
  unfold f_X9_needMuted
  refine wp_g (by omega) ?_
  refine wp_g (by omega) ?_
  refine wp_i (fun c => ?_) (fun c => ?_)
  · rw [if_pos (by omega)]; exact wp_s rfl
  · rw [if_neg (by omega)]; exact wp_s rfl
theorem cneedStanding {x : Int} (hC : CI N V U S f c L E B D u) (hV : WFb N V) (hx : 0 ≤ x ∧ x < V 0 2) : f_X9_needStanding x u = some (if V 14 x = 1 then (3, 0, u) else (0, 0, u)) := by
  have e : u 68 x = V 14 x := hC.2.2.1.2.1.re hx.1 hx.2
  have b := hV.2.2.2.2.2.2 x hx.1 hx.2
  have b2 := hV.2.2.1
  refine wp_eq ?_
  unfold f_X9_needStanding
  refine wp_g (by omega) ?_
  refine wp_g (by omega) ?_
  refine wp_i (fun c => ?_) (fun c => ?_)
  · rw [if_pos (by omega)]; exact wp_s rfl
  · rw [if_neg (by omega)]; exact wp_s rfl
end IV
/-! a call that goes on, a call that throws -/
theorem wp_bt_if {β : Type} {P : Prop} [Decidable P] {g : Nat} {u : uS} {f : Int → uS → Option β} {x : Nat → uS → Option β} {Q : β → Prop} {o : Option (Nat × Int × uS)} (ho : o = some (if P then (0, 0, u) else (g, 0, u))) (hg : g ≠ 0) (k : P → wp (f 0 u) Q) (kx : ¬ P → wp (x g u) Q) : wp (xbt o f x) Q := by
  by_cases h : P
  · rw [if_pos h] at ho
    exact wp_bt0 ho (k h)
  · rw [if_neg h] at ho
    exact wp_btn ho hg (kx h)
