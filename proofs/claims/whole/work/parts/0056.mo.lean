/-! pure part, 26: the reference's calls that ask -/
/-- how the reference numbers what is thrown -/
def cd1 (g : Nat) : Int := if g = 0 then 0 else 1
def cd2 (g : Nat) : Int := if g = 0 then 0 else if g = 1 then 1 else 2
theorem wp_ei {β : Type} {P : Prop} [Decidable P] {o : Option (Int × uS)} {f : Int → uS → Option β} {r1 r2 : Int} {u1 u2 : uS} {Q : β → Prop} (ho : o = some (if P then (r1, u1) else (r2, u2))) (k1 : P → wp (f r1 u1) Q) (k2 : ¬ P → wp (f r2 u2) Q) : wp (xbd o f) Q := by
  by_cases h : P
  · rw [if_pos h] at ho; exact wp_e ho (k1 h)
  · rw [if_neg h] at ho; exact wp_e ho (k2 h)
section MO
variable {u N V : uS} {U S : Int → uS} {f : Int → Int} {c L E : Int} {B : Int → Int} {D : List Int}
theorem MI.t (h : MI N V U S f c L E B D u) (k : Int) : MI N V U S f c L E B D (up u 40 0 k) := h.sc (fun d h1 _ _ => up_c h1) (fun j hj => up_j hj)
theorem FM.t (k : Int) : FM u (up u 40 0 k) := fun d hd => up_c (by omega)
theorem FM.rf : FM u u := fun _ _ => rfl
theorem FM.tr {v w : uS} (h : FM u v) (h2 : FM v w) : FM u w := fun d hd => (h2 d hd).trans (h d hd)
theorem mq {w : uS} {K r R : Int} (hM : MI N V U S f c L E B D w) (hF : FM u w) (h0 : w 40 0 = K) (hr : K = 0 → r = R) : wp (some (r, w)) (fun q => q.2 40 0 = K ∧ (K = 0 → q.1 = R) ∧ FM u q.2 ∧ MI N V U S f c L E B D q.2) := wp_s ⟨h0, hr, hF, hM⟩
theorem cd1_0 {g : Nat} : cd1 g = 0 ↔ g = 0 := by unfold cd1; split <;> omega
theorem cd2_0 {g : Nat} : cd2 g = 0 ↔ g = 0 := by unfold cd2; split; omega; split <;> omega
theorem enoStation {x : Int} (hM : MI N V U S f c L E B D u) (hN : NWF N) (hx : InR x) : f_X10_noStation x u = some (if 0 ≤ x ∧ x < N 0 0 then (0, up u 40 0 0) else (1, up (up u 40 0 0) 40 0 1)) := by
  have n0 := hN.1
  have a0 : up u 40 0 0 42 0 = N 0 0 := (up_k (by decide)).trans (hM.1.1 0 (by decide) (by decide))
  refine wp_eq ?_
  unfold f_X10_noStation
  refine wp_L ?_
  rw [a0]
  have h := eno (up u 40 0 0) (x := x) (m := N 0 0) hx (by omega) (up_s _ _ _ _)
  by_cases hc : 0 ≤ x ∧ x < N 0 0
  · rw [if_pos hc] at h ⊢
    refine wp_e h ?_
    refine wp_g (by decide) ?_
    exact wp_s rfl
  · rw [if_neg hc] at h ⊢
    refine wp_e h ?_
    refine wp_g (by decide) ?_
    exact wp_s rfl
theorem enoPick {x : Int} (hM : MI N V U S f c L E B D u) (hV : WFb N V) (h0 : u 40 0 = 0) (hx : InR x) : f_X10_noPick x u = some (if 0 ≤ x ∧ x < V 0 1 then (0, u) else (1, up u 40 0 1)) := by
  have b := hV.2.1
  refine wp_eq ?_
  unfold f_X10_noPick
  rw [hM.2.1.n]
  have h := eno u (x := x) (m := V 0 1) hx (by omega) h0
  by_cases hc : 0 ≤ x ∧ x < V 0 1
  · rw [if_pos hc] at h ⊢
    refine wp_e h ?_
    refine wp_g (by decide) ?_
    exact wp_s rfl
  · rw [if_neg hc] at h ⊢
    refine wp_e h ?_
    refine wp_g (by decide) ?_
    exact wp_s rfl
theorem enoEvent {x : Int} (hM : MI N V U S f c L E B D u) (hV : WFb N V) (h0 : u 40 0 = 0) (hx : InR x) : f_X10_noEvent x u = some (if 0 ≤ x ∧ x < V 0 2 then (0, u) else (1, up u 40 0 1)) := by
  have b := hV.2.2.1
  refine wp_eq ?_
  unfold f_X10_noEvent
  rw [hM.2.1.e]
  have h := eno u (x := x) (m := V 0 2) hx (by omega) h0
  by_cases hc : 0 ≤ x ∧ x < V 0 2
  · rw [if_pos hc] at h ⊢
    refine wp_e h ?_
    refine wp_g (by decide) ?_
    exact wp_s rfl
  · rw [if_neg hc] at h ⊢
    refine wp_e h ?_
    refine wp_g (by decide) ?_
    exact wp_s rfl
theorem enoSlot {x : Int} (hx : InR x) : f_X10_noSlot x u = some (if 0 ≤ x ∧ x < 2 then (0, up u 40 0 0) else (1, up (up u 40 0 0) 40 0 1)) := by
  refine wp_eq ?_
  unfold f_X10_noSlot
  refine wp_L ?_
  have h := eno (up u 40 0 0) (x := x) (m := 2) hx (by decide) (up_s _ _ _ _)
  by_cases hc : 0 ≤ x ∧ x < 2
  · rw [if_pos hc] at h ⊢
    refine wp_e h ?_
    refine wp_g (by decide) ?_
    exact wp_s rfl
  · rw [if_neg hc] at h ⊢
    refine wp_e h ?_
    refine wp_g (by decide) ?_
    exact wp_s rfl
theorem mSize {x : Int} (hM : MI N V U S f c L E B D u) (hP : PW N V U S f c L E B D) (hx : InR x) : wp (f_X10_size x u) (fun q => q.2 40 0 = cd1 (rSize N V x).1 ∧ (cd1 (rSize N V x).1 = 0 → q.1 = (rSize N V x).2) ∧ FM u q.2 ∧ MI N V U S f c L E B D q.2) := by
  have hM1 := hM.t 0
  have z0 : up u 40 0 0 40 0 = 0 := up_s _ _ _ _
  unfold f_X10_size
  refine wp_L ?_
  refine wp_e (ewithin _ hx (by decide) (by decide)) ?_
  by_cases h : 0 ≤ x ∧ x ≤ 5
  · rw [if_pos h]
    repeat (first | (with_reducible refine wp_L ?_) | (with_reducible refine wp_g ?_ ?_; · omega) | (with_reducible refine wp_f ?_ ?_; · omega) | (with_reducible refine wp_t ?_ ?_; · omega) | (with_reducible refine wp_e (eof _ _ _) ?_) | (with_reducible refine wp_e (eat _ _ _) ?_) | (with_reducible refine wp_e (enodes _) ?_))
    refine wp_e (ethrowsIf0 _ (by decide) z0 (by decide)) ?_
    repeat (first | (with_reducible refine wp_L ?_) | (with_reducible refine wp_g ?_ ?_; · omega) | (with_reducible refine wp_f ?_ ?_; · omega) | (with_reducible refine wp_t ?_ ?_; · omega) | (with_reducible refine wp_e (eof _ _ _) ?_) | (with_reducible refine wp_e (eat _ _ _) ?_) | (with_reducible refine wp_e (enodes _) ?_))
    have h6 : x = 0 ∨ x = 1 ∨ x = 2 ∨ x = 3 ∨ x = 4 ∨ x = 5 := by omega
    rcases h6 with rfl | rfl | rfl | rfl | rfl | rfl
    · repeat (first | (with_reducible refine wp_L ?_) | (with_reducible refine wp_g ?_ ?_; · omega) | (with_reducible refine wp_f ?_ ?_; · omega) | (with_reducible refine wp_t ?_ ?_; · omega) | (with_reducible refine wp_e (eof _ _ _) ?_) | (with_reducible refine wp_e (eat _ _ _) ?_) | (with_reducible refine wp_e (enodes _) ?_))
      exact mq hM1 (FM.t 0) z0 (fun _ => hM1.1.1 0 (by decide) (by decide))
    · repeat (first | (with_reducible refine wp_L ?_) | (with_reducible refine wp_g ?_ ?_; · omega) | (with_reducible refine wp_f ?_ ?_; · omega) | (with_reducible refine wp_t ?_ ?_; · omega) | (with_reducible refine wp_e (eof _ _ _) ?_) | (with_reducible refine wp_e (eat _ _ _) ?_) | (with_reducible refine wp_e (enodes _) ?_))
      exact mq hM1 (FM.t 0) z0 (fun _ => by rw [hM1.1.1 4 (by decide) (by decide), hM1.1.1 5 (by decide) (by decide)]; rfl)
    · repeat (first | (with_reducible refine wp_L ?_) | (with_reducible refine wp_g ?_ ?_; · omega) | (with_reducible refine wp_f ?_ ?_; · omega) | (with_reducible refine wp_t ?_ ?_; · omega) | (with_reducible refine wp_e (eof _ _ _) ?_) | (with_reducible refine wp_e (eat _ _ _) ?_) | (with_reducible refine wp_e (enodes _) ?_))
      exact mq hM1 (FM.t 0) z0 (fun _ => hM1.1.1 1 (by decide) (by decide))
    · repeat (first | (with_reducible refine wp_L ?_) | (with_reducible refine wp_g ?_ ?_; · omega) | (with_reducible refine wp_f ?_ ?_; · omega) | (with_reducible refine wp_t ?_ ?_; · omega) | (with_reducible refine wp_e (eof _ _ _) ?_) | (with_reducible refine wp_e (eat _ _ _) ?_) | (with_reducible refine wp_e (enodes _) ?_))
      exact mq hM1 (FM.t 0) z0 (fun _ => hM1.2.1.n)
    · repeat (first | (with_reducible refine wp_L ?_) | (with_reducible refine wp_g ?_ ?_; · omega) | (with_reducible refine wp_f ?_ ?_; · omega) | (with_reducible refine wp_t ?_ ?_; · omega) | (with_reducible refine wp_e (eof _ _ _) ?_) | (with_reducible refine wp_e (eat _ _ _) ?_) | (with_reducible refine wp_e (enodes _) ?_))
      exact mq hM1 (FM.t 0) z0 (fun _ => hM1.2.1.e)
    · repeat (first | (with_reducible refine wp_L ?_) | (with_reducible refine wp_g ?_ ?_; · omega) | (with_reducible refine wp_f ?_ ?_; · omega) | (with_reducible refine wp_t ?_ ?_; · omega) | (with_reducible refine wp_e (eof _ _ _) ?_) | (with_reducible refine wp_e (eat _ _ _) ?_) | (with_reducible refine wp_e (enodes _) ?_))
      refine wp_e (elive hP.2.1.1.1 hM1.2.1) ?_
      exact mq hM1 (FM.t 0) z0 (fun _ => rfl)
  · rw [if_neg h]
    repeat (first | (with_reducible refine wp_L ?_) | (with_reducible refine wp_g ?_ ?_; · omega) | (with_reducible refine wp_f ?_ ?_; · omega) | (with_reducible refine wp_t ?_ ?_; · omega) | (with_reducible refine wp_e (eof _ _ _) ?_) | (with_reducible refine wp_e (eat _ _ _) ?_) | (with_reducible refine wp_e (enodes _) ?_))
    refine wp_e (ethrowsIf0 _ (by decide) z0 (by decide)) ?_
    repeat (first | (with_reducible refine wp_L ?_) | (with_reducible refine wp_g ?_ ?_; · omega) | (with_reducible refine wp_f ?_ ?_; · omega) | (with_reducible refine wp_t ?_ ?_; · omega) | (with_reducible refine wp_e (eof _ _ _) ?_) | (with_reducible refine wp_e (eat _ _ _) ?_) | (with_reducible refine wp_e (enodes _) ?_))
    have hr : (rSize N V x) = (2, 0) := by
      unfold rSize
      rw [if_neg (by omega), if_neg (by omega), if_neg (by omega), if_neg (by omega), if_neg (by omega), if_neg (by omega)]
    rw [hr]
    exact mq (hM1.t 1) ((FM.t 0).tr (FM.t 1)) (up_s _ _ _ _) (fun h => absurd h (by decide))
theorem mBetween {a b : Int} (hM : MI N V U S f c L E B D u) (hP : PW N V U S f c L E B D) (ha : InR a) (hb : InR b) : wp (f_X10_between a b u) (fun q => q.2 40 0 = cd1 (rBetween N a b).1 ∧ (cd1 (rBetween N a b).1 = 0 → q.1 = (rBetween N a b).2) ∧ FM u q.2 ∧ MI N V U S f c L E B D q.2) := by
  have hN := hP.1
  have n0 := hN.1
  have hM1 := hM.t 0
  have z0 : up u 40 0 0 40 0 = 0 := up_s _ _ _ _
  have a0 := hM1.1.1 0 (by decide) (by decide)
  unfold f_X10_between
  refine wp_ei (enoStation hM hN ha) (fun h1 => ?_) (fun h1 => ?_)
  · repeat (first | (with_reducible refine wp_L ?_) | (with_reducible refine wp_g ?_ ?_; · omega) | (with_reducible refine wp_f ?_ ?_; · omega) | (with_reducible refine wp_t ?_ ?_; · omega) | (with_reducible refine wp_e (eof _ _ _) ?_) | (with_reducible refine wp_e (eat _ _ _) ?_) | (with_reducible refine wp_e (enodes _) ?_))
    rw [a0]
    refine wp_ei (eno _ hb (by omega) z0) (fun h2 => ?_) (fun h2 => ?_)
    · have hr : rBetween N a b = (0, tvS N a b) := if_pos ⟨h1, h2⟩
      rw [hr]
      repeat (first | (with_reducible refine wp_L ?_) | (with_reducible refine wp_g ?_ ?_; · omega) | (with_reducible refine wp_f ?_ ?_; · omega) | (with_reducible refine wp_t ?_ ?_; · omega) | (with_reducible refine wp_e (eof _ _ _) ?_) | (with_reducible refine wp_e (eat _ _ _) ?_) | (with_reducible refine wp_e (enodes _) ?_))
      refine wp_e (etimeBetween hN hM1.1 h1 h2) ?_
      exact mq hM1 (FM.t 0) z0 (fun _ => rfl)
    · have hr : rBetween N a b = (1, 0) := if_neg (fun h => h2 h.2)
      rw [hr]
      repeat (first | (with_reducible refine wp_L ?_) | (with_reducible refine wp_g ?_ ?_; · omega) | (with_reducible refine wp_f ?_ ?_; · omega) | (with_reducible refine wp_t ?_ ?_; · omega) | (with_reducible refine wp_e (eof _ _ _) ?_) | (with_reducible refine wp_e (eat _ _ _) ?_) | (with_reducible refine wp_e (enodes _) ?_))
      exact mq (hM1.t 1) ((FM.t 0).tr (FM.t 1)) (up_s _ _ _ _) (fun h => absurd h (by decide))
  · have hr : rBetween N a b = (1, 0) := if_neg (fun h => h1 h.1)
    rw [hr]
    repeat (first | (with_reducible refine wp_L ?_) | (with_reducible refine wp_g ?_ ?_; · omega) | (with_reducible refine wp_f ?_ ?_; · omega) | (with_reducible refine wp_t ?_ ?_; · omega) | (with_reducible refine wp_e (eof _ _ _) ?_) | (with_reducible refine wp_e (eat _ _ _) ?_) | (with_reducible refine wp_e (enodes _) ?_))
    exact mq (hM1.t 1) ((FM.t 0).tr (FM.t 1)) (up_s _ _ _ _) (fun h => absurd h (by decide))
theorem mnodes (hM : MI N V U S f c L E B D u) : f_X10_nodes u = some (nds N, u) := by
  rw [enodes, hM.1.1 4 (by decide) (by decide), hM.1.1 5 (by decide) (by decide)]; rfl
theorem mTravel {a b : Int} (hM : MI N V U S f c L E B D u) (hP : PW N V U S f c L E B D) (ha : InR a) (hb : InR b) : wp (f_X10_travel a b u) (fun q => q.2 40 0 = cd1 (rTravel N a b).1 ∧ (cd1 (rTravel N a b).1 = 0 → q.1 = (rTravel N a b).2) ∧ FM u q.2 ∧ MI N V U S f c L E B D q.2) := by
  have hN := hP.1
  have n0 := hN.1
  have nd := nds_b hN
  have hM1 := hM.t 0
  have z0 : up u 40 0 0 40 0 = 0 := up_s _ _ _ _
  have a0 := hM1.1.1 0 (by decide) (by decide)
  unfold f_X10_travel
  refine wp_L ?_
  refine wp_e (mnodes hM1) ?_
  refine wp_ei (eno _ ha (by omega) z0) (fun h1 => ?_) (fun h1 => ?_)
  · repeat (first | (with_reducible refine wp_L ?_) | (with_reducible refine wp_g ?_ ?_; · omega) | (with_reducible refine wp_f ?_ ?_; · omega) | (with_reducible refine wp_t ?_ ?_; · omega) | (with_reducible refine wp_e (eof _ _ _) ?_) | (with_reducible refine wp_e (eat _ _ _) ?_) | (with_reducible refine wp_e (enodes _) ?_))
    rw [a0]
    refine wp_ei (eno _ hb (by omega) z0) (fun h2 => ?_) (fun h2 => ?_)
    · have hr : rTravel N a b = (0, tvN N a b) := if_pos ⟨h1, h2⟩
      rw [hr]
      repeat (first | (with_reducible refine wp_L ?_) | (with_reducible refine wp_g ?_ ?_; · omega) | (with_reducible refine wp_f ?_ ?_; · omega) | (with_reducible refine wp_t ?_ ?_; · omega) | (with_reducible refine wp_e (eof _ _ _) ?_) | (with_reducible refine wp_e (eat _ _ _) ?_) | (with_reducible refine wp_e (enodes _) ?_))
      refine wp_e (enodeApart hN hM1.1 h1 h2) ?_
      refine wp_e (etimeFor hN hM1.1 (dst_b _ _)) ?_
      exact mq hM1 (FM.t 0) z0 (fun _ => rfl)
    · have hr : rTravel N a b = (1, 0) := if_neg (fun h => h2 h.2)
      rw [hr]
      repeat (first | (with_reducible refine wp_L ?_) | (with_reducible refine wp_g ?_ ?_; · omega) | (with_reducible refine wp_f ?_ ?_; · omega) | (with_reducible refine wp_t ?_ ?_; · omega) | (with_reducible refine wp_e (eof _ _ _) ?_) | (with_reducible refine wp_e (eat _ _ _) ?_) | (with_reducible refine wp_e (enodes _) ?_))
      exact mq (hM1.t 1) ((FM.t 0).tr (FM.t 1)) (up_s _ _ _ _) (fun h => absurd h (by decide))
  · have hr : rTravel N a b = (1, 0) := if_neg (fun h => h1 h.1)
    rw [hr]
    repeat (first | (with_reducible refine wp_L ?_) | (with_reducible refine wp_g ?_ ?_; · omega) | (with_reducible refine wp_f ?_ ?_; · omega) | (with_reducible refine wp_t ?_ ?_; · omega) | (with_reducible refine wp_e (eof _ _ _) ?_) | (with_reducible refine wp_e (eat _ _ _) ?_) | (with_reducible refine wp_e (enodes _) ?_))
    exact mq (hM1.t 1) ((FM.t 0).tr (FM.t 1)) (up_s _ _ _ _) (fun h => absurd h (by decide))
theorem mLadder {a : Int} (hM : MI N V U S f c L E B D u) (hP : PW N V U S f c L E B D) (ha : InR a) : wp (f_X10_ladder a u) (fun q => q.2 40 0 = cd1 (rLadder N a).1 ∧ (cd1 (rLadder N a).1 = 0 → q.1 = (rLadder N a).2) ∧ FM u q.2 ∧ MI N V U S f c L E B D q.2) := by
  have hN := hP.1
  have hM1 := hM.t 0
  have z0 : up u 40 0 0 40 0 = 0 := up_s _ _ _ _
  unfold f_X10_ladder
  refine wp_L ?_
  refine wp_e (ewithin _ ha (by decide) (by decide)) ?_
  by_cases h : 0 ≤ a ∧ a ≤ 99999
  · rw [if_pos h]
    have hr : rLadder N a = (0, rung N a) := if_pos h
    rw [hr]
    repeat (first | (with_reducible refine wp_L ?_) | (with_reducible refine wp_g ?_ ?_; · omega) | (with_reducible refine wp_f ?_ ?_; · omega) | (with_reducible refine wp_t ?_ ?_; · omega) | (with_reducible refine wp_e (eof _ _ _) ?_) | (with_reducible refine wp_e (eat _ _ _) ?_) | (with_reducible refine wp_e (enodes _) ?_))
    refine wp_e (ethrowsIf0 _ (by decide) z0 (by decide)) ?_
    repeat (first | (with_reducible refine wp_L ?_) | (with_reducible refine wp_g ?_ ?_; · omega) | (with_reducible refine wp_f ?_ ?_; · omega) | (with_reducible refine wp_t ?_ ?_; · omega) | (with_reducible refine wp_e (eof _ _ _) ?_) | (with_reducible refine wp_e (eat _ _ _) ?_) | (with_reducible refine wp_e (enodes _) ?_))
    refine wp_e (erungOf hN hM1.1 ha) ?_
    exact mq hM1 (FM.t 0) z0 (fun _ => rfl)
  · rw [if_neg h]
    have hr : rLadder N a = (2, 0) := if_neg h
    rw [hr]
    repeat (first | (with_reducible refine wp_L ?_) | (with_reducible refine wp_g ?_ ?_; · omega) | (with_reducible refine wp_f ?_ ?_; · omega) | (with_reducible refine wp_t ?_ ?_; · omega) | (with_reducible refine wp_e (eof _ _ _) ?_) | (with_reducible refine wp_e (eat _ _ _) ?_) | (with_reducible refine wp_e (enodes _) ?_))
    refine wp_e (ethrowsIf0 _ (by decide) z0 (by decide)) ?_
    repeat (first | (with_reducible refine wp_L ?_) | (with_reducible refine wp_g ?_ ?_; · omega) | (with_reducible refine wp_f ?_ ?_; · omega) | (with_reducible refine wp_t ?_ ?_; · omega) | (with_reducible refine wp_e (eof _ _ _) ?_) | (with_reducible refine wp_e (eat _ _ _) ?_) | (with_reducible refine wp_e (enodes _) ?_))
    exact mq (hM1.t 1) ((FM.t 0).tr (FM.t 1)) (up_s _ _ _ _) (fun h => absurd h (by decide))
theorem mStation {s x : Int} (hM : MI N V U S f c L E B D u) (hP : PW N V U S f c L E B D) (hs : InR s) (hx : InR x) : wp (f_X10_station s x u) (fun q => q.2 40 0 = cd2 (rStation N V s x).1 ∧ (cd2 (rStation N V s x).1 = 0 → q.1 = (rStation N V s x).2) ∧ FM u q.2 ∧ MI N V U S f c L E B D q.2) := by
  have hN := hP.1
  have n0 := hN.1
  have h8 := hN.2.2.2.2.2.2.2.2.1
  have h9 := hN.2.2.2.2.2.2.2.2.2.1
  have hVb := hP.2.1.1.1
  have hM1 := hM.t 0
  have z0 : up u 40 0 0 40 0 = 0 := up_s _ _ _ _
  have a8 := hM1.1.1 8 (by decide) (by decide)
  have a9 := hM1.1.1 9 (by decide) (by decide)
  unfold f_X10_station
  refine wp_ei (enoStation hM hN hs) (fun h1 => ?_) (fun h1 => ?_)
  · have no : rStation N V s x = (if x = 0 then (0, N 1 s) else if x = 1 then (0, N 2 s) else if x = 2 then (0, V 1 s) else if x = 3 then (0, lat V s (N 0 8)) else if x = 4 then (0, lat V s (N 0 9)) else if x = 5 then (0, rto N V s) else if x = 6 then (0, V 5 s) else if x = 7 then (0, V 6 s) else (2, 0)) := if_pos h1
    rw [no]
    repeat (first | (with_reducible refine wp_L ?_) | (with_reducible refine wp_g ?_ ?_; · omega) | (with_reducible refine wp_f ?_ ?_; · omega) | (with_reducible refine wp_t ?_ ?_; · omega) | (with_reducible refine wp_e (eof _ _ _) ?_) | (with_reducible refine wp_e (eat _ _ _) ?_) | (with_reducible refine wp_e (enodes _) ?_))
    refine wp_e (ewithin _ hx (by decide) (by decide)) ?_
    by_cases h : 0 ≤ x ∧ x ≤ 7
    · rw [if_pos h]
      repeat (first | (with_reducible refine wp_L ?_) | (with_reducible refine wp_g ?_ ?_; · omega) | (with_reducible refine wp_f ?_ ?_; · omega) | (with_reducible refine wp_t ?_ ?_; · omega) | (with_reducible refine wp_e (eof _ _ _) ?_) | (with_reducible refine wp_e (eat _ _ _) ?_) | (with_reducible refine wp_e (enodes _) ?_))
      refine wp_e (ethrowsIf0 _ (by decide) z0 (by decide)) ?_
      repeat (first | (with_reducible refine wp_L ?_) | (with_reducible refine wp_g ?_ ?_; · omega) | (with_reducible refine wp_f ?_ ?_; · omega) | (with_reducible refine wp_t ?_ ?_; · omega) | (with_reducible refine wp_e (eof _ _ _) ?_) | (with_reducible refine wp_e (eat _ _ _) ?_) | (with_reducible refine wp_e (enodes _) ?_))
      have h6 : x = 0 ∨ x = 1 ∨ x = 2 ∨ x = 3 ∨ x = 4 ∨ x = 5 ∨ x = 6 ∨ x = 7 := by omega
      rcases h6 with rfl | rfl | rfl | rfl | rfl | rfl | rfl | rfl
      · repeat (first | (with_reducible refine wp_L ?_) | (with_reducible refine wp_g ?_ ?_; · omega) | (with_reducible refine wp_f ?_ ?_; · omega) | (with_reducible refine wp_t ?_ ?_; · omega) | (with_reducible refine wp_e (eof _ _ _) ?_) | (with_reducible refine wp_e (eat _ _ _) ?_) | (with_reducible refine wp_e (enodes _) ?_))
        exact mq hM1 (FM.t 0) z0 (fun _ => (hM1.1.2.1 s h1.1 h1.2).1)
      · repeat (first | (with_reducible refine wp_L ?_) | (with_reducible refine wp_g ?_ ?_; · omega) | (with_reducible refine wp_f ?_ ?_; · omega) | (with_reducible refine wp_t ?_ ?_; · omega) | (with_reducible refine wp_e (eof _ _ _) ?_) | (with_reducible refine wp_e (eat _ _ _) ?_) | (with_reducible refine wp_e (enodes _) ?_))
        exact mq hM1 (FM.t 0) z0 (fun _ => (hM1.1.2.1 s h1.1 h1.2).2)
      · repeat (first | (with_reducible refine wp_L ?_) | (with_reducible refine wp_g ?_ ?_; · omega) | (with_reducible refine wp_f ?_ ?_; · omega) | (with_reducible refine wp_t ?_ ?_; · omega) | (with_reducible refine wp_e (eof _ _ _) ?_) | (with_reducible refine wp_e (eat _ _ _) ?_) | (with_reducible refine wp_e (enodes _) ?_))
        exact mq hM1 (FM.t 0) z0 (fun _ => hM1.2.1.lv h1.1 (by omega))
      · repeat (first | (with_reducible refine wp_L ?_) | (with_reducible refine wp_g ?_ ?_; · omega) | (with_reducible refine wp_f ?_ ?_; · omega) | (with_reducible refine wp_t ?_ ?_; · omega) | (with_reducible refine wp_e (eof _ _ _) ?_) | (with_reducible refine wp_e (eat _ _ _) ?_) | (with_reducible refine wp_e (enodes _) ?_))
        rw [a8]
        refine wp_e (elatest hN hVb hM1.2.1 (by omega) (by omega)) ?_
        exact mq hM1 (FM.t 0) z0 (fun _ => rfl)
      · repeat (first | (with_reducible refine wp_L ?_) | (with_reducible refine wp_g ?_ ?_; · omega) | (with_reducible refine wp_f ?_ ?_; · omega) | (with_reducible refine wp_t ?_ ?_; · omega) | (with_reducible refine wp_e (eof _ _ _) ?_) | (with_reducible refine wp_e (eat _ _ _) ?_) | (with_reducible refine wp_e (enodes _) ?_))
        rw [a9]
        refine wp_e (elatest hN hVb hM1.2.1 (by omega) (by omega)) ?_
        exact mq hM1 (FM.t 0) z0 (fun _ => rfl)
      · repeat (first | (with_reducible refine wp_L ?_) | (with_reducible refine wp_g ?_ ?_; · omega) | (with_reducible refine wp_f ?_ ?_; · omega) | (with_reducible refine wp_t ?_ ?_; · omega) | (with_reducible refine wp_e (eof _ _ _) ?_) | (with_reducible refine wp_e (eat _ _ _) ?_) | (with_reducible refine wp_e (enodes _) ?_))
        refine wp_e (eratioOf hN hM1.1 hVb hM1.2.1 (by omega)) ?_
        exact mq hM1 (FM.t 0) z0 (fun _ => rfl)
      · repeat (first | (with_reducible refine wp_L ?_) | (with_reducible refine wp_g ?_ ?_; · omega) | (with_reducible refine wp_f ?_ ?_; · omega) | (with_reducible refine wp_t ?_ ?_; · omega) | (with_reducible refine wp_e (eof _ _ _) ?_) | (with_reducible refine wp_e (eat _ _ _) ?_) | (with_reducible refine wp_e (enodes _) ?_))
        exact mq hM1 (FM.t 0) z0 (fun _ => hM1.2.1.on h1.1 (by omega))
      · repeat (first | (with_reducible refine wp_L ?_) | (with_reducible refine wp_g ?_ ?_; · omega) | (with_reducible refine wp_f ?_ ?_; · omega) | (with_reducible refine wp_t ?_ ?_; · omega) | (with_reducible refine wp_e (eof _ _ _) ?_) | (with_reducible refine wp_e (eat _ _ _) ?_) | (with_reducible refine wp_e (enodes _) ?_))
        exact mq hM1 (FM.t 0) z0 (fun _ => hM1.2.1.mu h1.1 (by omega))
    · rw [if_neg h]
      repeat (first | (with_reducible refine wp_L ?_) | (with_reducible refine wp_g ?_ ?_; · omega) | (with_reducible refine wp_f ?_ ?_; · omega) | (with_reducible refine wp_t ?_ ?_; · omega) | (with_reducible refine wp_e (eof _ _ _) ?_) | (with_reducible refine wp_e (eat _ _ _) ?_) | (with_reducible refine wp_e (enodes _) ?_))
      refine wp_e (ethrowsIf0 _ (by decide) z0 (by decide)) ?_
      repeat (first | (with_reducible refine wp_L ?_) | (with_reducible refine wp_g ?_ ?_; · omega) | (with_reducible refine wp_f ?_ ?_; · omega) | (with_reducible refine wp_t ?_ ?_; · omega) | (with_reducible refine wp_e (eof _ _ _) ?_) | (with_reducible refine wp_e (eat _ _ _) ?_) | (with_reducible refine wp_e (enodes _) ?_))
      have e2 : (if x = 0 then ((0 : Nat), N 1 s) else if x = 1 then (0, N 2 s) else if x = 2 then (0, V 1 s) else if x = 3 then (0, lat V s (N 0 8)) else if x = 4 then (0, lat V s (N 0 9)) else if x = 5 then (0, rto N V s) else if x = 6 then (0, V 5 s) else if x = 7 then (0, V 6 s) else (2, 0)) = (2, 0) := by
        rw [if_neg (by omega), if_neg (by omega), if_neg (by omega), if_neg (by omega), if_neg (by omega), if_neg (by omega), if_neg (by omega), if_neg (by omega)]
      rw [e2]
      exact mq (hM1.t 2) ((FM.t 0).tr (FM.t 2)) (up_s _ _ _ _) (fun h => absurd h (by decide))
  · have hr : rStation N V s x = (1, 0) := if_neg h1
    rw [hr]
    repeat (first | (with_reducible refine wp_L ?_) | (with_reducible refine wp_g ?_ ?_; · omega) | (with_reducible refine wp_f ?_ ?_; · omega) | (with_reducible refine wp_t ?_ ?_; · omega) | (with_reducible refine wp_e (eof _ _ _) ?_) | (with_reducible refine wp_e (eat _ _ _) ?_) | (with_reducible refine wp_e (enodes _) ?_))
    exact mq (hM1.t 1) ((FM.t 0).tr (FM.t 1)) (up_s _ _ _ _) (fun h => absurd h (by decide))
theorem mTrig (hM : MI N V U S f c L E B D u) (hP : PW N V U S f c L E B D) : f_X10_triggered u = some (rTrig N V, up u 40 0 0) := by
  have n0 := hP.1.1
  have hM1 := hM.t 0
  have a0 := hM1.1.1 0 (by decide) (by decide)
  refine wp_eq ?_
  unfold f_X10_triggered
  refine wp_L ?_
  refine wl3 (fun f i v => v = up u 40 0 0 ∧ 0 ≤ i ∧ i ≤ N 0 0 ∧ f = sg (fun s => V 5 s) i.toNat) (fun _ i _ => (N 0 0 - i).toNat) (fun go f i v hI hg => ?_) FU _ _ _ ⟨rfl, by omega, by omega, rfl⟩ (FU_l (by omega))
  obtain ⟨rfl, h0, h1, rfl⟩ := hI
  unfold s_X10_triggered_9
  refine wp_g (by omega) ?_
  refine wp_i (fun cc => ?_) (fun cc => ?_)
  · refine wp_s ?_
    rw [show i = N 0 0 by omega]; rfl
  · have r := hM1.2.1.on (s := i) h0 (by omega)
    repeat (first | (with_reducible refine wp_L ?_) | (with_reducible refine wp_g ?_ ?_; · omega) | (with_reducible refine wp_f ?_ ?_; · omega) | (with_reducible refine wp_t ?_ ?_; · omega) | (with_reducible refine wp_e (eof _ _ _) ?_) | (with_reducible refine wp_e (eat _ _ _) ?_) | (with_reducible refine wp_e (enodes _) ?_))
    refine hg _ _ _ ⟨rfl, by omega, by omega, ?_⟩ (by omega)
    rw [sg_s h0, r]
theorem mPick {p x : Int} (hM : MI N V U S f c L E B D u) (hP : PW N V U S f c L E B D) (hp : InR p) (hx : InR x) : wp (f_X10_pick p x u) (fun q => q.2 40 0 = cd2 (rPick V p x).1 ∧ (cd2 (rPick V p x).1 = 0 → q.1 = (rPick V p x).2) ∧ FM u q.2 ∧ MI N V U S f c L E B D q.2) := by
  have hVb := hP.2.1.1.1
  have b1 := hVb.2.1
  have hM1 := hM.t 0
  have z0 : up u 40 0 0 40 0 = 0 := up_s _ _ _ _
  unfold f_X10_pick
  refine wp_L ?_
  refine wp_ei (enoPick hM1 hVb z0 hp) (fun h1 => ?_) (fun h1 => ?_)
  · have no : rPick V p x = (if x = 0 then (0, V 8 p) else if x = 1 then (0, V 9 p) else if x = 2 then (0, V 10 p) else if x = 3 then (0, V 11 p) else if x = 4 then (0, V 12 p) else (2, 0)) := if_pos h1
    rw [no]
    repeat (first | (with_reducible refine wp_L ?_) | (with_reducible refine wp_g ?_ ?_; · omega) | (with_reducible refine wp_f ?_ ?_; · omega) | (with_reducible refine wp_t ?_ ?_; · omega) | (with_reducible refine wp_e (eof _ _ _) ?_) | (with_reducible refine wp_e (eat _ _ _) ?_) | (with_reducible refine wp_e (enodes _) ?_))
    refine wp_e (ewithin _ hx (by decide) (by decide)) ?_
    by_cases h : 0 ≤ x ∧ x ≤ 4
    · rw [if_pos h]
      repeat (first | (with_reducible refine wp_L ?_) | (with_reducible refine wp_g ?_ ?_; · omega) | (with_reducible refine wp_f ?_ ?_; · omega) | (with_reducible refine wp_t ?_ ?_; · omega) | (with_reducible refine wp_e (eof _ _ _) ?_) | (with_reducible refine wp_e (eat _ _ _) ?_) | (with_reducible refine wp_e (enodes _) ?_))
      refine wp_e (ethrowsIf0 _ (by decide) z0 (by decide)) ?_
      repeat (first | (with_reducible refine wp_L ?_) | (with_reducible refine wp_g ?_ ?_; · omega) | (with_reducible refine wp_f ?_ ?_; · omega) | (with_reducible refine wp_t ?_ ?_; · omega) | (with_reducible refine wp_e (eof _ _ _) ?_) | (with_reducible refine wp_e (eat _ _ _) ?_) | (with_reducible refine wp_e (enodes _) ?_))
      have h5 : x = 0 ∨ x = 1 ∨ x = 2 ∨ x = 3 ∨ x = 4 := by omega
      rcases h5 with rfl | rfl | rfl | rfl | rfl
      · repeat (first | (with_reducible refine wp_L ?_) | (with_reducible refine wp_g ?_ ?_; · omega) | (with_reducible refine wp_f ?_ ?_; · omega) | (with_reducible refine wp_t ?_ ?_; · omega) | (with_reducible refine wp_e (eof _ _ _) ?_) | (with_reducible refine wp_e (eat _ _ _) ?_) | (with_reducible refine wp_e (enodes _) ?_))
        exact mq hM1 (FM.t 0) z0 (fun _ => hM1.2.1.ps h1.1 h1.2)
      · repeat (first | (with_reducible refine wp_L ?_) | (with_reducible refine wp_g ?_ ?_; · omega) | (with_reducible refine wp_f ?_ ?_; · omega) | (with_reducible refine wp_t ?_ ?_; · omega) | (with_reducible refine wp_e (eof _ _ _) ?_) | (with_reducible refine wp_e (eat _ _ _) ?_) | (with_reducible refine wp_e (enodes _) ?_))
        exact mq hM1 (FM.t 0) z0 (fun _ => hM1.2.1.pt h1.1 h1.2)
      · repeat (first | (with_reducible refine wp_L ?_) | (with_reducible refine wp_g ?_ ?_; · omega) | (with_reducible refine wp_f ?_ ?_; · omega) | (with_reducible refine wp_t ?_ ?_; · omega) | (with_reducible refine wp_e (eof _ _ _) ?_) | (with_reducible refine wp_e (eat _ _ _) ?_) | (with_reducible refine wp_e (enodes _) ?_))
        exact mq hM1 (FM.t 0) z0 (fun _ => hM1.2.1.pp h1.1 h1.2)
      · repeat (first | (with_reducible refine wp_L ?_) | (with_reducible refine wp_g ?_ ?_; · omega) | (with_reducible refine wp_f ?_ ?_; · omega) | (with_reducible refine wp_t ?_ ?_; · omega) | (with_reducible refine wp_e (eof _ _ _) ?_) | (with_reducible refine wp_e (eat _ _ _) ?_) | (with_reducible refine wp_e (enodes _) ?_))
        exact mq hM1 (FM.t 0) z0 (fun _ => hM1.2.1.pe h1.1 h1.2)
      · repeat (first | (with_reducible refine wp_L ?_) | (with_reducible refine wp_g ?_ ?_; · omega) | (with_reducible refine wp_f ?_ ?_; · omega) | (with_reducible refine wp_t ?_ ?_; · omega) | (with_reducible refine wp_e (eof _ _ _) ?_) | (with_reducible refine wp_e (eat _ _ _) ?_) | (with_reducible refine wp_e (enodes _) ?_))
        exact mq hM1 (FM.t 0) z0 (fun _ => hM1.2.1.pr h1.1 h1.2)
    · rw [if_neg h]
      repeat (first | (with_reducible refine wp_L ?_) | (with_reducible refine wp_g ?_ ?_; · omega) | (with_reducible refine wp_f ?_ ?_; · omega) | (with_reducible refine wp_t ?_ ?_; · omega) | (with_reducible refine wp_e (eof _ _ _) ?_) | (with_reducible refine wp_e (eat _ _ _) ?_) | (with_reducible refine wp_e (enodes _) ?_))
      refine wp_e (ethrowsIf0 _ (by decide) z0 (by decide)) ?_
      repeat (first | (with_reducible refine wp_L ?_) | (with_reducible refine wp_g ?_ ?_; · omega) | (with_reducible refine wp_f ?_ ?_; · omega) | (with_reducible refine wp_t ?_ ?_; · omega) | (with_reducible refine wp_e (eof _ _ _) ?_) | (with_reducible refine wp_e (eat _ _ _) ?_) | (with_reducible refine wp_e (enodes _) ?_))
      have e2 : (if x = 0 then ((0 : Nat), V 8 p) else if x = 1 then (0, V 9 p) else if x = 2 then (0, V 10 p) else if x = 3 then (0, V 11 p) else if x = 4 then (0, V 12 p) else (2, 0)) = (2, 0) := by
        rw [if_neg (by omega), if_neg (by omega), if_neg (by omega), if_neg (by omega), if_neg (by omega)]
      rw [e2]
      exact mq (hM1.t 2) ((FM.t 0).tr (FM.t 2)) (up_s _ _ _ _) (fun h => absurd h (by decide))
  · have hr : rPick V p x = (1, 0) := if_neg h1
    rw [hr]
    repeat (first | (with_reducible refine wp_L ?_) | (with_reducible refine wp_g ?_ ?_; · omega) | (with_reducible refine wp_f ?_ ?_; · omega) | (with_reducible refine wp_t ?_ ?_; · omega) | (with_reducible refine wp_e (eof _ _ _) ?_) | (with_reducible refine wp_e (eat _ _ _) ?_) | (with_reducible refine wp_e (enodes _) ?_))
    exact mq (hM1.t 1) ((FM.t 0).tr (FM.t 1)) (up_s _ _ _ _) (fun h => absurd h (by decide))
theorem mFits {p q : Int} (hM : MI N V U S f c L E B D u) (hP : PW N V U S f c L E B D) (hp : InR p) (hq : InR q) : wp (f_X10_fits p q u) (fun z => z.2 40 0 = cd1 (rFits N V p q).1 ∧ (cd1 (rFits N V p q).1 = 0 → z.1 = (rFits N V p q).2) ∧ FM u z.2 ∧ MI N V U S f c L E B D z.2) := by
  have hVb := hP.2.1.1.1
  have hM1 := hM.t 0
  have z0 : up u 40 0 0 40 0 = 0 := up_s _ _ _ _
  unfold f_X10_fits
  refine wp_L ?_
  refine wp_ei (enoPick hM1 hVb z0 hp) (fun h1 => ?_) (fun h1 => ?_)
  · repeat (first | (with_reducible refine wp_L ?_) | (with_reducible refine wp_g ?_ ?_; · omega) | (with_reducible refine wp_f ?_ ?_; · omega) | (with_reducible refine wp_t ?_ ?_; · omega) | (with_reducible refine wp_e (eof _ _ _) ?_) | (with_reducible refine wp_e (eat _ _ _) ?_) | (with_reducible refine wp_e (enodes _) ?_))
    refine wp_ei (enoPick hM1 hVb z0 hq) (fun h2 => ?_) (fun h2 => ?_)
    · have hr : rFits N V p q = (0, if fit N V p q then 1 else 0) := if_pos ⟨h1, h2⟩
      rw [hr]
      repeat (first | (with_reducible refine wp_L ?_) | (with_reducible refine wp_g ?_ ?_; · omega) | (with_reducible refine wp_f ?_ ?_; · omega) | (with_reducible refine wp_t ?_ ?_; · omega) | (with_reducible refine wp_e (eof _ _ _) ?_) | (with_reducible refine wp_e (eat _ _ _) ?_) | (with_reducible refine wp_e (enodes _) ?_))
      refine wp_e (eareFit hP.1 hM1.1 hVb hM1.2.1 h1 h2) ?_
      by_cases hf : fit N V p q
      · rw [if_pos hf]
        repeat (first | (with_reducible refine wp_L ?_) | (with_reducible refine wp_g ?_ ?_; · omega) | (with_reducible refine wp_f ?_ ?_; · omega) | (with_reducible refine wp_t ?_ ?_; · omega) | (with_reducible refine wp_e (eof _ _ _) ?_) | (with_reducible refine wp_e (eat _ _ _) ?_) | (with_reducible refine wp_e (enodes _) ?_))
        exact mq hM1 (FM.t 0) z0 (fun _ => rfl)
      · rw [if_neg hf]
        repeat (first | (with_reducible refine wp_L ?_) | (with_reducible refine wp_g ?_ ?_; · omega) | (with_reducible refine wp_f ?_ ?_; · omega) | (with_reducible refine wp_t ?_ ?_; · omega) | (with_reducible refine wp_e (eof _ _ _) ?_) | (with_reducible refine wp_e (eat _ _ _) ?_) | (with_reducible refine wp_e (enodes _) ?_))
        exact mq hM1 (FM.t 0) z0 (fun _ => rfl)
    · have hr : rFits N V p q = (1, 0) := if_neg (fun h => h2 h.2)
      rw [hr]
      repeat (first | (with_reducible refine wp_L ?_) | (with_reducible refine wp_g ?_ ?_; · omega) | (with_reducible refine wp_f ?_ ?_; · omega) | (with_reducible refine wp_t ?_ ?_; · omega) | (with_reducible refine wp_e (eof _ _ _) ?_) | (with_reducible refine wp_e (eat _ _ _) ?_) | (with_reducible refine wp_e (enodes _) ?_))
      exact mq (hM1.t 1) ((FM.t 0).tr (FM.t 1)) (up_s _ _ _ _) (fun h => absurd h (by decide))
  · have hr : rFits N V p q = (1, 0) := if_neg (fun h => h1 h.1)
    rw [hr]
    repeat (first | (with_reducible refine wp_L ?_) | (with_reducible refine wp_g ?_ ?_; · omega) | (with_reducible refine wp_f ?_ ?_; · omega) | (with_reducible refine wp_t ?_ ?_; · omega) | (with_reducible refine wp_e (eof _ _ _) ?_) | (with_reducible refine wp_e (eat _ _ _) ?_) | (with_reducible refine wp_e (enodes _) ?_))
    exact mq (hM1.t 1) ((FM.t 0).tr (FM.t 1)) (up_s _ _ _ _) (fun h => absurd h (by decide))
theorem mMisfit {m e : Int} (hM : MI N V U S f c L E B D u) (hP : PW N V U S f c L E B D) (hm : InR m) (he : InR e) : wp (f_X10_misfit m e u) (fun q => q.2 40 0 = cd2 (rMisfit N V m e).1 ∧ (cd2 (rMisfit N V m e).1 = 0 → q.1 = (rMisfit N V m e).2) ∧ FM u q.2 ∧ MI N V U S f c L E B D q.2) := by
  have hN := hP.1
  have nd := nds_b hN
  have hV := hP.2.1.1
  have hVb := hV.1
  have hM1 := hM.t 0
  have z0 : up u 40 0 0 40 0 = 0 := up_s _ _ _ _
  unfold f_X10_misfit
  refine wp_L ?_
  refine wp_e (mnodes hM1) ?_
  refine wp_ei (eno _ hm (by omega) z0) (fun h1 => ?_) (fun h1 => ?_)
  · repeat (first | (with_reducible refine wp_L ?_) | (with_reducible refine wp_g ?_ ?_; · omega) | (with_reducible refine wp_f ?_ ?_; · omega) | (with_reducible refine wp_t ?_ ?_; · omega) | (with_reducible refine wp_e (eof _ _ _) ?_) | (with_reducible refine wp_e (eat _ _ _) ?_) | (with_reducible refine wp_e (enodes _) ?_))
    refine wp_ei (enoEvent hM1 hVb z0 he) (fun h2 => ?_) (fun h2 => ?_)
    · have hr : rMisfit N V m e = if V 14 e = 1 then (3, 0) else (0, msf N V m e) := if_pos ⟨h1, h2⟩
      rw [hr]
      repeat (first | (with_reducible refine wp_L ?_) | (with_reducible refine wp_g ?_ ?_; · omega) | (with_reducible refine wp_f ?_ ?_; · omega) | (with_reducible refine wp_t ?_ ?_; · omega) | (with_reducible refine wp_e (eof _ _ _) ?_) | (with_reducible refine wp_e (eat _ _ _) ?_) | (with_reducible refine wp_e (enodes _) ?_))
      refine wp_e (eisRetracted hVb hM1.2.1 h2) ?_
      by_cases h3 : V 14 e = 1
      · rw [if_pos h3, if_pos h3]
        refine wp_e (ethrowsIf0 _ (by decide) z0 (by decide)) ?_
        repeat (first | (with_reducible refine wp_L ?_) | (with_reducible refine wp_g ?_ ?_; · omega) | (with_reducible refine wp_f ?_ ?_; · omega) | (with_reducible refine wp_t ?_ ?_; · omega) | (with_reducible refine wp_e (eof _ _ _) ?_) | (with_reducible refine wp_e (eat _ _ _) ?_) | (with_reducible refine wp_e (enodes _) ?_))
        exact mq (hM1.t 2) ((FM.t 0).tr (FM.t 2)) (up_s _ _ _ _) (fun h => absurd h (by decide))
      · rw [if_neg h3, if_neg h3]
        refine wp_e (ethrowsIf0 _ (by decide) z0 (by decide)) ?_
        repeat (first | (with_reducible refine wp_L ?_) | (with_reducible refine wp_g ?_ ?_; · omega) | (with_reducible refine wp_f ?_ ?_; · omega) | (with_reducible refine wp_t ?_ ?_; · omega) | (with_reducible refine wp_e (eof _ _ _) ?_) | (with_reducible refine wp_e (eat _ _ _) ?_) | (with_reducible refine wp_e (enodes _) ?_))
        refine wp_e (emisfitOf hN hM1.1 hVb hM1.2.1 h1 he (pk_1 hN hV h2 h3)) ?_
        exact mq hM1 (FM.t 0) z0 (fun _ => rfl)
    · have hr : rMisfit N V m e = (1, 0) := if_neg (fun h => h2 h.2)
      rw [hr]
      repeat (first | (with_reducible refine wp_L ?_) | (with_reducible refine wp_g ?_ ?_; · omega) | (with_reducible refine wp_f ?_ ?_; · omega) | (with_reducible refine wp_t ?_ ?_; · omega) | (with_reducible refine wp_e (eof _ _ _) ?_) | (with_reducible refine wp_e (eat _ _ _) ?_) | (with_reducible refine wp_e (enodes _) ?_))
      exact mq (hM1.t 1) ((FM.t 0).tr (FM.t 1)) (up_s _ _ _ _) (fun h => absurd h (by decide))
  · have hr : rMisfit N V m e = (1, 0) := if_neg (fun h => h1 h.1)
    rw [hr]
    repeat (first | (with_reducible refine wp_L ?_) | (with_reducible refine wp_g ?_ ?_; · omega) | (with_reducible refine wp_f ?_ ?_; · omega) | (with_reducible refine wp_t ?_ ?_; · omega) | (with_reducible refine wp_e (eof _ _ _) ?_) | (with_reducible refine wp_e (eat _ _ _) ?_) | (with_reducible refine wp_e (enodes _) ?_))
    exact mq (hM1.t 1) ((FM.t 0).tr (FM.t 1)) (up_s _ _ _ _) (fun h => absurd h (by decide))
theorem ep_neg {V : uS} {e : Int} : ∀ {d : Nat} {p l : Int}, l < 0 → ep V e d p l = -1 := by
  intro d
  induction d with
  | zero => intro p l _; rfl
  | succ d ih =>
    intro p l hl
    show (if V 11 p = e then (if l = 0 then p else ep V e d (p + 1) (l - 1)) else ep V e d (p + 1) l) = -1
    rw [if_neg (show ¬ l = 0 by omega), ih (by omega), ih hl]
    split <;> rfl
theorem mEventPick {e k : Int} (hM : MI N V U S f c L E B D u) (hP : PW N V U S f c L E B D) (he : InR e) (hk : InR k) : wp (f_X10_eventPick e k u) (fun q => q.2 40 0 = cd1 (rEventPick V e k).1 ∧ (cd1 (rEventPick V e k).1 = 0 → q.1 = (rEventPick V e k).2) ∧ FM u q.2 ∧ MI N V U S f c L E B D q.2) := by
  have hVb := hP.2.1.1.1
  have hM1 := hM.t 0
  have z0 : up u 40 0 0 40 0 = 0 := up_s _ _ _ _
  have hV := hVb
  obtain ⟨b0, b1, b2, bS, bI, bP, bE⟩ := hV
  have e1 := hM1.2.1.n
  unfold f_X10_eventPick
  refine wp_L ?_
  refine wp_ei (enoEvent hM1 hVb z0 he) (fun h1 => ?_) (fun h1 => ?_)
  · have hr : rEventPick V e k = (0, ep V e (V 0 1).toNat 0 k) := if_pos h1
    rw [hr]
    repeat (first | (with_reducible refine wp_L ?_) | (with_reducible refine wp_g ?_ ?_; · omega) | (with_reducible refine wp_f ?_ ?_; · omega) | (with_reducible refine wp_t ?_ ?_; · omega) | (with_reducible refine wp_e (eof _ _ _) ?_) | (with_reducible refine wp_e (eat _ _ _) ?_) | (with_reducible refine wp_e (enodes _) ?_))
    refine wl3 (fun l i v => v = up u 40 0 0 ∧ (0 ≤ i ∧ i ≤ V 0 1) ∧ InR l ∧ (0 ≤ k → 0 ≤ l) ∧ ep V e (V 0 1 - i).toNat i l = ep V e (V 0 1).toNat 0 k ∧ (k < 0 → l < 0)) (fun _ i _ => (V 0 1 - i).toNat) (fun go l i v hI hg => ?_) FU _ _ _ ⟨rfl, by omega, hk, fun h => h, by rw [Int.sub_zero], fun h => h⟩ (FU_l (by omega))
    obtain ⟨rfl, hi, hl, hl0, hr, hln⟩ := hI
    unfold s_X10_eventPick_20
    refine wp_g (by omega) ?_
    refine wp_i (fun cc => ?_) (fun cc => ?_)
    · rw [show (V 0 1 - i).toNat = 0 by omega] at hr
      exact mq hM1 (FM.t 0) z0 (fun _ => hr)
    · refine wp_g (by omega) ?_
      refine wp_i (fun cc => ?_) (fun cc => ?_)
      · rw [ep_neg (hln (by assumption))] at hr
        exact mq hM1 (FM.t 0) z0 (fun _ => hr)
      · have r := hM1.2.1.pe (s := i) hi.1 (by omega)
        have bp := bP i hi.1 (by omega)
        rw [show (V 0 1 - i).toNat = (V 0 1 - (i + 1)).toNat + 1 by omega] at hr
        have hr2 : (if V 11 i = e then (if l = 0 then i else ep V e (V 0 1 - (i + 1)).toNat (i + 1) (l - 1)) else ep V e (V 0 1 - (i + 1)).toNat (i + 1) l) = ep V e (V 0 1).toNat 0 k := hr
        repeat (first | (with_reducible refine wp_L ?_) | (with_reducible refine wp_g ?_ ?_; · omega) | (with_reducible refine wp_f ?_ ?_; · omega) | (with_reducible refine wp_t ?_ ?_; · omega) | (with_reducible refine wp_e (eof _ _ _) ?_) | (with_reducible refine wp_e (eat _ _ _) ?_) | (with_reducible refine wp_e (enodes _) ?_))
        refine wp_i (fun cc => ?_) (fun cc => ?_)
        · rw [if_pos (by omega)] at hr2
          refine wp_g (by omega) ?_
          refine wp_i (fun cc => ?_) (fun cc => ?_)
          · rw [if_pos (by assumption)] at hr2
            exact mq hM1 (FM.t 0) z0 (fun _ => hr2)
          · rw [if_neg (by assumption)] at hr2
            exact hg _ _ _ ⟨rfl, by omega, by omega, fun h => by omega, by rw [show l + -1 = l - 1 by omega]; exact hr2, fun h => by omega⟩ (by omega)
        · rw [if_neg (by omega)] at hr2
          exact hg _ _ _ ⟨rfl, by omega, hl, hl0, hr2, hln⟩ (by omega)
  · have hr : rEventPick V e k = (1, 0) := if_neg h1
    rw [hr]
    repeat (first | (with_reducible refine wp_L ?_) | (with_reducible refine wp_g ?_ ?_; · omega) | (with_reducible refine wp_f ?_ ?_; · omega) | (with_reducible refine wp_t ?_ ?_; · omega) | (with_reducible refine wp_e (eof _ _ _) ?_) | (with_reducible refine wp_e (eat _ _ _) ?_) | (with_reducible refine wp_e (enodes _) ?_))
    exact mq (hM1.t 1) ((FM.t 0).tr (FM.t 1)) (up_s _ _ _ _) (fun h => absurd h (by decide))
theorem mByte {i : Int} (hM : MI N V U S f c L E B D u) (hP : PW N V U S f c L E B D) (hi : InR i) : f_X10_describedByte i u = some (rByte D i, up u 40 0 0) := by
  have hDl := hP.2.2.2.2.2.2.2.1
  have hM1 := hM.t 0
  obtain ⟨t1, t2⟩ := hM1.2.2.2.2.2.2
  refine wp_eq ?_
  unfold f_X10_describedByte rByte
  refine wp_L ?_
  rw [t1]
  refine wp_e (ewithin _ hi (by decide) (by omega)) ?_
  by_cases h : 0 ≤ i ∧ i < (D.length : Int)
  · rw [if_pos (show 0 ≤ i ∧ i ≤ (D.length : Int) - 1 by omega), if_pos h]
    repeat (first | (with_reducible refine wp_L ?_) | (with_reducible refine wp_g ?_ ?_; · omega) | (with_reducible refine wp_f ?_ ?_; · omega) | (with_reducible refine wp_t ?_ ?_; · omega) | (with_reducible refine wp_e (eof _ _ _) ?_) | (with_reducible refine wp_e (eat _ _ _) ?_) | (with_reducible refine wp_e (enodes _) ?_))
    have e := t2 i.toNat (by omega)
    rw [show ((i.toNat : Nat) : Int) = i by omega] at e
    rw [e]
    exact wp_s rfl
  · rw [if_neg (show ¬ (0 ≤ i ∧ i ≤ (D.length : Int) - 1) by omega), if_neg h]
    repeat (first | (with_reducible refine wp_L ?_) | (with_reducible refine wp_g ?_ ?_; · omega) | (with_reducible refine wp_f ?_ ?_; · omega) | (with_reducible refine wp_t ?_ ?_; · omega) | (with_reducible refine wp_e (eof _ _ _) ?_) | (with_reducible refine wp_e (eat _ _ _) ?_) | (with_reducible refine wp_e (enodes _) ?_))
    exact wp_s rfl
end MO
