/-! pure part, 23: the class's calls that ask -/
noncomputable def med (N V : uS) (n e : Int) : Int := Classical.epsilon (isMed N V n e)
theorem med_eq {N V : uS} {n e m : Int} (h : isMed N V n e m) : med N V n e = m := med_uniq (Classical.epsilon_spec ⟨m, h⟩) h
def rSize (N V : uS) (x : Int) : Nat × Int := if x = 0 then (0, N 0 0) else if x = 1 then (0, nds N) else if x = 2 then (0, N 0 1) else if x = 3 then (0, V 0 1) else if x = 4 then (0, V 0 2) else if x = 5 then (0, lv V) else (2, 0)
def rBetween (N : uS) (a b : Int) : Nat × Int := if (0 ≤ a ∧ a < N 0 0) ∧ 0 ≤ b ∧ b < N 0 0 then (0, tvS N a b) else (1, 0)
def rTravel (N : uS) (m s : Int) : Nat × Int := if (0 ≤ m ∧ m < nds N) ∧ 0 ≤ s ∧ s < N 0 0 then (0, tvN N m s) else (1, 0)
def rLadder (N : uS) (a : Int) : Nat × Int := if 0 ≤ a ∧ a ≤ 99999 then (0, rung N a) else (2, 0)
def rStation (N V : uS) (s w : Int) : Nat × Int := if 0 ≤ s ∧ s < N 0 0 then (if w = 0 then (0, N 1 s) else if w = 1 then (0, N 2 s) else if w = 2 then (0, V 1 s) else if w = 3 then (0, lat V s (N 0 8)) else if w = 4 then (0, lat V s (N 0 9)) else if w = 5 then (0, rto N V s) else if w = 6 then (0, V 5 s) else if w = 7 then (0, V 6 s) else (2, 0)) else (1, 0)
def rTrig (N V : uS) : Int := sg (fun s => V 5 s) (N 0 0).toNat
def rPick (V : uS) (p w : Int) : Nat × Int := if 0 ≤ p ∧ p < V 0 1 then (if w = 0 then (0, V 8 p) else if w = 1 then (0, V 9 p) else if w = 2 then (0, V 10 p) else if w = 3 then (0, V 11 p) else if w = 4 then (0, V 12 p) else (2, 0)) else (1, 0)
def rFits (N V : uS) (p q : Int) : Nat × Int := if (0 ≤ p ∧ p < V 0 1) ∧ 0 ≤ q ∧ q < V 0 1 then (0, if fit N V p q then 1 else 0) else (1, 0)
noncomputable def rEvent (N V : uS) (e w : Int) : Nat × Int := if 0 ≤ e ∧ e < V 0 2 then (if w = 0 then (0, V 14 e) else if w = 1 then (0, pk V e) else if w = 2 then (0, V 13 e) else if w < 0 ∨ 6 < w then (2, 0) else if V 14 e = 1 then (0, -1) else if w = 3 then (0, nde N V e) else if w = 4 then (0, org N V (nde N V e) e) else if w = 5 then (0, msf N V (nde N V e) e) else (0, med N V (nde N V e) e)) else (1, 0)
/-- the pick of e that has so many before it, from p on, d to go -/
def ep (V : uS) (e : Int) : Nat → Int → Int → Int
  | 0, _, _ => -1
  | d + 1, p, l => if V 11 p = e then (if l = 0 then p else ep V e d (p + 1) (l - 1)) else ep V e d (p + 1) l
def rEventPick (V : uS) (e k : Int) : Nat × Int := if 0 ≤ e ∧ e < V 0 2 then (0, ep V e (V 0 1).toNat 0 k) else (1, 0)
def rMisfit (N V : uS) (m e : Int) : Nat × Int := if (0 ≤ m ∧ m < nds N) ∧ 0 ≤ e ∧ e < V 0 2 then (if V 14 e = 1 then (3, 0) else (0, msf N V m e)) else (1, 0)
def rByte (D : List Int) (i : Int) : Int := if 0 ≤ i ∧ i < (D.length : Int) then D.getD i.toNat 0 else -1
def rRatioAfter (N V : uS) (s l t : Int) : Nat × Int := if 0 ≤ s ∧ s < N 0 0 then (if (0 ≤ l ∧ l ≤ 9999) ∧ 0 ≤ t ∧ t ≤ 200 then (0, rat N (sg (sma V s l t) (N 0 8).toNat) (sg (sma V s l t) (N 0 9).toNat)) else (2, 0)) else (1, 0)
theorem sma_b {N V : uS} (hV : WFb N V) {s l t : Int} (hs : 0 ≤ s ∧ s < 8) (hl : 0 ≤ l ∧ l ≤ 9999) (b : Int) : 0 ≤ sma V s l t b ∧ sma V s l t b ≤ 9999 := by
  unfold sma
  split
  · exact hl
  · exact smA_b hV hs _
theorem smas_b {N V : uS} (hN : NWF N) (hV : WFb N V) {s l t : Int} (hs : 0 ≤ s ∧ s < 8) (hl : 0 ≤ l ∧ l ≤ 9999) : (0 ≤ sg (sma V s l t) (N 0 8).toNat ∧ sg (sma V s l t) (N 0 8).toNat ≤ 989901) ∧ (0 ≤ sg (sma V s l t) (N 0 9).toNat ∧ sg (sma V s l t) (N 0 9).toNat ≤ 989901) ∧ sg (sma V s l t) (N 0 8).toNat ≤ sg (sma V s l t) (N 0 9).toNat := by
  have h8 := hN.2.2.2.2.2.2.2.2.1
  have h9 := hN.2.2.2.2.2.2.2.2.2.1
  have a := @sg_le (sma V s l t) 9999 (N 0 8).toNat (fun i _ _ => sma_b hV hs hl i)
  have b := @sg_le (sma V s l t) 9999 (N 0 9).toNat (fun i _ _ => sma_b hV hs hl i)
  have h := @sg_mono (sma V s l t) ((N 0 9).toNat - (N 0 8).toNat) (N 0 8).toNat (fun i _ _ => (sma_b hV hs hl i).1)
  rw [show (N 0 8).toNat + ((N 0 9).toNat - (N 0 8).toNat) = (N 0 9).toNat by omega] at h
  omega
section CO
variable {u N V : uS} {U S : Int → uS} {f : Int → Int} {c L E : Int} {B : Int → Int} {D : List Int}
theorem FC.rf {u : uS} : FC u u := fun _ _ _ => rfl
/-- an answer that changes nothing -/
theorem cq0 {g : Nat} {r : Int} {R : Nat × Int} (hC : CI N V U S f c L E B D u) (h : (g, r) = R) : wp (some (g, r, u)) (fun q => (q.1, q.2.1) = R ∧ FC u q.2.2 ∧ CI N V U S f c L E B D q.2.2) := wp_s ⟨h, FC.rf, hC⟩
theorem cq1 {w : uS} {g : Nat} {r : Int} {R : Nat × Int} (hC : CI N V U S f c L E B D u) (h : (g, r) = R) (hw : ∀ d, d ≠ 30 → d ≠ 31 → d ≠ 32 → w d = u d) : wp (some (g, r, w)) (fun q => (q.1, q.2.1) = R ∧ FC u q.2.2 ∧ CI N V U S f c L E B D q.2.2) :=
  wp_s ⟨h, fun d d0 d1 => hw d (by omega) (by omega) (by omega), hC.sc (fun d hd => hw d (by unfold Scr at hd; omega) (by unfold Scr at hd; omega) (by unfold Scr at hd; omega))⟩
theorem cSize {x : Int} (hC : CI N V U S f c L E B D u) (hP : PW N V U S f c L E B D) (hx : InR x) : wp (f_X9_size x u) (fun q => (q.1, q.2.1) = rSize N V x ∧ FC u q.2.2 ∧ CI N V U S f c L E B D q.2.2) := by
  have hVb := hP.2.1.1.1
  have a := hC.2.1.2.1
  have hM := hC.2.2.1.2.1
  unfold f_X9_size
  refine wp_g (by omega) ?_
  have no : ∀ i : Int, rSize N V x = (if x = 0 then (0, N 0 0) else if x = 1 then (0, nds N) else if x = 2 then (0, N 0 1) else if x = 3 then (0, V 0 1) else if x = 4 then (0, V 0 2) else if x = 5 then (0, lv V) else (2, 0)) := fun _ => rfl
  refine wp_i (fun c => ?_) (fun c => ?_)
  · refine cq0 hC ?_
    rw [no 0, if_neg (by omega), if_neg (by omega), if_neg (by omega), if_neg (by omega), if_neg (by omega), if_neg (by omega)]
  · have h6 : x = 0 ∨ x = 1 ∨ x = 2 ∨ x = 3 ∨ x = 4 ∨ x = 5 := by omega
    rcases h6 with rfl | rfl | rfl | rfl | rfl | rfl
    · refine wp_t (by omega) ?_
      refine wp_L ?_
      refine wp_g hC.net ?_
      rw [a.1]
      exact cq0 hC rfl
    · refine wp_f (by omega) ?_
      refine wp_t (by omega) ?_
      refine wp_L ?_
      refine wp_g hC.net ?_
      refine wp_e (cnodeCount hC.2.1) ?_
      exact cq0 hC rfl
    · refine wp_f (by omega) ?_
      refine wp_f (by omega) ?_
      refine wp_t (by omega) ?_
      refine wp_L ?_
      refine wp_g hC.net ?_
      rw [a.2.1]
      exact cq0 hC rfl
    · refine wp_f (by omega) ?_
      refine wp_f (by omega) ?_
      refine wp_f (by omega) ?_
      refine wp_t (by omega) ?_
      exact cq0 hC (by rw [show u 54 1 = V 0 1 from hM.n]; rfl)
    · refine wp_f (by omega) ?_
      refine wp_f (by omega) ?_
      refine wp_f (by omega) ?_
      refine wp_f (by omega) ?_
      refine wp_t (by omega) ?_
      exact cq0 hC (by rw [show u 54 2 = V 0 2 from hM.e]; rfl)
    · refine wp_f (by omega) ?_
      refine wp_f (by omega) ?_
      refine wp_f (by omega) ?_
      refine wp_f (by omega) ?_
      refine wp_f (by omega) ?_
      refine wp_t (by omega) ?_
      refine wp_e (cstandingEvents hVb hC.2.2.1.1 hM) ?_
      exact cq0 hC rfl
theorem cBetween {a b : Int} (hC : CI N V U S f c L E B D u) (hP : PW N V U S f c L E B D) (ha : InR a) (hb : InR b) : wp (f_X9_between a b u) (fun q => (q.1, q.2.1) = rBetween N a b ∧ FC u q.2.2 ∧ CI N V U S f c L E B D q.2.2) := by
  have hN := hP.1
  unfold f_X9_between rBetween
  refine wp_bt_if (cneedStation hC hN ha) (by decide) (fun h1 => ?_) (fun h1 => cq0 hC (by rw [if_neg (fun h => h1 h.1)]))
  refine wp_bt_if (cneedStation hC hN hb) (by decide) (fun h2 => ?_) (fun h2 => cq0 hC (by rw [if_neg (fun h => h2 h.2)]))
  refine wp_L ?_
  refine wp_g hC.net ?_
  refine wp_e (ctravelOfStations hN hC.2.1 h1 h2) ?_
  exact cq0 hC (by rw [if_pos ⟨h1, h2⟩])
theorem cTravel {a b : Int} (hC : CI N V U S f c L E B D u) (hP : PW N V U S f c L E B D) (ha : InR a) (hb : InR b) : wp (f_X9_travel a b u) (fun q => (q.1, q.2.1) = rTravel N a b ∧ FC u q.2.2 ∧ CI N V U S f c L E B D q.2.2) := by
  have hN := hP.1
  unfold f_X9_travel rTravel
  refine wp_bt_if (cneedNode hC hN ha) (by decide) (fun h1 => ?_) (fun h1 => cq0 hC (by rw [if_neg (fun h => h1 h.1)]))
  refine wp_bt_if (cneedStation hC hN hb) (by decide) (fun h2 => ?_) (fun h2 => cq0 hC (by rw [if_neg (fun h => h2 h.2)]))
  refine wp_L ?_
  refine wp_g hC.net ?_
  refine wp_e (ctravelFromNode hN hC.2.1 h1 h2) ?_
  exact cq0 hC (by rw [if_pos ⟨h1, h2⟩])
theorem cLadder {a : Int} (hC : CI N V U S f c L E B D u) (hP : PW N V U S f c L E B D) (ha : InR a) : wp (f_X9_ladder a u) (fun q => (q.1, q.2.1) = rLadder N a ∧ FC u q.2.2 ∧ CI N V U S f c L E B D q.2.2) := by
  have hN := hP.1
  unfold f_X9_ladder rLadder
  refine wp_g (by omega) ?_
  refine wp_L ?_
  refine wp_i (fun cc => ?_) (fun cc => ?_)
  · exact cq0 hC (by rw [if_neg (by omega)])
  · refine wp_g (by omega) ?_
    refine wp_i (fun cc => ?_) (fun cc => ?_)
    · refine wp_L ?_
      refine wp_g hC.net ?_
      refine wp_e (cmagnitudeOf hN hC.2.1 ha) ?_
      exact cq0 hC (by rw [if_pos (by omega)])
    · exact cq0 hC (by rw [if_neg (by omega)])
theorem cStation {s x : Int} (hC : CI N V U S f c L E B D u) (hP : PW N V U S f c L E B D) (hs : InR s) (hx : InR x) : wp (f_X9_station s x u) (fun q => (q.1, q.2.1) = rStation N V s x ∧ FC u q.2.2 ∧ CI N V U S f c L E B D q.2.2) := by
  have hN := hP.1
  have n0 := hN.1
  have hVb := hP.2.1.1.1
  have a := hC.2.1
  have hM := hC.2.2.1.2.1
  have hL := hC.2.2.1.2.2
  unfold f_X9_station
  refine wp_bt_if (cneedStation hC hN hs) (by decide) (fun h1 => ?_) (fun h1 => cq0 hC (by unfold rStation; rw [if_neg h1]))
  refine wp_g (by omega) ?_
  have l := hL s h1.1 h1.2
  have l3 : u 57 s = lat V s (N 0 8) := l.1
  have l4 : u 58 s = lat V s (N 0 9) := l.2
  have no : rStation N V s x = (if x = 0 then (0, N 1 s) else if x = 1 then (0, N 2 s) else if x = 2 then (0, V 1 s) else if x = 3 then (0, lat V s (N 0 8)) else if x = 4 then (0, lat V s (N 0 9)) else if x = 5 then (0, rto N V s) else if x = 6 then (0, V 5 s) else if x = 7 then (0, V 6 s) else (2, 0)) := if_pos h1
  rw [no]
  refine wp_i (fun cc => ?_) (fun cc => ?_)
  · refine cq0 hC ?_
    rw [if_neg (by omega), if_neg (by omega), if_neg (by omega), if_neg (by omega), if_neg (by omega), if_neg (by omega), if_neg (by omega), if_neg (by omega)]
  · have h8 : x = 0 ∨ x = 1 ∨ x = 2 ∨ x = 3 ∨ x = 4 ∨ x = 5 ∨ x = 6 ∨ x = 7 := by omega
    rcases h8 with rfl | rfl | rfl | rfl | rfl | rfl | rfl | rfl
    · refine wp_t (by omega) ?_
      refine wp_L ?_
      refine wp_g hC.net ?_
      refine wp_g (by omega) ?_
      exact cq0 hC (by rw [(a.2.2.1 s h1.1 h1.2).1]; rfl)
    · refine wp_f (by omega) ?_
      refine wp_t (by omega) ?_
      refine wp_L ?_
      refine wp_g hC.net ?_
      refine wp_g (by omega) ?_
      exact cq0 hC (by rw [(a.2.2.1 s h1.1 h1.2).2]; rfl)
    · refine wp_f (by omega) ?_
      refine wp_f (by omega) ?_
      refine wp_t (by omega) ?_
      refine wp_g (by omega) ?_
      exact cq0 hC (by rw [show u 55 s = V 1 s from hM.lv h1.1 (by omega)]; rfl)
    · refine wp_f (by omega) ?_
      refine wp_f (by omega) ?_
      refine wp_f (by omega) ?_
      refine wp_t (by omega) ?_
      refine wp_g (by omega) ?_
      exact cq0 hC (by rw [l3]; rfl)
    · refine wp_f (by omega) ?_
      refine wp_f (by omega) ?_
      refine wp_f (by omega) ?_
      refine wp_f (by omega) ?_
      refine wp_t (by omega) ?_
      refine wp_g (by omega) ?_
      exact cq0 hC (by rw [l4]; rfl)
    · refine wp_f (by omega) ?_
      refine wp_f (by omega) ?_
      refine wp_f (by omega) ?_
      refine wp_f (by omega) ?_
      refine wp_f (by omega) ?_
      refine wp_t (by omega) ?_
      refine wp_L ?_
      refine wp_g hC.net ?_
      refine wp_g (by omega) ?_
      refine wp_g (by omega) ?_
      rw [l3, l4]
      refine wp_e (cratioOf hN hC.2.1 (lat_b hVb (by omega) (by have := hN.2.2.2.2.2.2.2.2.1; omega)) (lat_b hVb (by omega) (by have := hN.2.2.2.2.2.2.2.2.1; have := hN.2.2.2.2.2.2.2.2.2.1; omega))) ?_
      exact cq0 hC rfl
    · refine wp_f (by omega) ?_
      refine wp_f (by omega) ?_
      refine wp_f (by omega) ?_
      refine wp_f (by omega) ?_
      refine wp_f (by omega) ?_
      refine wp_f (by omega) ?_
      refine wp_t (by omega) ?_
      refine wp_g (by omega) ?_
      exact cq0 hC (by rw [show u 59 s = V 5 s from hM.on h1.1 (by omega)]; rfl)
    · refine wp_f (by omega) ?_
      refine wp_f (by omega) ?_
      refine wp_f (by omega) ?_
      refine wp_f (by omega) ?_
      refine wp_f (by omega) ?_
      refine wp_f (by omega) ?_
      refine wp_f (by omega) ?_
      refine wp_t (by omega) ?_
      refine wp_g (by omega) ?_
      exact cq0 hC (by rw [show u 60 s = V 6 s from hM.mu h1.1 (by omega)]; rfl)
theorem cTrig (hC : CI N V U S f c L E B D u) (hP : PW N V U S f c L E B D) : f_X9_triggered u = some (rTrig N V, u) := by
  have hN := hP.1
  have n0 := hN.1
  have hV := hP.2.1.1
  have hM := hC.2.2.1.2.1
  have hk := hC.2.2.1.1
  refine wp_eq ?_
  unfold f_X9_triggered
  have h : f_X7_triggeredStations 54 u = some (sg (fun s => V 5 s) 8, u) := by
    refine wp_eq ?_
    unfold f_X7_triggeredStations
    refine wp_g hk ?_
    refine wl3 (fun f i v => v = u ∧ 0 ≤ i ∧ i ≤ 8 ∧ f = sg (fun s => V 5 s) i.toNat) (fun _ i _ => (8 - i).toNat) (fun go f i v hI hg => ?_) FU _ _ _ ⟨rfl, by omega, by omega, rfl⟩ (FU_l (by omega))
    obtain ⟨rfl, h0, h1, rfl⟩ := hI
    unfold s_X7_triggeredStations_4
    refine wp_g (by omega) ?_
    refine wp_i (fun cc => ?_) (fun cc => ?_)
    · refine wp_s ?_
      rw [show i = 8 by omega]; rfl
    · have r : v (54 + 5) i = V 5 i := hM.on h0 (by omega)
      repeat (first | (with_reducible refine wp_L ?_) | (with_reducible refine wp_g ?_ ?_; · omega) | (with_reducible refine wp_f ?_ ?_; · omega) | (with_reducible refine wp_t ?_ ?_; · omega))
      refine hg _ _ _ ⟨rfl, by omega, by omega, ?_⟩ (by omega)
      rw [sg_s h0, r]
  refine wp_e h (wp_s ?_)
  have hd : ∀ d n : Nat, (N 0 0).toNat ≤ n → n + d ≤ 8 → sg (fun s => V 5 s) (n + d) = sg (fun s => V 5 s) n := by
    intro d
    induction d with
    | zero => intro n _ _; rfl
    | succ d ih =>
      intro n hn h8
      show sg _ (n + d) + V 5 ((n + d : Nat) : Int) = _
      rw [ih n hn (by omega)]
      have b := (hV.1.2.2.2.1 ((n + d : Nat) : Int) (by omega) (by omega)).2.1
      have x := (hV.2.1 ((n + d : Nat) : Int) (by omega) (by omega)).2
      have : V 5 ((n + d : Nat) : Int) ≠ 1 := fun h => by have := (x h).1; omega
      omega
  have := hd (8 - (N 0 0).toNat) (N 0 0).toNat (Nat.le_refl _) (by omega)
  rw [show (N 0 0).toNat + (8 - (N 0 0).toNat) = 8 by omega] at this
  rw [this]; rfl
theorem cPick {p x : Int} (hC : CI N V U S f c L E B D u) (hP : PW N V U S f c L E B D) (hp : InR p) (hx : InR x) : wp (f_X9_pick p x u) (fun q => (q.1, q.2.1) = rPick V p x ∧ FC u q.2.2 ∧ CI N V U S f c L E B D q.2.2) := by
  have hVb := hP.2.1.1.1
  have b1 := hVb.2.1
  have hM := hC.2.2.1.2.1
  unfold f_X9_pick
  refine wp_bt_if (cneedPick hC hVb hp) (by decide) (fun h1 => ?_) (fun h1 => cq0 hC (by unfold rPick; rw [if_neg h1]))
  refine wp_g (by omega) ?_
  have no : rPick V p x = (if x = 0 then (0, V 8 p) else if x = 1 then (0, V 9 p) else if x = 2 then (0, V 10 p) else if x = 3 then (0, V 11 p) else if x = 4 then (0, V 12 p) else (2, 0)) := if_pos h1
  rw [no]
  refine wp_i (fun cc => ?_) (fun cc => ?_)
  · refine cq0 hC ?_
    rw [if_neg (by omega), if_neg (by omega), if_neg (by omega), if_neg (by omega), if_neg (by omega)]
  · have h5 : x = 0 ∨ x = 1 ∨ x = 2 ∨ x = 3 ∨ x = 4 := by omega
    rcases h5 with rfl | rfl | rfl | rfl | rfl
    · refine wp_t (by omega) ?_
      refine wp_g (by omega) ?_
      exact cq0 hC (by rw [show u 62 p = V 8 p from hM.ps h1.1 h1.2]; rfl)
    · refine wp_f (by omega) ?_
      refine wp_t (by omega) ?_
      refine wp_g (by omega) ?_
      exact cq0 hC (by rw [show u 63 p = V 9 p from hM.pt h1.1 h1.2]; rfl)
    · refine wp_f (by omega) ?_
      refine wp_f (by omega) ?_
      refine wp_t (by omega) ?_
      refine wp_g (by omega) ?_
      exact cq0 hC (by rw [show u 64 p = V 10 p from hM.pp h1.1 h1.2]; rfl)
    · refine wp_f (by omega) ?_
      refine wp_f (by omega) ?_
      refine wp_f (by omega) ?_
      refine wp_t (by omega) ?_
      refine wp_g (by omega) ?_
      exact cq0 hC (by rw [show u 65 p = V 11 p from hM.pe h1.1 h1.2]; rfl)
    · refine wp_f (by omega) ?_
      refine wp_f (by omega) ?_
      refine wp_f (by omega) ?_
      refine wp_f (by omega) ?_
      refine wp_t (by omega) ?_
      refine wp_g (by omega) ?_
      exact cq0 hC (by rw [show u 66 p = V 12 p from hM.pr h1.1 h1.2]; rfl)
theorem cFits {p q : Int} (hC : CI N V U S f c L E B D u) (hP : PW N V U S f c L E B D) (hp : InR p) (hq : InR q) : wp (f_X9_fits p q u) (fun z => (z.1, z.2.1) = rFits N V p q ∧ FC u z.2.2 ∧ CI N V U S f c L E B D z.2.2) := by
  have hVb := hP.2.1.1.1
  have hM := hC.2.2.1.2.1
  unfold f_X9_fits rFits
  refine wp_bt_if (cneedPick hC hVb hp) (by decide) (fun h1 => ?_) (fun h1 => cq0 hC (by rw [if_neg (fun h => h1 h.1)]))
  refine wp_bt_if (cneedPick hC hVb hq) (by decide) (fun h2 => ?_) (fun h2 => cq0 hC (by rw [if_neg (fun h => h2 h.2)]))
  refine wp_L ?_
  refine wp_g hC.net ?_
  refine wp_e (cpicksFit hP.1 hC.2.1 hVb hC.2.2.1.1 hM h1 h2) ?_
  refine wp_g (by split <;> omega) ?_
  exact cq0 hC (if_pos (c := (0 ≤ p ∧ p < V 0 1) ∧ 0 ≤ q ∧ q < V 0 1) ⟨h1, h2⟩).symm
theorem cMisfit {m e : Int} (hC : CI N V U S f c L E B D u) (hP : PW N V U S f c L E B D) (hm : InR m) (he : InR e) : wp (f_X9_misfit m e u) (fun q => (q.1, q.2.1) = rMisfit N V m e ∧ FC u q.2.2 ∧ CI N V U S f c L E B D q.2.2) := by
  have hN := hP.1
  have hV := hP.2.1.1
  have hVb := hV.1
  have hM := hC.2.2.1.2.1
  have nn := net_at hC.net
  unfold f_X9_misfit rMisfit
  refine wp_bt_if (cneedNode hC hN hm) (by decide) (fun h1 => ?_) (fun h1 => cq0 hC (by rw [if_neg (fun h => h1 h.1)]))
  refine wp_bt_if (cneedEvent hC hVb he) (by decide) (fun h2 => ?_) (fun h2 => cq0 hC (by rw [if_neg (fun h => h2 h.2)]))
  rw [if_pos ⟨h1, h2⟩]
  by_cases h3 : V 14 e = 1
  · have hs := cneedStanding hC hVb h2
    rw [if_pos h3] at hs ⊢
    exact wp_btn hs (by decide) (cq0 hC rfl)
  · have hs := cneedStanding hC hVb h2
    rw [if_neg h3] at hs ⊢
    have be := hVb.2.2.2.2.2.2 e h2.1 h2.2
    have hpk : 1 ≤ pk V e := by
      have := hV.2.2.2 e h2.1 h2.2 (by omega)
      have := hN.2.2.2.2.2.2.2.2.2.2.2.2.1
      omega
    refine wp_bt0 hs ?_
    refine wp_b (cgather hVb hC.2.2.1.1 hM he) (fun r v hv => ?_)
    obtain ⟨hv, hG⟩ := hv
    have hv : ∀ c, c ≠ 30 → c ≠ 31 → v c = u c := hv
    have hC2 : CI N V U S f c L E B D v := hC.sc (fun d hd => hv d (by unfold Scr at hd; omega) (by unfold Scr at hd; omega))
    refine wp_L ?_
    refine wp_g hC2.net ?_
    refine wp_b (cweigh hN hC2.2.1 hVb hC2.2.2.1.1 hC2.2.2.1.2.1 hG h1 hpk) (fun r w hw => ?_)
    obtain ⟨w1, w2, w3, w4, w5⟩ := hw
    exact cq1 hC (by rw [show w 30 3 = msf N V m e from w5]) (fun d d0 d1 d2 => (w1 d d0).trans (hv d d0 d1))
end CO
