/-! pure part, 49: class and reference side by side -/
/-- both hold the same values, and sound ones -/
def JI (u : uS) : Prop := ∃ N V U S f c L E B D, CI N V U S f c L E B D u ∧ MI N V U S f c L E B D u ∧ PW N V U S f c L E B D
def okI (g : Nat) (k : Int) : Prop := (g = 0 ∧ k = 0) ∨ (g = 1 ∧ k = 1)
def okA (g : Nat) (k : Int) : Prop := (g = 0 ∧ k = 0) ∨ (g = 2 ∧ k = 1)
def okIA (g : Nat) (k : Int) : Prop := (g = 0 ∧ k = 0) ∨ (g = 1 ∧ k = 1) ∨ (g = 2 ∧ k = 2)
def okIS (g : Nat) (k : Int) : Prop := (g = 0 ∧ k = 0) ∨ (g = 1 ∧ k = 1) ∨ (g = 3 ∧ k = 2)
def okAS (g : Nat) (k : Int) : Prop := (g = 0 ∧ k = 0) ∨ (g = 2 ∧ k = 1) ∨ (g = 3 ∧ k = 2)
def okIAS (g : Nat) (k : Int) : Prop := (g = 0 ∧ k = 0) ∨ (g = 1 ∧ k = 1) ∨ (g = 2 ∧ k = 2) ∨ (g = 3 ∧ k = 3)
/-- a call that may throw: the class first, then (the law having written its row 39) the reference: the code is the one that the class's exception has, the answers agree where none is thrown -/
def JS (fc : Option (Nat × Int × uS)) (fm : uS → Option (Int × uS)) (ok : Nat → Int → Prop) : Prop := wp fc (fun q => ∃ k, ok q.1 k ∧ ∀ w, (∀ d, d ≠ 39 → w d = q.2.2 d) → wp (fm w) (fun p => p.2 40 0 = k ∧ (k = 0 → p.1 = q.2.1) ∧ p.2 39 = w 39 ∧ JI p.2))
/-- a call that throws nothing -/
def JS0 (fc : Option (Int × uS)) (fm : uS → Option (Int × uS)) : Prop := wp fc (fun q => wp (fm q.2) (fun p => p.1 = q.1 ∧ p.2 39 = q.2 39 ∧ JI p.2))
section JJ
variable {u N V : uS} {U S : Int → uS} {f : Int → Int} {c L E : Int} {B : Int → Int} {D : List Int} {N' V' : uS} {U' S' : Int → uS} {f' : Int → Int} {c' L' E' : Int} {B' : Int → Int} {D' : List Int}
theorem jg {fc : Option (Nat × Int × uS)} {fm : uS → Option (Int × uS)} {ok : Nat → Int → Prop} {k : Int} {R : Nat × Int} (hM0 : MI N V U S f c L E B D u) (hP' : PW N' V' U' S' f' c' L' E' B' D') (hok : ok R.1 k)
    (hC : wp fc (fun q => (q.1, q.2.1) = R ∧ FC u q.2.2 ∧ CI N' V' U' S' f' c' L' E' B' D' q.2.2)) (hM : ∀ w, MI N V U S f c L E B D w → wp (fm w) (fun q => q.2 40 0 = k ∧ (k = 0 → q.1 = R.2) ∧ FM w q.2 ∧ MI N' V' U' S' f' c' L' E' B' D' q.2)) : JS fc fm ok := by
  refine wp_w hC (fun q hq => ?_)
  obtain ⟨h1, h2, h3⟩ := hq
  have e1 : q.1 = R.1 := congrArg Prod.fst h1
  have e2 : q.2.1 = R.2 := congrArg Prod.snd h1
  refine ⟨k, by rw [e1]; exact hok, fun w hw => ?_⟩
  have hMw : MI N V U S f c L E B D w := (hM0.fc h2).fc (fun d d0 d1 => hw d (by omega))
  have hCw : CI N' V' U' S' f' c' L' E' B' D' w := h3.sc (fun d hd => hw d (by unfold Scr at hd; omega))
  refine wp_w (hM w hMw) (fun p hp => ?_)
  obtain ⟨a, b, c, d⟩ := hp
  exact ⟨a, fun hk => (b hk).trans e2.symm, c 39 (by decide), N', V', U', S', f', c', L', E', B', D', hCw.fm c, d, hP'⟩
theorem jg0 {fc : Option (Int × uS)} {fm : uS → Option (Int × uS)} {R : Int} (hM0 : MI N V U S f c L E B D u) (hP' : PW N' V' U' S' f' c' L' E' B' D')
    (hC : wp fc (fun q => q.1 = R ∧ FC u q.2 ∧ CI N' V' U' S' f' c' L' E' B' D' q.2)) (hM : ∀ w, MI N V U S f c L E B D w → wp (fm w) (fun q => q.1 = R ∧ FM w q.2 ∧ MI N' V' U' S' f' c' L' E' B' D' q.2)) : JS0 fc fm := by
  refine wp_w hC (fun q hq => ?_)
  obtain ⟨h1, h2, h3⟩ := hq
  refine wp_w (hM q.2 (hM0.fc h2)) (fun p hp => ?_)
  obtain ⟨a, b, d⟩ := hp
  exact ⟨a.trans h1.symm, b 39 (by decide), N', V', U', S', f', c', L', E', B', D', h3.fm b, d, hP'⟩
/-- the class throws, the reference says so -/
theorem jth {fc : Option (Nat × Int × uS)} {fm : uS → Option (Int × uS)} {ok : Nat → Int → Prop} {g : Nat} {k : Int} (hC : CI N V U S f c L E B D u) (hM0 : MI N V U S f c L E B D u) (hP : PW N V U S f c L E B D) (hok : ok g k) (hk : k ≠ 0) (h1 : fc = some (g, 0, u)) (h2 : ∀ w, MI N V U S f c L E B D w → fm w = some (0, up (up w 40 0 0) 40 0 k)) : JS fc fm ok :=
  jg (R := (g, 0)) hM0 hP hok (eq_wp h1 ⟨rfl, FC.rf, hC⟩) (fun w hw => eq_wp (h2 w hw) ⟨(up_s (up w 40 0 0) 40 0 k : up (up w 40 0 0) 40 0 k 40 0 = k), fun h => absurd h hk, (FM.t 0).tr (FM.t k), (hw.t 0).t k⟩)
theorem okA1 {g : Nat} (h : g = 0 ∨ g = 2) : okA g (cd1 g) := by rcases h with rfl | rfl; exact Or.inl ⟨rfl, rfl⟩; exact Or.inr ⟨rfl, rfl⟩
theorem okI1 {g : Nat} (h : g = 0 ∨ g = 1) : okI g (cd1 g) := by rcases h with rfl | rfl; exact Or.inl ⟨rfl, rfl⟩; exact Or.inr ⟨rfl, rfl⟩
theorem okIA2 {g : Nat} (h : g = 0 ∨ g = 1 ∨ g = 2) : okIA g (cd2 g) := by rcases h with rfl | rfl | rfl; exact Or.inl ⟨rfl, rfl⟩; exact Or.inr (Or.inl ⟨rfl, rfl⟩); exact Or.inr (Or.inr ⟨rfl, rfl⟩)
theorem okIS2 {g : Nat} (h : g = 0 ∨ g = 1 ∨ g = 3) : okIS g (cd2 g) := by rcases h with rfl | rfl | rfl; exact Or.inl ⟨rfl, rfl⟩; exact Or.inr (Or.inl ⟨rfl, rfl⟩); exact Or.inr (Or.inr ⟨rfl, rfl⟩)
/-! the questions -/
theorem jSize {x : Int} (h : JI u) (hx : InR x) : JS (f_X9_size x u) (f_X10_size x) okA := by
  obtain ⟨N, V, U, S, f, c, L, E, B, D, hC, hM, hP⟩ := h
  refine jg hM hP (okA1 ?_) (cSize hC hP hx) (fun w hw => mSize hw hP hx)
  unfold rSize
  repeat' split
  all_goals first | exact Or.inl rfl | exact Or.inr rfl
theorem jBetween {a b : Int} (h : JI u) (ha : InR a) (hb : InR b) : JS (f_X9_between a b u) (f_X10_between a b) okI := by
  obtain ⟨N, V, U, S, f, c, L, E, B, D, hC, hM, hP⟩ := h
  refine jg hM hP (okI1 ?_) (cBetween hC hP ha hb) (fun w hw => mBetween hw hP ha hb)
  unfold rBetween
  split <;> first | exact Or.inl rfl | exact Or.inr rfl
theorem jTravel {a b : Int} (h : JI u) (ha : InR a) (hb : InR b) : JS (f_X9_travel a b u) (f_X10_travel a b) okI := by
  obtain ⟨N, V, U, S, f, c, L, E, B, D, hC, hM, hP⟩ := h
  refine jg hM hP (okI1 ?_) (cTravel hC hP ha hb) (fun w hw => mTravel hw hP ha hb)
  unfold rTravel
  split <;> first | exact Or.inl rfl | exact Or.inr rfl
theorem jLadder {a : Int} (h : JI u) (ha : InR a) : JS (f_X9_ladder a u) (f_X10_ladder a) okA := by
  obtain ⟨N, V, U, S, f, c, L, E, B, D, hC, hM, hP⟩ := h
  refine jg hM hP (okA1 ?_) (cLadder hC hP ha) (fun w hw => mLadder hw hP ha)
  unfold rLadder
  split <;> first | exact Or.inl rfl | exact Or.inr rfl
theorem jStation {a b : Int} (h : JI u) (ha : InR a) (hb : InR b) : JS (f_X9_station a b u) (f_X10_station a b) okIA := by
  obtain ⟨N, V, U, S, f, c, L, E, B, D, hC, hM, hP⟩ := h
  refine jg hM hP (okIA2 ?_) (cStation hC hP ha hb) (fun w hw => mStation hw hP ha hb)
  unfold rStation
  repeat' split
  all_goals first | exact Or.inl rfl | exact Or.inr (Or.inl rfl) | exact Or.inr (Or.inr rfl)
theorem jPick {a b : Int} (h : JI u) (ha : InR a) (hb : InR b) : JS (f_X9_pick a b u) (f_X10_pick a b) okIA := by
  obtain ⟨N, V, U, S, f, c, L, E, B, D, hC, hM, hP⟩ := h
  refine jg hM hP (okIA2 ?_) (cPick hC hP ha hb) (fun w hw => mPick hw hP ha hb)
  unfold rPick
  repeat' split
  all_goals first | exact Or.inl rfl | exact Or.inr (Or.inl rfl) | exact Or.inr (Or.inr rfl)
theorem jFits {a b : Int} (h : JI u) (ha : InR a) (hb : InR b) : JS (f_X9_fits a b u) (f_X10_fits a b) okI := by
  obtain ⟨N, V, U, S, f, c, L, E, B, D, hC, hM, hP⟩ := h
  refine jg hM hP (okI1 ?_) (cFits hC hP ha hb) (fun w hw => mFits hw hP ha hb)
  unfold rFits
  split <;> first | exact Or.inl rfl | exact Or.inr rfl
theorem jEvent {a b : Int} (h : JI u) (ha : InR a) (hb : InR b) : JS (f_X9_event a b u) (f_X10_event a b) okIA := by
  obtain ⟨N, V, U, S, f, c, L, E, B, D, hC, hM, hP⟩ := h
  refine jg hM hP (okIA2 ?_) (cEvent hC hP ha hb) (fun w hw => mEvent hw hP ha hb)
  unfold rEvent
  repeat' split
  all_goals first | exact Or.inl rfl | exact Or.inr (Or.inl rfl) | exact Or.inr (Or.inr rfl)
theorem jEventPick {a b : Int} (h : JI u) (ha : InR a) (hb : InR b) : JS (f_X9_eventPick a b u) (f_X10_eventPick a b) okI := by
  obtain ⟨N, V, U, S, f, c, L, E, B, D, hC, hM, hP⟩ := h
  refine jg hM hP (okI1 ?_) (cEventPick hC hP ha hb) (fun w hw => mEventPick hw hP ha hb)
  unfold rEventPick
  split <;> first | exact Or.inl rfl | exact Or.inr rfl
theorem jMisfit {a b : Int} (h : JI u) (ha : InR a) (hb : InR b) : JS (f_X9_misfit a b u) (f_X10_misfit a b) okIS := by
  obtain ⟨N, V, U, S, f, c, L, E, B, D, hC, hM, hP⟩ := h
  refine jg hM hP (okIS2 ?_) (cMisfit hC hP ha hb) (fun w hw => mMisfit hw hP ha hb)
  unfold rMisfit
  repeat' split
  all_goals first | exact Or.inl rfl | exact Or.inr (Or.inl rfl) | exact Or.inr (Or.inr rfl)
theorem jRatioAfter {a b d : Int} (h : JI u) (ha : InR a) (hb : InR b) (hd : InR d) : JS (f_X9_ratioAfter a b d u) (f_X10_ratioAfter a b d) okIA := by
  obtain ⟨N, V, U, S, f, c, L, E, B, D, hC, hM, hP⟩ := h
  refine jg hM hP (okIA2 ?_) (cRatioAfter hC hP ha hb hd) (fun w hw => mRatioAfter hw hP ha hb hd)
  unfold rRatioAfter
  repeat' split
  all_goals first | exact Or.inl rfl | exact Or.inr (Or.inl rfl) | exact Or.inr (Or.inr rfl)
theorem jWithout {a b : Int} (h : JI u) (ha : InR a) (hb : InR b) : JS (f_X9_eventsWithout a b u) (f_X10_eventsWithout a b) okIAS := by
  obtain ⟨N, V, U, S, f, c, L, E, B, D, hC, hM, hP⟩ := h
  refine jg hM hP ?_ (cWithout hC hP ha hb) (fun w hw => mWithout hw hP ha hb)
  unfold rWithout okIAS
  repeat' split
  all_goals first | exact Or.inl ⟨rfl, rfl⟩ | exact Or.inr (Or.inl ⟨rfl, rfl⟩) | exact Or.inr (Or.inr (Or.inl ⟨rfl, rfl⟩)) | exact Or.inr (Or.inr (Or.inr ⟨rfl, rfl⟩))
theorem jTrig (h : JI u) : JS0 (f_X9_triggered u) f_X10_triggered := by
  obtain ⟨N, V, U, S, f, c, L, E, B, D, hC, hM, hP⟩ := h
  exact jg0 hM hP (eq_wp (cTrig hC hP) ⟨rfl, FC.rf, hC⟩) (fun w hw => eq_wp (mTrig hw hP) ⟨rfl, FM.t 0, hw.t 0⟩)
theorem jByte {i : Int} (h : JI u) (hi : InR i) : JS0 (f_X9_describedByte i u) (f_X10_describedByte i) := by
  obtain ⟨N, V, U, S, f, c, L, E, B, D, hC, hM, hP⟩ := h
  exact jg0 hM hP (eq_wp (cByte hC hP hi) ⟨rfl, FC.rf, hC⟩) (fun w hw => eq_wp (mByte hw hP hi) ⟨rfl, FM.t 0, hw.t 0⟩)
theorem jTte (h : JI u) : JS0 (f_X9_ticksToEvent u) f_X10_ticksToEvent := by
  obtain ⟨N, V, U, S, f, c, L, E, B, D, hC, hM, hP⟩ := h
  exact jg0 hM hP (cTte hC hP) (fun w hw => mTte hw hP)
theorem jErr (h : JI u) : JS0 (f_X9_errorPosition u) f_X10_errorPosition := by
  obtain ⟨N, V, U, S, f, c, L, E, B, D, hC, hM, hP⟩ := h
  have e : u 0 2 = E := hC.2.2.2.2.2.1.2
  refine jg0 (R := E) hM hP (wp_s ⟨e, FC.rf, hC⟩) (fun w hw => ?_)
  have e2 : w 40 15 = E := hw.2.2.2.2.1.2
  refine wp_s ⟨?_, FM.t 0, hw.t 0⟩
  show up w 40 0 0 40 15 = E
  rw [up_j (by decide)]; exact e2
theorem jTick (h : JI u) : JS0 (f_X9_tick u) f_X10_tick := by
  obtain ⟨N, V, U, S, f, c, L, E, B, D, hC, hM, hP⟩ := h
  have e : u 54 0 = V 0 0 := hC.2.2.1.2.1.t
  refine jg0 (R := V 0 0) hM hP (wp_s ⟨e, FC.rf, hC⟩) (fun w hw => ?_)
  have e2 : w 41 0 = V 0 0 := hw.2.1.t
  refine wp_s ⟨?_, FM.t 0, hw.t 0⟩
  show up w 40 0 0 41 0 = V 0 0
  rw [up_k (by decide)]; exact e2
end JJ
