/-! pure part, 50: class and reference side by side: what changes -/
section JC
variable {u N V : uS} {U S : Int → uS} {f : Int → Int} {c L E : Int} {B : Int → Int} {D : List Int}
/-- a present that comes from the one before, which is kept -/
theorem pw_psh {V2 : uS} (hP : PW N V U S f c L E B D) (hV : WFc N V2) (h0 : V2 0 0 ≤ 9999) : PW N V2 (psh U c V) S f (pshc c) L E B D := by
  obtain ⟨a, ⟨b, b2⟩, ⟨d, d2⟩, e⟩ := hP
  refine ⟨a, ⟨hV, h0⟩, ⟨hw_psh d b, fun j j0 j1 => ?_⟩, e⟩
  have hc := d.1
  unfold pshc at j1
  by_cases h1 : c < 10
  · rw [if_pos h1] at j1
    have e : psh U c V j = if j = c then V else U j := if_pos h1
    rw [e]
    by_cases h2 : j = c
    · rw [if_pos h2]; exact b2
    · rw [if_neg h2]; exact d2 j j0 (by omega)
  · rw [if_neg h1] at j1
    have e : psh U c V j = if j = 9 then V else U (j + 1) := if_neg h1
    rw [e]
    by_cases h2 : j = 9
    · rw [if_pos h2]; exact b2
    · rw [if_neg h2]; exact d2 (j + 1) (by omega) (by omega)
theorem pw_back {V2 : uS} {c2 : Int} (hP : PW N V U S f c L E B D) (hV : WFc N V2) (h0 : V2 0 0 ≤ 9999) (hc : 0 ≤ c2 ∧ c2 ≤ c) : PW N V2 U S f c2 L E B D := by
  obtain ⟨a, -, ⟨d, d2⟩, e⟩ := hP
  exact ⟨a, ⟨hV, h0⟩, ⟨⟨by have := d.1; omega, fun j j0 j1 => d.2 j j0 (by omega)⟩, fun j j0 j1 => d2 j j0 (by omega)⟩, e⟩
theorem mt_00 {s : Int} : mt N V s 0 0 = V 0 0 := by
  have h1 : mt1 V s 0 0 = V 0 0 := by
    unfold mt1
    rw [if_neg (by omega), if_neg (by omega), if_neg (by omega), if_neg (by omega)]
  unfold mt mt2
  rw [if_neg (by omega), if_neg (by omega)]
  exact h1
theorem rtr_00 {e : Int} : rtr V e 0 0 = V 0 0 := by
  unfold rtr fr
  rw [if_neg (by omega), up_k (by decide)]
/-! the class's calls that throw -/
theorem cSetLevelN1 {s l : Int} (hC : CI N V U S f c L E B D u) (hP : PW N V U S f c L E B D) (hs : InR s) (h : ¬ (0 ≤ s ∧ s < N 0 0)) : f_X9_setLevel s l u = some (1, 0, u) := by
  have h1 := cneedStation hC hP.1 hs
  rw [if_neg h] at h1
  refine wp_eq ?_
  unfold f_X9_setLevel
  exact wp_btn h1 (by decide) (wp_s rfl)
theorem cSetLevelN2 {s l : Int} (hC : CI N V U S f c L E B D u) (hP : PW N V U S f c L E B D) (hs : InR s) (hl : InR l) (h : 0 ≤ s ∧ s < N 0 0) (h' : ¬ (0 ≤ l ∧ l ≤ 9999)) : f_X9_setLevel s l u = some (2, 0, u) := by
  have h1 := cneedStation hC hP.1 hs
  rw [if_pos h] at h1
  have h2 := cneedLevel (u := u) hl
  rw [if_neg h'] at h2
  refine wp_eq ?_
  unfold f_X9_setLevel
  exact wp_bt0 h1 (wp_btn h2 (by decide) (wp_s rfl))
theorem cPassN1 {t : Int} (ht : InR t) (h : ¬ (1 ≤ t ∧ t ≤ 200)) : f_X9_pass t u = some (2, 0, u) := by
  have h1 := cneedTicks (u := u) (m := 1) ht (by decide)
  rw [if_neg h] at h1
  refine wp_eq ?_
  unfold f_X9_pass
  exact wp_btn h1 (by decide) (wp_s rfl)
theorem cPassN2 {t : Int} (hC : CI N V U S f c L E B D u) (hP : PW N V U S f c L E B D) (h : 1 ≤ t ∧ t ≤ 200) (h9 : ¬ V 0 0 + t ≤ 9999) : f_X9_pass t u = some (3, 0, u) := by
  have h1 := cneedTicks (u := u) (m := 1) (x := t) (by omega) (by decide)
  rw [if_pos h] at h1
  have e : u 54 0 = V 0 0 := hC.2.2.1.2.1.t
  have b := hP.2.1.1.1.1
  refine wp_eq ?_
  unfold f_X9_pass
  refine wp_bt0 h1 ?_
  rw [e]
  refine wp_g (by omega) ?_
  refine wp_f (by omega) ?_
  exact wp_s rfl
theorem cMuteN1 {s : Int} (hC : CI N V U S f c L E B D u) (hP : PW N V U S f c L E B D) (hs : InR s) (h : ¬ (0 ≤ s ∧ s < N 0 0)) : f_X9_mute s u = some (1, 0, u) := by
  have h1 := cneedStation hC hP.1 hs
  rw [if_neg h] at h1
  refine wp_eq ?_
  unfold f_X9_mute
  exact wp_btn h1 (by decide) (wp_s rfl)
theorem cMuteN2 {s : Int} (hC : CI N V U S f c L E B D u) (hP : PW N V U S f c L E B D) (h : 0 ≤ s ∧ s < N 0 0) (h6 : ¬ V 6 s = 0) : f_X9_mute s u = some (3, 0, u) := by
  have n0 := hP.1.1
  have h1 := cneedStation hC hP.1 (x := s) (by omega)
  rw [if_pos h] at h1
  have h2 := cneedMuted hC hP.2.1.1.1 (x := s) (m := 0) (by omega) (by decide)
  rw [if_neg h6] at h2
  refine wp_eq ?_
  unfold f_X9_mute
  exact wp_bt0 h1 (wp_btn h2 (by decide) (wp_s rfl))
theorem cUnmuteN1 {s : Int} (hC : CI N V U S f c L E B D u) (hP : PW N V U S f c L E B D) (hs : InR s) (h : ¬ (0 ≤ s ∧ s < N 0 0)) : f_X9_unmute s u = some (1, 0, u) := by
  have h1 := cneedStation hC hP.1 hs
  rw [if_neg h] at h1
  refine wp_eq ?_
  unfold f_X9_unmute
  exact wp_btn h1 (by decide) (wp_s rfl)
theorem cUnmuteN2 {s : Int} (hC : CI N V U S f c L E B D u) (hP : PW N V U S f c L E B D) (h : 0 ≤ s ∧ s < N 0 0) (h6 : ¬ V 6 s = 1) : f_X9_unmute s u = some (3, 0, u) := by
  have n0 := hP.1.1
  have h1 := cneedStation hC hP.1 (x := s) (by omega)
  rw [if_pos h] at h1
  have h2 := cneedMuted hC hP.2.1.1.1 (x := s) (m := 1) (by omega) (by decide)
  rw [if_neg h6] at h2
  refine wp_eq ?_
  unfold f_X9_unmute
  exact wp_bt0 h1 (wp_btn h2 (by decide) (wp_s rfl))
theorem cRetractN1 {e : Int} (hC : CI N V U S f c L E B D u) (hP : PW N V U S f c L E B D) (he : InR e) (h : ¬ (0 ≤ e ∧ e < V 0 2)) : f_X9_retract e u = some (1, 0, u) := by
  have h1 := cneedEvent hC hP.2.1.1.1 he
  rw [if_neg h] at h1
  refine wp_eq ?_
  unfold f_X9_retract
  exact wp_btn h1 (by decide) (wp_s rfl)
theorem cRetractN2 {e : Int} (hC : CI N V U S f c L E B D u) (hP : PW N V U S f c L E B D) (h : 0 ≤ e ∧ e < V 0 2) (h14 : V 14 e = 1) : f_X9_retract e u = some (3, 0, u) := by
  have b := hP.2.1.1.1.2.2.1
  have h1 := cneedEvent hC hP.2.1.1.1 (x := e) (by omega)
  rw [if_pos h] at h1
  have h2 := cneedStanding hC hP.2.1.1.1 h
  rw [if_pos h14] at h2
  refine wp_eq ?_
  unfold f_X9_retract
  exact wp_bt0 h1 (wp_btn h2 (by decide) (wp_s rfl))
theorem cSaveN {s : Int} (hs : InR s) (h : ¬ (0 ≤ s ∧ s < 2)) : f_X9_saveSnapshot s u = some (1, 0, u) := by
  have h1 := cneedSlot (u := u) hs
  rw [if_neg h] at h1
  refine wp_eq ?_
  unfold f_X9_saveSnapshot
  exact wp_btn h1 (by decide) (wp_s rfl)
theorem cRestoreN1 {s : Int} (hs : InR s) (h : ¬ (0 ≤ s ∧ s < 2)) : f_X9_restoreSnapshot s u = some (1, 0, u) := by
  have h1 := cneedSlot (u := u) hs
  rw [if_neg h] at h1
  refine wp_eq ?_
  unfold f_X9_restoreSnapshot
  exact wp_btn h1 (by decide) (wp_s rfl)
theorem cRestoreN2 {s : Int} (hC : CI N V U S f c L E B D u) (h : 0 ≤ s ∧ s < 2) (h0 : f s = 0) : f_X9_restoreSnapshot s u = some (3, 0, u) := by
  have h1 := cneedSlot (u := u) (x := s) (by omega)
  rw [if_pos h] at h1
  have e : u 36 s = 0 := ((hC.2.2.2.2.1 s h.1 h.2).1).trans h0
  refine wp_eq ?_
  unfold f_X9_restoreSnapshot
  refine wp_bt0 h1 ?_
  rw [e]
  repeat (first | (with_reducible refine wp_L ?_) | (with_reducible refine wp_g ?_ ?_; · omega) | (with_reducible refine wp_f ?_ ?_; · omega) | (with_reducible refine wp_t ?_ ?_; · omega))
  exact wp_s rfl
/-! the changes -/
theorem jSetLevel {s l : Int} (h : JI u) (hs : InR s) (hl : InR l) : JS (f_X9_setLevel s l u) (f_X10_setLevel s l) okIA := by
  obtain ⟨N, V, U, S, f, c, L, E, B, D, hC, hM, hP⟩ := h
  by_cases h1 : 0 ≤ s ∧ s < N 0 0
  · by_cases h2 : 0 ≤ l ∧ l ≤ 9999
    · exact jg (k := 0) (R := (0, V 1 s)) hM (pw_psh hP (wf_lev hP.2.1.1 h2) (by rw [up_k (by decide)]; exact hP.2.1.2)) (Or.inl ⟨rfl, rfl⟩) (cSetLevel hC hP h1 h2) (fun w hw => wp_w (mSetLevel hw hP h1 h2) (fun q hq => ⟨hq.1, fun _ => hq.2.1, hq.2.2⟩))
    · exact jth (g := 2) (k := 2) hC hM hP (Or.inr (Or.inr ⟨rfl, rfl⟩)) (by decide) (cSetLevelN2 hC hP hs hl h1 h2) (fun w hw => mSetLevelN2 hw hP hl h1 h2)
  · exact jth (g := 1) (k := 1) hC hM hP (Or.inr (Or.inl ⟨rfl, rfl⟩)) (by decide) (cSetLevelN1 hC hP hs h1) (fun w hw => mSetLevelN1 hw hP hs h1)
theorem jPass {t : Int} (h : JI u) (ht : InR t) : JS (f_X9_pass t u) (f_X10_pass t) okAS := by
  obtain ⟨N, V, U, S, f, c, L, E, B, D, hC, hM, hP⟩ := h
  by_cases h1 : 1 ≤ t ∧ t ≤ 200
  · by_cases h2 : V 0 0 + t ≤ 9999
    · refine jg (k := 0) (R := (0, tks N t.toNat V 0 1 - V 0 1)) hM (pw_psh hP (wf_tks hP.1 hP.2.1.1 (by omega)) (by rw [tks_t]; omega)) (Or.inl ⟨rfl, rfl⟩) (cPass hC hP h1 h2) (fun w hw => wp_w (mPass hw hP h1 h2) (fun q hq => ⟨hq.1, fun _ => hq.2.1, hq.2.2⟩))
    · exact jth (g := 3) (k := 2) hC hM hP (Or.inr (Or.inr ⟨rfl, rfl⟩)) (by decide) (cPassN2 hC hP h1 h2) (fun w hw => mPassN2 hw hP h1 h2)
  · exact jth (g := 2) (k := 1) hC hM hP (Or.inr (Or.inl ⟨rfl, rfl⟩)) (by decide) (cPassN1 ht h1) (fun w hw => mPassN1 ht h1)
theorem jMute {s : Int} (h : JI u) (hs : InR s) : JS (f_X9_mute s u) (f_X10_mute s) okIS := by
  obtain ⟨N, V, U, S, f, c, L, E, B, D, hC, hM, hP⟩ := h
  have n0 := hP.1.1
  by_cases h1 : 0 ≤ s ∧ s < N 0 0
  · by_cases h2 : V 6 s = 0
    · exact jg (k := 0) (R := (0, mtn N (mt1 V s) (V 0 2))) hM (pw_psh hP (wf_mt hP.1 hP.2.1.1 (by omega)) (by rw [mt_00]; exact hP.2.1.2)) (Or.inl ⟨rfl, rfl⟩) (cMute hC hP h1 h2) (fun w hw => wp_w (mMute hw hP h1 h2) (fun q hq => ⟨hq.1, fun _ => hq.2.1, hq.2.2⟩))
    · exact jth (g := 3) (k := 2) hC hM hP (Or.inr (Or.inr ⟨rfl, rfl⟩)) (by decide) (cMuteN2 hC hP h1 h2) (fun w hw => mMuteN2 hw hP h1 h2)
  · exact jth (g := 1) (k := 1) hC hM hP (Or.inr (Or.inl ⟨rfl, rfl⟩)) (by decide) (cMuteN1 hC hP hs h1) (fun w hw => mMuteN1 hw hP hs h1)
theorem jUnmute {s : Int} (h : JI u) (hs : InR s) : JS (f_X9_unmute s u) (f_X10_unmute s) okIS := by
  obtain ⟨N, V, U, S, f, c, L, E, B, D, hC, hM, hP⟩ := h
  by_cases h1 : 0 ≤ s ∧ s < N 0 0
  · by_cases h2 : V 6 s = 1
    · exact jg (k := 0) (R := (0, rto N V s)) hM (pw_psh hP (wf_unm hP.2.1.1) (by rw [up_k (by decide)]; exact hP.2.1.2)) (Or.inl ⟨rfl, rfl⟩) (cUnmute hC hP h1 h2) (fun w hw => wp_w (mUnmute hw hP h1 h2) (fun q hq => ⟨hq.1, fun _ => hq.2.1, hq.2.2⟩))
    · exact jth (g := 3) (k := 2) hC hM hP (Or.inr (Or.inr ⟨rfl, rfl⟩)) (by decide) (cUnmuteN2 hC hP h1 h2) (fun w hw => mUnmuteN2 hw hP h1 h2)
  · exact jth (g := 1) (k := 1) hC hM hP (Or.inr (Or.inl ⟨rfl, rfl⟩)) (by decide) (cUnmuteN1 hC hP hs h1) (fun w hw => mUnmuteN1 hw hP hs h1)
theorem jRetract {e : Int} (h : JI u) (he : InR e) : JS (f_X9_retract e u) (f_X10_retract e) okIS := by
  obtain ⟨N, V, U, S, f, c, L, E, B, D, hC, hM, hP⟩ := h
  by_cases h1 : 0 ≤ e ∧ e < V 0 2
  · by_cases h2 : V 14 e = 1
    · exact jth (g := 3) (k := 2) hC hM hP (Or.inr (Or.inr ⟨rfl, rfl⟩)) (by decide) (cRetractN2 hC hP h1 h2) (fun w hw => mRetractN2 hw hP h1 h2)
    · exact jg (k := 0) (R := (0, pk V e)) hM (pw_psh hP (wf_rtr hP.2.1.1 h1) (by rw [rtr_00]; exact hP.2.1.2)) (Or.inl ⟨rfl, rfl⟩) (cRetract hC hP h1 h2) (fun w hw => wp_w (mRetract hw hP h1 h2) (fun q hq => ⟨hq.1, fun _ => hq.2.1, hq.2.2⟩))
  · exact jth (g := 1) (k := 1) hC hM hP (Or.inr (Or.inl ⟨rfl, rfl⟩)) (by decide) (cRetractN1 hC hP he h1) (fun w hw => mRetractN1 hw hP he h1)
theorem jUndo (h : JI u) : JS0 (f_X9_undo u) f_X10_undo := by
  obtain ⟨N, V, U, S, f, c, L, E, B, D, hC, hM, hP⟩ := h
  have hc := hP.2.2.1.1.1
  by_cases h0 : c = 0
  · subst h0
    exact jg0 (R := -1) hM hP (eq_wp (cUndo0 hC hP) ⟨rfl, FC.rf, hC⟩) (fun w hw => eq_wp (mUndo0 hw) ⟨rfl, FM.t 0, hw.t 0⟩)
  · exact jg0 (R := c - 1) hM (pw_back hP (hP.2.2.1.1.2 (c - 1) (by omega) (by omega)) (hP.2.2.1.2 (c - 1) (by omega) (by omega)) (by omega)) (cUndo hC hP (by omega)) (fun w hw => wp_w (mUndo hw hP (by omega)) (fun q hq => hq.2))
theorem jSave {s : Int} (h : JI u) (hs : InR s) : JS (f_X9_saveSnapshot s u) (f_X10_saveSnapshot s) okI := by
  obtain ⟨N, V, U, S, f, c, L, E, B, D, hC, hM, hP⟩ := h
  by_cases h1 : 0 ≤ s ∧ s < 2
  · refine jg (k := 0) (R := (0, f s)) hM ?_ (Or.inl ⟨rfl, rfl⟩) (cSave hC hP h1) (fun w hw => wp_w (mSave hw hP h1) (fun q hq => ⟨hq.1, fun _ => hq.2.1, hq.2.2⟩))
    obtain ⟨a, ⟨b, b2⟩, d, ⟨e, e2⟩, g⟩ := hP
    refine ⟨a, ⟨b, b2⟩, d, ⟨fun i i0 i1 => ?_, fun i i0 i1 hi => ?_⟩, g⟩
    · show ((if i = s then 1 else f i) = 0 ∨ (if i = s then 1 else f i) = 1) ∧ ((if i = s then 1 else f i) = 1 → WFc N (if i = s then V else S i))
      by_cases h2 : i = s
      · rw [if_pos h2, if_pos h2]; exact ⟨Or.inr rfl, fun _ => b⟩
      · rw [if_neg h2, if_neg h2]; exact e i i0 i1
    · show (if i = s then V else S i) 0 0 ≤ 9999
      have hi : (if i = s then 1 else f i) = 1 := hi
      by_cases h2 : i = s
      · rw [if_pos h2]; exact b2
      · rw [if_neg h2] at hi ⊢; exact e2 i i0 i1 hi
  · exact jth (g := 1) (k := 1) hC hM hP (Or.inr ⟨rfl, rfl⟩) (by decide) (cSaveN hs h1) (fun w hw => mSaveN hs h1)
theorem jRestore {s : Int} (h : JI u) (hs : InR s) : JS (f_X9_restoreSnapshot s u) (f_X10_restoreSnapshot s) okIS := by
  obtain ⟨N, V, U, S, f, c, L, E, B, D, hC, hM, hP⟩ := h
  have hc := hP.2.2.1.1.1
  by_cases h1 : 0 ≤ s ∧ s < 2
  · have hf := hP.2.2.2.1.1 s h1.1 h1.2
    rcases hf.1 with h0 | h0
    · exact jth (g := 3) (k := 2) hC hM hP (Or.inr (Or.inr ⟨rfl, rfl⟩)) (by decide) (cRestoreN2 hC h1 h0) (fun w hw => mRestoreN2 hw h1 h0)
    · exact jg (k := 0) (R := (0, S s 0 0)) hM (pw_back hP (hf.2 h0) (hP.2.2.2.1.2 s h1.1 h1.2 h0) (by omega)) (Or.inl ⟨rfl, rfl⟩) (cRestore hC hP h1 h0) (fun w hw => wp_w (mRestore hw hP h1 h0) (fun q hq => ⟨hq.1, fun _ => hq.2.1, hq.2.2⟩))
  · exact jth (g := 1) (k := 1) hC hM hP (Or.inr (Or.inl ⟨rfl, rfl⟩)) (by decide) (cRestoreN1 hs h1) (fun w hw => mRestoreN1 hs h1)
end JC
