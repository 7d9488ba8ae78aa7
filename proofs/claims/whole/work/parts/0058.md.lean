/-! pure part, 28: the reference's changes -/
section MD
variable {u N V : uS} {U S : Int → uS} {f : Int → Int} {c L E : Int} {B : Int → Int} {D : List Int}
theorem MI.kept {w : uS} (h : MI N V U S f c L E B D u) (hw : ∀ d, d ≠ 40 → d ≠ 51 → w d = u d) (h40 : ∀ j, j ≠ 22 → w 40 j = u 40 j) (hh : HM w (psh U c V) (pshc c)) : MI N V (psh U c V) S f (pshc c) L E B D w := by
  obtain ⟨h1, h2, h3, h4, h5, h6, h7⟩ := h
  refine ⟨h1.row (fun c a b => hw c (by omega) (by omega)), h2.row (hw _ (by decide) (by decide)), hh, h4.row (hw _ (by decide) (by decide)) (hw _ (by decide) (by decide)), by rw [h40 8 (by decide), h40 15 (by decide)]; exact h5, ?_, h7.row (h40 _ (by decide)) (hw _ (by decide) (by decide))⟩
  rw [hw 47 (by decide) (by decide)]; exact h6
/-- a change's answer -/
theorem mkeep (hM : MI N V U S f c L E B D u) (hP : PW N V U S f c L E B D) (h0 : u 40 0 = 0) : wp (f_X10_keeps u) (fun q => q.2 40 0 = 0 ∧ FM u q.2 ∧ MI N V (psh U c V) S f (pshc c) L E B D q.2) := by
  refine wp_2 (wkeeps hP.2.1.1.1 hM.2.1 hM.2.2.1 hP.2.2.1.1) (fun r w hw => ?_)
  obtain ⟨w1, w2, w3⟩ := hw
  have w2 : ∀ j, j ≠ 22 → w 40 j = u 40 j := w2
  exact ⟨(w2 0 (by decide)).trans h0, fun d hd => w1 d (by omega) (by omega), hM.kept w1 w2 w3⟩
theorem mSetLevelN1 {s l : Int} (hM : MI N V U S f c L E B D u) (hP : PW N V U S f c L E B D) (hsR : InR s) (hs : ¬ (0 ≤ s ∧ s < N 0 0)) : f_X10_setLevel s l u = some (0, up (up u 40 0 0) 40 0 1) := by
  refine wp_eq ?_
  unfold f_X10_setLevel
  refine wp_ei (enoStation hM hP.1 hsR) (fun h1 => absurd h1 hs) (fun h1 => ?_)
  repeat (first | (with_reducible refine wp_L ?_) | (with_reducible refine wp_g ?_ ?_; · omega) | (with_reducible refine wp_f ?_ ?_; · omega) | (with_reducible refine wp_t ?_ ?_; · omega) | (with_reducible refine wp_e (eof _ _ _) ?_) | (with_reducible refine wp_e (eat _ _ _) ?_) | (with_reducible refine wp_e (enodes _) ?_))
  exact wp_s rfl
theorem mSetLevelN2 {s l : Int} (hM : MI N V U S f c L E B D u) (hP : PW N V U S f c L E B D) (hlR : InR l) (hs : 0 ≤ s ∧ s < N 0 0) (hl : ¬ (0 ≤ l ∧ l ≤ 9999)) : f_X10_setLevel s l u = some (0, up (up u 40 0 0) 40 0 2) := by
  have n0 := hP.1.1
  have z0 : up u 40 0 0 40 0 = 0 := up_s _ _ _ _
  refine wp_eq ?_
  unfold f_X10_setLevel
  refine wp_ei (enoStation hM hP.1 (x := s) (by omega)) (fun h1 => ?_) (fun h1 => absurd hs h1)
  repeat (first | (with_reducible refine wp_L ?_) | (with_reducible refine wp_g ?_ ?_; · omega) | (with_reducible refine wp_f ?_ ?_; · omega) | (with_reducible refine wp_t ?_ ?_; · omega) | (with_reducible refine wp_e (eof _ _ _) ?_) | (with_reducible refine wp_e (eat _ _ _) ?_) | (with_reducible refine wp_e (enodes _) ?_))
  refine wp_e (ewithin _ hlR (by decide) (by decide)) ?_
  rw [if_neg hl]
  repeat (first | (with_reducible refine wp_L ?_) | (with_reducible refine wp_g ?_ ?_; · omega) | (with_reducible refine wp_f ?_ ?_; · omega) | (with_reducible refine wp_t ?_ ?_; · omega) | (with_reducible refine wp_e (eof _ _ _) ?_) | (with_reducible refine wp_e (eat _ _ _) ?_) | (with_reducible refine wp_e (enodes _) ?_))
  refine wp_e (ethrowsIf0 _ (by decide) z0 (by decide)) ?_
  repeat (first | (with_reducible refine wp_L ?_) | (with_reducible refine wp_g ?_ ?_; · omega) | (with_reducible refine wp_f ?_ ?_; · omega) | (with_reducible refine wp_t ?_ ?_; · omega) | (with_reducible refine wp_e (eof _ _ _) ?_) | (with_reducible refine wp_e (eat _ _ _) ?_) | (with_reducible refine wp_e (enodes _) ?_))
  exact wp_s rfl
theorem mSetLevel {s l : Int} (hM : MI N V U S f c L E B D u) (hP : PW N V U S f c L E B D) (hs : 0 ≤ s ∧ s < N 0 0) (hl : 0 ≤ l ∧ l ≤ 9999) : wp (f_X10_setLevel s l u) (fun q => q.2 40 0 = 0 ∧ q.1 = V 1 s ∧ FM u q.2 ∧ MI N (up V 1 s l) (psh U c V) S f (pshc c) L E B D q.2) := by
  have n0 := hP.1.1
  have hVb := hP.2.1.1.1
  have z0 : up u 40 0 0 40 0 = 0 := up_s _ _ _ _
  unfold f_X10_setLevel
  refine wp_ei (enoStation hM hP.1 (x := s) (by omega)) (fun h1 => ?_) (fun h1 => absurd hs h1)
  repeat (first | (with_reducible refine wp_L ?_) | (with_reducible refine wp_g ?_ ?_; · omega) | (with_reducible refine wp_f ?_ ?_; · omega) | (with_reducible refine wp_t ?_ ?_; · omega) | (with_reducible refine wp_e (eof _ _ _) ?_) | (with_reducible refine wp_e (eat _ _ _) ?_) | (with_reducible refine wp_e (enodes _) ?_))
  refine wp_e (ewithin _ (show InR l by omega) (by decide) (by decide)) ?_
  rw [if_pos hl]
  repeat (first | (with_reducible refine wp_L ?_) | (with_reducible refine wp_g ?_ ?_; · omega) | (with_reducible refine wp_f ?_ ?_; · omega) | (with_reducible refine wp_t ?_ ?_; · omega) | (with_reducible refine wp_e (eof _ _ _) ?_) | (with_reducible refine wp_e (eat _ _ _) ?_) | (with_reducible refine wp_e (enodes _) ?_))
  refine wp_e (ethrowsIf0 _ (by decide) z0 (by decide)) ?_
  repeat (first | (with_reducible refine wp_L ?_) | (with_reducible refine wp_g ?_ ?_; · omega) | (with_reducible refine wp_f ?_ ?_; · omega) | (with_reducible refine wp_t ?_ ?_; · omega) | (with_reducible refine wp_e (eof _ _ _) ?_) | (with_reducible refine wp_e (eat _ _ _) ?_) | (with_reducible refine wp_e (enodes _) ?_))
  refine wp_b (mkeep (hM.t 0) hP z0) (fun r w hw => ?_)
  obtain ⟨w0, w1, w2⟩ := hw
  have w0 : w 40 0 = 0 := w0
  have w1 : FM (up u 40 0 0) w := w1
  have w2 : MI N V (psh U c V) S f (pshc c) L E B D w := w2
  have r := w2.2.1.lv (s := s) hs.1 (by omega)
  repeat (first | (with_reducible refine wp_L ?_) | (with_reducible refine wp_g ?_ ?_; · omega) | (with_reducible refine wp_f ?_ ?_; · omega) | (with_reducible refine wp_t ?_ ?_; · omega) | (with_reducible refine wp_e (eof _ _ _) ?_) | (with_reducible refine wp_e (eat _ _ _) ?_) | (with_reducible refine wp_e (enodes _) ?_))
  rw [r]
  have b1 := hVb.2.1
  have b2 := hVb.2.2.1
  refine wp_s ⟨(show up w 41 (3 + 4 * s + 0) l 40 0 = 0 from (up_k (by decide)).trans w0), rfl, ((FM.t 0).tr w1).r (a := 41) (by decide) (fun d hd => up_c hd), w2.now (fun d hd => up_c hd) ?_⟩
  exact VE.upM w2.2.1 b1.2 b2.2 (j := 1) (s := s) (by unfold vd; omega) rfl
/-- ticks, one behind another -/
theorem mticks {t : Int} {β : Type} {Q : β → Prop} {fin : uS → Option β} (hN : NWF N) (F : (Int → uS → Option β) → Int → uS → Option β) (hF : ∀ go i v, F go i v = (xgd (InR i ∧ InR t) <| if t ≤ i then fin v else xbd (f_X10_passes v) fun _ u28 => go (i + 1) u28)) (ht : 0 ≤ t ∧ t ≤ 200) (hn : MN u N) {V2 : uS} (hm : MS u V2) (hV : WFc N V2) (h0 : V2 0 0 ≤ 9999)
    (k : ∀ w, (∀ d, d ≠ 41 → w d = u d) → MS w (tks N t.toNat V2) → wp (fin w) Q) : wp (xl2 F FU 0 u) Q := by
  have b0 := hV.1.1
  refine wl2 (fun i v => (∀ d, d ≠ 41 → v d = u d) ∧ (0 ≤ i ∧ i ≤ t) ∧ ∃ W, MS v W ∧ WFc N W ∧ W 0 0 = V2 0 0 + i ∧ tks N (t - i).toNat W = tks N t.toNat V2) (fun i _ => (t - i).toNat) (fun go i v hI hg => ?_) FU _ _ ⟨fun _ _ => rfl, by omega, V2, hm, hV, by omega, by rw [Int.sub_zero]⟩ (FU_l (by omega))
  obtain ⟨hf, hi, W, hW, hWf, hW0, hr⟩ := hI
  rw [hF]
  refine wp_g (by omega) ?_
  refine wp_i (fun cc => ?_) (fun cc => ?_)
  · rw [show (t - i).toNat = 0 by omega] at hr
    refine k v hf ?_
    rw [← hr]; exact hW
  · refine wp_b (wpasses hN (hn.row (fun c h3 h4 => hf c (by omega))) hWf hW (by omega)) (fun r w hw => ?_)
    obtain ⟨w1, w2⟩ := hw
    have w1 : ∀ c, c ≠ 41 → w c = v c := w1
    rw [show (t - i).toNat = (t - (i + 1)).toNat + 1 by omega] at hr
    exact hg _ _ ⟨fun d hd => (w1 d hd).trans (hf d hd), by omega, tk N W, w2, wf_tk hN hWf (by omega), by rw [tk_t]; omega, hr⟩ (by omega)
theorem mPassN1 {t : Int} (htR : InR t) (ht : ¬ (1 ≤ t ∧ t ≤ 200)) : f_X10_pass t u = some (0, up (up u 40 0 0) 40 0 1) := by
  have z0 : up u 40 0 0 40 0 = 0 := up_s _ _ _ _
  refine wp_eq ?_
  unfold f_X10_pass
  refine wp_L ?_
  refine wp_e (ewithin _ htR (by decide) (by decide)) ?_
  rw [if_neg ht]
  repeat (first | (with_reducible refine wp_L ?_) | (with_reducible refine wp_g ?_ ?_; · omega) | (with_reducible refine wp_f ?_ ?_; · omega) | (with_reducible refine wp_t ?_ ?_; · omega) | (with_reducible refine wp_e (eof _ _ _) ?_) | (with_reducible refine wp_e (eat _ _ _) ?_) | (with_reducible refine wp_e (enodes _) ?_))
  refine wp_e (ethrowsIf0 _ (by decide) z0 (by decide)) ?_
  repeat (first | (with_reducible refine wp_L ?_) | (with_reducible refine wp_g ?_ ?_; · omega) | (with_reducible refine wp_f ?_ ?_; · omega) | (with_reducible refine wp_t ?_ ?_; · omega) | (with_reducible refine wp_e (eof _ _ _) ?_) | (with_reducible refine wp_e (eat _ _ _) ?_) | (with_reducible refine wp_e (enodes _) ?_))
  exact wp_s rfl
theorem mPassN2 {t : Int} (hM : MI N V U S f c L E B D u) (hP : PW N V U S f c L E B D) (ht : 1 ≤ t ∧ t ≤ 200) (h9 : ¬ V 0 0 + t ≤ 9999) : f_X10_pass t u = some (0, up (up u 40 0 0) 40 0 2) := by
  have b0 := hP.2.1.1.1.1
  have z0 : up u 40 0 0 40 0 = 0 := up_s _ _ _ _
  have e0 := (hM.t 0).2.1.t
  refine wp_eq ?_
  unfold f_X10_pass
  refine wp_L ?_
  refine wp_e (ewithin _ (show InR t by omega) (by decide) (by decide)) ?_
  rw [if_pos ht]
  repeat (first | (with_reducible refine wp_L ?_) | (with_reducible refine wp_g ?_ ?_; · omega) | (with_reducible refine wp_f ?_ ?_; · omega) | (with_reducible refine wp_t ?_ ?_; · omega) | (with_reducible refine wp_e (eof _ _ _) ?_) | (with_reducible refine wp_e (eat _ _ _) ?_) | (with_reducible refine wp_e (enodes _) ?_))
  refine wp_e (ethrowsIf0 _ (by decide) z0 (by decide)) ?_
  repeat (first | (with_reducible refine wp_L ?_) | (with_reducible refine wp_g ?_ ?_; · omega) | (with_reducible refine wp_f ?_ ?_; · omega) | (with_reducible refine wp_t ?_ ?_; · omega) | (with_reducible refine wp_e (eof _ _ _) ?_) | (with_reducible refine wp_e (eat _ _ _) ?_) | (with_reducible refine wp_e (enodes _) ?_))
  refine wp_e (ethrowsIf0 _ (by decide) z0 (by decide)) ?_
  repeat (first | (with_reducible refine wp_L ?_) | (with_reducible refine wp_g ?_ ?_; · omega) | (with_reducible refine wp_f ?_ ?_; · omega) | (with_reducible refine wp_t ?_ ?_; · omega) | (with_reducible refine wp_e (eof _ _ _) ?_) | (with_reducible refine wp_e (eat _ _ _) ?_) | (with_reducible refine wp_e (enodes _) ?_))
  exact wp_s rfl
theorem mPass {t : Int} (hM : MI N V U S f c L E B D u) (hP : PW N V U S f c L E B D) (ht : 1 ≤ t ∧ t ≤ 200) (h9 : V 0 0 + t ≤ 9999) : wp (f_X10_pass t u) (fun q => q.2 40 0 = 0 ∧ q.1 = tks N t.toNat V 0 1 - V 0 1 ∧ FM u q.2 ∧ MI N (tks N t.toNat V) (psh U c V) S f (pshc c) L E B D q.2) := by
  have b0 := hP.2.1.1.1.1
  have z0 : up u 40 0 0 40 0 = 0 := up_s _ _ _ _
  have e0 := (hM.t 0).2.1.t
  unfold f_X10_pass
  refine wp_L ?_
  refine wp_e (ewithin _ (show InR t by omega) (by decide) (by decide)) ?_
  rw [if_pos ht]
  repeat (first | (with_reducible refine wp_L ?_) | (with_reducible refine wp_g ?_ ?_; · omega) | (with_reducible refine wp_f ?_ ?_; · omega) | (with_reducible refine wp_t ?_ ?_; · omega) | (with_reducible refine wp_e (eof _ _ _) ?_) | (with_reducible refine wp_e (eat _ _ _) ?_) | (with_reducible refine wp_e (enodes _) ?_))
  refine wp_e (ethrowsIf0 _ (by decide) z0 (by decide)) ?_
  repeat (first | (with_reducible refine wp_L ?_) | (with_reducible refine wp_g ?_ ?_; · omega) | (with_reducible refine wp_f ?_ ?_; · omega) | (with_reducible refine wp_t ?_ ?_; · omega) | (with_reducible refine wp_e (eof _ _ _) ?_) | (with_reducible refine wp_e (eat _ _ _) ?_) | (with_reducible refine wp_e (enodes _) ?_))
  refine wp_e (ethrowsIf0 _ (by decide) z0 (by decide)) ?_
  repeat (first | (with_reducible refine wp_L ?_) | (with_reducible refine wp_g ?_ ?_; · omega) | (with_reducible refine wp_f ?_ ?_; · omega) | (with_reducible refine wp_t ?_ ?_; · omega) | (with_reducible refine wp_e (eof _ _ _) ?_) | (with_reducible refine wp_e (eat _ _ _) ?_) | (with_reducible refine wp_e (enodes _) ?_))
  refine wp_b (mkeep (hM.t 0) hP z0) (fun r w hw => ?_)
  obtain ⟨w0, w1, w2⟩ := hw
  have w0 : w 40 0 = 0 := w0
  have w1 : FM (up u 40 0 0) w := w1
  have w2 : MI N V (psh U c V) S f (pshc c) L E B D w := w2
  refine wp_L ?_
  rw [w2.2.1.n]
  refine wp_L ?_
  refine mticks hP.1 _ (fun go i v => rfl) ⟨by omega, ht.2⟩ w2.1 w2.2.1 hP.2.1.1 hP.2.1.2 (fun x hx hx2 => ?_)
  refine wp_s ⟨(congrFun (hx 40 (by decide)) 0).trans w0, ?_, ((FM.t 0).tr w1).r (a := 41) (by decide) hx, w2.now hx hx2⟩
  show x 41 1 - V 0 1 = _
  rw [hx2.n]
theorem mMuteN1 {s : Int} (hM : MI N V U S f c L E B D u) (hP : PW N V U S f c L E B D) (hsR : InR s) (hs : ¬ (0 ≤ s ∧ s < N 0 0)) : f_X10_mute s u = some (0, up (up u 40 0 0) 40 0 1) := by
  refine wp_eq ?_
  unfold f_X10_mute
  refine wp_ei (enoStation hM hP.1 hsR) (fun h1 => absurd h1 hs) (fun h1 => ?_)
  repeat (first | (with_reducible refine wp_L ?_) | (with_reducible refine wp_g ?_ ?_; · omega) | (with_reducible refine wp_f ?_ ?_; · omega) | (with_reducible refine wp_t ?_ ?_; · omega) | (with_reducible refine wp_e (eof _ _ _) ?_) | (with_reducible refine wp_e (eat _ _ _) ?_) | (with_reducible refine wp_e (enodes _) ?_))
  exact wp_s rfl
theorem mMuteN2 {s : Int} (hM : MI N V U S f c L E B D u) (hP : PW N V U S f c L E B D) (hs : 0 ≤ s ∧ s < N 0 0) (h6 : ¬ V 6 s = 0) : f_X10_mute s u = some (0, up (up u 40 0 0) 40 0 2) := by
  have n0 := hP.1.1
  have z0 : up u 40 0 0 40 0 = 0 := up_s _ _ _ _
  have r := (hM.t 0).2.1.mu (s := s) hs.1 (by omega)
  have b := hP.2.1.1.1.2.2.2.1 s hs.1 (by omega)
  refine wp_eq ?_
  unfold f_X10_mute
  refine wp_ei (enoStation hM hP.1 (x := s) (by omega)) (fun h1 => ?_) (fun h1 => absurd hs h1)
  repeat (first | (with_reducible refine wp_L ?_) | (with_reducible refine wp_g ?_ ?_; · omega) | (with_reducible refine wp_f ?_ ?_; · omega) | (with_reducible refine wp_t ?_ ?_; · omega) | (with_reducible refine wp_e (eof _ _ _) ?_) | (with_reducible refine wp_e (eat _ _ _) ?_) | (with_reducible refine wp_e (enodes _) ?_))
  refine wp_e (ethrowsIf0 _ (by decide) z0 (by decide)) ?_
  repeat (first | (with_reducible refine wp_L ?_) | (with_reducible refine wp_g ?_ ?_; · omega) | (with_reducible refine wp_f ?_ ?_; · omega) | (with_reducible refine wp_t ?_ ?_; · omega) | (with_reducible refine wp_e (eof _ _ _) ?_) | (with_reducible refine wp_e (eat _ _ _) ?_) | (with_reducible refine wp_e (enodes _) ?_))
  exact wp_s rfl
theorem mMute {s : Int} (hM : MI N V U S f c L E B D u) (hP : PW N V U S f c L E B D) (hs : 0 ≤ s ∧ s < N 0 0) (h6 : V 6 s = 0) : wp (f_X10_mute s u) (fun q => q.2 40 0 = 0 ∧ q.1 = mtn N (mt1 V s) (V 0 2) ∧ FM u q.2 ∧ MI N (mt N V s) (psh U c V) S f (pshc c) L E B D q.2) := by
  have n0 := hP.1.1
  have z0 : up u 40 0 0 40 0 = 0 := up_s _ _ _ _
  have r := (hM.t 0).2.1.mu (s := s) hs.1 (by omega)
  unfold f_X10_mute
  refine wp_ei (enoStation hM hP.1 (x := s) (by omega)) (fun h1 => ?_) (fun h1 => absurd hs h1)
  repeat (first | (with_reducible refine wp_L ?_) | (with_reducible refine wp_g ?_ ?_; · omega) | (with_reducible refine wp_f ?_ ?_; · omega) | (with_reducible refine wp_t ?_ ?_; · omega) | (with_reducible refine wp_e (eof _ _ _) ?_) | (with_reducible refine wp_e (eat _ _ _) ?_) | (with_reducible refine wp_e (enodes _) ?_))
  refine wp_e (ethrowsIf0 _ (by decide) z0 (by decide)) ?_
  repeat (first | (with_reducible refine wp_L ?_) | (with_reducible refine wp_g ?_ ?_; · omega) | (with_reducible refine wp_f ?_ ?_; · omega) | (with_reducible refine wp_t ?_ ?_; · omega) | (with_reducible refine wp_e (eof _ _ _) ?_) | (with_reducible refine wp_e (eat _ _ _) ?_) | (with_reducible refine wp_e (enodes _) ?_))
  refine wp_b (mkeep (hM.t 0) hP z0) (fun r w hw => ?_)
  obtain ⟨w0, w1, w2⟩ := hw
  have w0 : w 40 0 = 0 := w0
  have w1 : FM (up u 40 0 0) w := w1
  have w2 : MI N V (psh U c V) S f (pshc c) L E B D w := w2
  refine wp_b (wmutes hP.1 w2.1 hP.2.1.1 w2.2.1 hs) (fun r x hx => ?_)
  obtain ⟨x0, x1, x2⟩ := hx
  have x1 : ∀ c, c ≠ 41 → x c = w c := x1
  refine wp_s ⟨(congrFun (x1 40 (by decide)) 0).trans w0, x0, ((FM.t 0).tr w1).r (a := 41) (by decide) x1, w2.now x1 x2⟩
theorem mUnmuteN1 {s : Int} (hM : MI N V U S f c L E B D u) (hP : PW N V U S f c L E B D) (hsR : InR s) (hs : ¬ (0 ≤ s ∧ s < N 0 0)) : f_X10_unmute s u = some (0, up (up u 40 0 0) 40 0 1) := by
  refine wp_eq ?_
  unfold f_X10_unmute
  refine wp_ei (enoStation hM hP.1 hsR) (fun h1 => absurd h1 hs) (fun h1 => ?_)
  repeat (first | (with_reducible refine wp_L ?_) | (with_reducible refine wp_g ?_ ?_; · omega) | (with_reducible refine wp_f ?_ ?_; · omega) | (with_reducible refine wp_t ?_ ?_; · omega) | (with_reducible refine wp_e (eof _ _ _) ?_) | (with_reducible refine wp_e (eat _ _ _) ?_) | (with_reducible refine wp_e (enodes _) ?_))
  exact wp_s rfl
theorem mUnmuteN2 {s : Int} (hM : MI N V U S f c L E B D u) (hP : PW N V U S f c L E B D) (hs : 0 ≤ s ∧ s < N 0 0) (h6 : ¬ V 6 s = 1) : f_X10_unmute s u = some (0, up (up u 40 0 0) 40 0 2) := by
  have n0 := hP.1.1
  have z0 : up u 40 0 0 40 0 = 0 := up_s _ _ _ _
  have r := (hM.t 0).2.1.mu (s := s) hs.1 (by omega)
  have b := hP.2.1.1.1.2.2.2.1 s hs.1 (by omega)
  refine wp_eq ?_
  unfold f_X10_unmute
  refine wp_ei (enoStation hM hP.1 (x := s) (by omega)) (fun h1 => ?_) (fun h1 => absurd hs h1)
  repeat (first | (with_reducible refine wp_L ?_) | (with_reducible refine wp_g ?_ ?_; · omega) | (with_reducible refine wp_f ?_ ?_; · omega) | (with_reducible refine wp_t ?_ ?_; · omega) | (with_reducible refine wp_e (eof _ _ _) ?_) | (with_reducible refine wp_e (eat _ _ _) ?_) | (with_reducible refine wp_e (enodes _) ?_))
  refine wp_e (ethrowsIf0 _ (by decide) z0 (by decide)) ?_
  repeat (first | (with_reducible refine wp_L ?_) | (with_reducible refine wp_g ?_ ?_; · omega) | (with_reducible refine wp_f ?_ ?_; · omega) | (with_reducible refine wp_t ?_ ?_; · omega) | (with_reducible refine wp_e (eof _ _ _) ?_) | (with_reducible refine wp_e (eat _ _ _) ?_) | (with_reducible refine wp_e (enodes _) ?_))
  exact wp_s rfl
theorem mUnmute {s : Int} (hM : MI N V U S f c L E B D u) (hP : PW N V U S f c L E B D) (hs : 0 ≤ s ∧ s < N 0 0) (h6 : V 6 s = 1) : wp (f_X10_unmute s u) (fun q => q.2 40 0 = 0 ∧ q.1 = rto N V s ∧ FM u q.2 ∧ MI N (up V 6 s 0) (psh U c V) S f (pshc c) L E B D q.2) := by
  have n0 := hP.1.1
  have hVb := hP.2.1.1.1
  have b1 := hVb.2.1
  have b2 := hVb.2.2.1
  have z0 : up u 40 0 0 40 0 = 0 := up_s _ _ _ _
  have r := (hM.t 0).2.1.mu (s := s) hs.1 (by omega)
  unfold f_X10_unmute
  refine wp_ei (enoStation hM hP.1 (x := s) (by omega)) (fun h1 => ?_) (fun h1 => absurd hs h1)
  repeat (first | (with_reducible refine wp_L ?_) | (with_reducible refine wp_g ?_ ?_; · omega) | (with_reducible refine wp_f ?_ ?_; · omega) | (with_reducible refine wp_t ?_ ?_; · omega) | (with_reducible refine wp_e (eof _ _ _) ?_) | (with_reducible refine wp_e (eat _ _ _) ?_) | (with_reducible refine wp_e (enodes _) ?_))
  refine wp_e (ethrowsIf0 _ (by decide) z0 (by decide)) ?_
  repeat (first | (with_reducible refine wp_L ?_) | (with_reducible refine wp_g ?_ ?_; · omega) | (with_reducible refine wp_f ?_ ?_; · omega) | (with_reducible refine wp_t ?_ ?_; · omega) | (with_reducible refine wp_e (eof _ _ _) ?_) | (with_reducible refine wp_e (eat _ _ _) ?_) | (with_reducible refine wp_e (enodes _) ?_))
  refine wp_b (mkeep (hM.t 0) hP z0) (fun r w hw => ?_)
  obtain ⟨w0, w1, w2⟩ := hw
  have w0 : w 40 0 = 0 := w0
  have w1 : FM (up u 40 0 0) w := w1
  have w2 : MI N V (psh U c V) S f (pshc c) L E B D w := w2
  refine wp_e (eat _ _ _) ?_
  refine wp_g (by omega) ?_
  refine wp_l (fun x gx => ?_)
  have xr : ∀ d, d ≠ 41 → x d = w d := fun d hd => by rw [gx]; exact up_c hd
  have ms : MS x (up V 6 s 0) := by rw [gx]; exact VE.upM w2.2.1 b1.2 b2.2 (j := 6) (s := s) (by unfold vd; omega) rfl
  have wu := (wf_unm (s := s) hP.2.1.1).1
  refine wp_e (eratioOf hP.1 (w2.1.row (fun c h3 h4 => xr c (by omega))) wu ms (by omega)) ?_
  rw [rto_up (by decide) (by decide)]
  exact wp_s ⟨(congrFun (xr 40 (by decide)) 0).trans w0, rfl, ((FM.t 0).tr w1).r (a := 41) (by decide) xr, w2.now xr ms⟩
theorem mRetractN1 {e : Int} (hM : MI N V U S f c L E B D u) (hP : PW N V U S f c L E B D) (heR : InR e) (he : ¬ (0 ≤ e ∧ e < V 0 2)) : f_X10_retract e u = some (0, up (up u 40 0 0) 40 0 1) := by
  have z0 : up u 40 0 0 40 0 = 0 := up_s _ _ _ _
  refine wp_eq ?_
  unfold f_X10_retract
  refine wp_L ?_
  refine wp_ei (enoEvent (hM.t 0) hP.2.1.1.1 z0 heR) (fun h1 => absurd h1 he) (fun h1 => ?_)
  repeat (first | (with_reducible refine wp_L ?_) | (with_reducible refine wp_g ?_ ?_; · omega) | (with_reducible refine wp_f ?_ ?_; · omega) | (with_reducible refine wp_t ?_ ?_; · omega) | (with_reducible refine wp_e (eof _ _ _) ?_) | (with_reducible refine wp_e (eat _ _ _) ?_) | (with_reducible refine wp_e (enodes _) ?_))
  exact wp_s rfl
theorem mRetractN2 {e : Int} (hM : MI N V U S f c L E B D u) (hP : PW N V U S f c L E B D) (he : 0 ≤ e ∧ e < V 0 2) (h14 : V 14 e = 1) : f_X10_retract e u = some (0, up (up u 40 0 0) 40 0 2) := by
  have hVb := hP.2.1.1.1
  have b2 := hVb.2.2.1
  have z0 : up u 40 0 0 40 0 = 0 := up_s _ _ _ _
  refine wp_eq ?_
  unfold f_X10_retract
  refine wp_L ?_
  refine wp_ei (enoEvent (hM.t 0) hVb z0 (x := e) (by omega)) (fun h1 => ?_) (fun h1 => absurd he h1)
  repeat (first | (with_reducible refine wp_L ?_) | (with_reducible refine wp_g ?_ ?_; · omega) | (with_reducible refine wp_f ?_ ?_; · omega) | (with_reducible refine wp_t ?_ ?_; · omega) | (with_reducible refine wp_e (eof _ _ _) ?_) | (with_reducible refine wp_e (eat _ _ _) ?_) | (with_reducible refine wp_e (enodes _) ?_))
  refine wp_e (eisRetracted hVb (hM.t 0).2.1 he) ?_
  rw [if_pos h14]
  refine wp_e (ethrowsIf0 _ (by decide) z0 (by decide)) ?_
  repeat (first | (with_reducible refine wp_L ?_) | (with_reducible refine wp_g ?_ ?_; · omega) | (with_reducible refine wp_f ?_ ?_; · omega) | (with_reducible refine wp_t ?_ ?_; · omega) | (with_reducible refine wp_e (eof _ _ _) ?_) | (with_reducible refine wp_e (eat _ _ _) ?_) | (with_reducible refine wp_e (enodes _) ?_))
  exact wp_s rfl
theorem mRetract {e : Int} (hM : MI N V U S f c L E B D u) (hP : PW N V U S f c L E B D) (he : 0 ≤ e ∧ e < V 0 2) (h14 : ¬ V 14 e = 1) : wp (f_X10_retract e u) (fun q => q.2 40 0 = 0 ∧ q.1 = pk V e ∧ FM u q.2 ∧ MI N (rtr V e) (psh U c V) S f (pshc c) L E B D q.2) := by
  have hVb := hP.2.1.1.1
  have b2 := hVb.2.2.1
  have z0 : up u 40 0 0 40 0 = 0 := up_s _ _ _ _
  unfold f_X10_retract
  refine wp_L ?_
  refine wp_ei (enoEvent (hM.t 0) hVb z0 (x := e) (by omega)) (fun h1 => ?_) (fun h1 => absurd he h1)
  repeat (first | (with_reducible refine wp_L ?_) | (with_reducible refine wp_g ?_ ?_; · omega) | (with_reducible refine wp_f ?_ ?_; · omega) | (with_reducible refine wp_t ?_ ?_; · omega) | (with_reducible refine wp_e (eof _ _ _) ?_) | (with_reducible refine wp_e (eat _ _ _) ?_) | (with_reducible refine wp_e (enodes _) ?_))
  refine wp_e (eisRetracted hVb (hM.t 0).2.1 he) ?_
  rw [if_neg h14]
  refine wp_e (ethrowsIf0 _ (by decide) z0 (by decide)) ?_
  repeat (first | (with_reducible refine wp_L ?_) | (with_reducible refine wp_g ?_ ?_; · omega) | (with_reducible refine wp_f ?_ ?_; · omega) | (with_reducible refine wp_t ?_ ?_; · omega) | (with_reducible refine wp_e (eof _ _ _) ?_) | (with_reducible refine wp_e (eat _ _ _) ?_) | (with_reducible refine wp_e (enodes _) ?_))
  refine wp_b (mkeep (hM.t 0) hP z0) (fun r w hw => ?_)
  obtain ⟨w0, w1, w2⟩ := hw
  have w0 : w 40 0 = 0 := w0
  have w1 : FM (up u 40 0 0) w := w1
  have w2 : MI N V (psh U c V) S f (pshc c) L E B D w := w2
  refine wp_e (epicksOf hVb w2.2.1 (by omega)) ?_
  refine wp_b (wretracts hVb w2.2.1 he) (fun r x hx => ?_)
  obtain ⟨x1, x2⟩ := hx
  have x1 : ∀ c, c ≠ 41 → x c = w c := x1
  exact wp_s ⟨(congrFun (x1 40 (by decide)) 0).trans w0, rfl, ((FM.t 0).tr w1).r (a := 41) (by decide) x1, w2.now x1 x2⟩
/-- another present, a shorter history -/
theorem MI.back {w V2 : uS} {c2 : Int} (h : MI N V U S f c L E B D u) (hw : ∀ d, d ≠ 40 → d ≠ 41 → w d = u d) (h40 : ∀ j, j ≠ 22 → j ≠ 0 → w 40 j = u 40 j) (h22 : w 40 22 = c2) (hc : c2 ≤ c) (hm : MS w V2) : MI N V2 U S f c2 L E B D w := by
  obtain ⟨h1, h2, h3, h4, h5, h6, h7⟩ := h
  refine ⟨h1.row (fun c a b => hw c (by omega) (by omega)), hm, ⟨h22, fun j j0 j1 => (h3.2 j j0 (by omega)).row (hw _ (by decide) (by decide))⟩, h4.row (hw _ (by decide) (by decide)) (hw _ (by decide) (by decide)), by rw [h40 8 (by decide) (by decide), h40 15 (by decide) (by decide)]; exact h5, ?_, h7.row (h40 _ (by decide) (by decide)) (hw _ (by decide) (by decide))⟩
  rw [hw 47 (by decide) (by decide)]; exact h6
theorem mUndo0 (hM : MI N V U S f 0 L E B D u) : f_X10_undo u = some (-1, up u 40 0 0) := by
  have e := (hM.t 0).2.2.1.1
  refine wp_eq ?_
  unfold f_X10_undo
  refine wp_L ?_
  rw [e]
  repeat (first | (with_reducible refine wp_L ?_) | (with_reducible refine wp_g ?_ ?_; · omega) | (with_reducible refine wp_f ?_ ?_; · omega) | (with_reducible refine wp_t ?_ ?_; · omega) | (with_reducible refine wp_e (eof _ _ _) ?_) | (with_reducible refine wp_e (eat _ _ _) ?_) | (with_reducible refine wp_e (enodes _) ?_))
  exact wp_s rfl
theorem mUndo (hM : MI N V U S f c L E B D u) (hP : PW N V U S f c L E B D) (hc : 0 < c) : wp (f_X10_undo u) (fun q => q.2 40 0 = 0 ∧ q.1 = c - 1 ∧ FM u q.2 ∧ MI N (U (c - 1)) U S f (c - 1) L E B D q.2) := by
  have hM1 := hM.t 0
  have e := hM1.2.2.1.1
  have hU := hP.2.2.1.1
  have hU1 := hU.1
  unfold f_X10_undo
  refine wp_L ?_
  rw [e]
  refine wp_g (by omega) ?_
  refine wp_f (by omega) ?_
  refine wp_l (fun w gw => ?_)
  have y : w 40 22 = c - 1 := by rw [gw, up_s]
  have wr : ∀ d, d ≠ 40 → w d = u d := fun d hd => by rw [gw, up_c hd, up_c hd]
  have w4 : ∀ j, j ≠ 22 → j ≠ 0 → w 40 j = u 40 j := fun j j0 j1 => by rw [gw, up_j j0, up_j j1]
  have w00 : w 40 0 = 0 := by rw [gw, up_j (by decide), up_s]
  rw [y]
  refine wp_b (wback (u := w) (c := c) (d := c - 1) (fun j j0 j1 => (hM.2.2.1.2 j j0 j1).row (wr _ (by decide))) hU (by omega)) (fun r x hx => ?_)
  obtain ⟨x1, x2⟩ := hx
  have x1 : ∀ e, e ≠ 41 → x e = w e := x1
  have x40 : x 40 = w 40 := x1 40 (by decide)
  refine wp_s ⟨(congrFun x40 0).trans w00, (congrFun x40 22).trans y, fun d hd => (x1 d (by omega)).trans (wr d (by omega)), hM.back (fun d d0 d1 => (x1 d d1).trans (wr d d0)) (fun j j0 j1 => (congrFun x40 j).trans (w4 j j0 j1)) ((congrFun x40 22).trans y) (by omega) x2⟩
theorem mSaveN {s : Int} (hsR : InR s) (hs : ¬ (0 ≤ s ∧ s < 2)) : f_X10_saveSnapshot s u = some (0, up (up u 40 0 0) 40 0 1) := by
  refine wp_eq ?_
  unfold f_X10_saveSnapshot
  refine wp_ei (enoSlot hsR) (fun h1 => absurd h1 hs) (fun h1 => ?_)
  repeat (first | (with_reducible refine wp_L ?_) | (with_reducible refine wp_g ?_ ?_; · omega) | (with_reducible refine wp_f ?_ ?_; · omega) | (with_reducible refine wp_t ?_ ?_; · omega) | (with_reducible refine wp_e (eof _ _ _) ?_) | (with_reducible refine wp_e (eat _ _ _) ?_) | (with_reducible refine wp_e (enodes _) ?_))
  exact wp_s rfl
theorem mSave {s : Int} (hM : MI N V U S f c L E B D u) (hP : PW N V U S f c L E B D) (hs : 0 ≤ s ∧ s < 2) : wp (f_X10_saveSnapshot s u) (fun q => q.2 40 0 = 0 ∧ q.1 = f s ∧ FM u q.2 ∧ MI N V U (fun i => if i = s then V else S i) (fun i => if i = s then 1 else f i) c L E B D q.2) := by
  have hM1 := hM.t 0
  have hf := hP.2.2.2.1.1
  have r41 : (41 : Nat) < NN ∧ sT 41 = 100 := by decide +kernel
  have r52 : (52 : Nat) < NN ∧ sT 52 = 100 := by decide +kernel
  have n41 : (sN 41 : Int) = 1167 := by decide +kernel
  have n52 : (sN 52 : Int) = 2334 := by decide +kernel
  have hVb := hP.2.1.1.1
  have e53 := (hM1.2.2.2.1 s hs.1 hs.2).1
  unfold f_X10_saveSnapshot
  refine wp_ei (enoSlot (x := s) (by omega)) (fun h1 => ?_) (fun h1 => absurd hs h1)
  repeat (first | (with_reducible refine wp_L ?_) | (with_reducible refine wp_g ?_ ?_; · omega) | (with_reducible refine wp_f ?_ ?_; · omega) | (with_reducible refine wp_t ?_ ?_; · omega) | (with_reducible refine wp_e (eof _ _ _) ?_) | (with_reducible refine wp_e (eat _ _ _) ?_) | (with_reducible refine wp_e (enodes _) ?_))
  refine wp_b (wcopyS hVb r41 r52 (i := 0) (o := 1167 * s) (by omega) (by omega) (by decide) (MSo.o41 hM1.2.1)) (fun r w hw => ?_)
  obtain ⟨w1, w2, w3⟩ := hw
  have w1 : ∀ d, d ≠ 52 → w d = up u 40 0 0 d := w1
  have w3 : ∀ j, (j < 1167 * s ∨ 1167 * s + 1167 ≤ j) → w 52 j = up u 40 0 0 52 j := w3
  rw [e53]
  refine wp_g (by omega) ?_
  refine wp_L ?_
  refine wp_g (hf s hs.1 hs.2).1 (wp_s ⟨?_, rfl, fun d hd => (up_c (by omega)).trans ((w1 d (by omega)).trans (FM.t 0 d hd)), ?_⟩)
  · show up w 53 s 1 40 0 = 0
    rw [up_k (by decide), w1 40 (by decide)]; exact up_s _ _ _ _
  · show MI N V U (fun i => if i = s then V else S i) (fun i => if i = s then 1 else f i) c L E B D (up w 53 s 1)
    obtain ⟨h1, h2, h3, h4, h5, h6, h7⟩ := hM1
    have r : ∀ d, d ≠ 52 → d ≠ 53 → up w 53 s 1 d = up u 40 0 0 d := fun d d0 d1 => (up_c d1).trans (w1 d d0)
    refine ⟨h1.row (fun c a b => r c (by omega) (by omega)), h2.row (r _ (by decide) (by decide)), h3.row (by rw [r 40 (by decide) (by decide)]) (r _ (by decide) (by decide)), fun i i0 i1 => ⟨?_, fun hfi => ?_⟩, by rw [r 40 (by decide) (by decide)]; exact h5, ?_, h7.row (by rw [r 40 (by decide) (by decide)]) (r _ (by decide) (by decide))⟩
    · show up w 53 s 1 53 i = if i = s then 1 else f i
      by_cases hi : i = s
      · subst hi; rw [up_s, if_pos rfl]
      · rw [up_j hi, if_neg hi, w1 53 (by decide)]; exact (h4 i i0 i1).1
    · show MSo (up w 53 s 1) 52 (1167 * i) (if i = s then V else S i)
      have e52 : up w 53 s 1 52 = w 52 := up_c (by decide)
      by_cases hi : i = s
      · subst hi
        rw [if_pos rfl]
        exact MSo.row (u := w) w2 e52
      · rw [if_neg hi]
        have hfi2 : f i = 1 := by
          have : (if i = s then 1 else f i) = 1 := hfi
          rwa [if_neg hi] at this
        have old := (h4 i i0 i1).2 hfi2
        have wfi := ((hf i i0 i1).2 hfi2).1
        intro j q hv
        have l := ix_lim (vd_lim hv wfi.2.1.2 wfi.2.2.1.2)
        show up w 53 s 1 52 (1167 * i + ix j q) = _
        rw [e52, w3 _ (by omega)]
        exact old j q hv
    · rw [r 47 (by decide) (by decide)]; exact h6
theorem mRestoreN1 {s : Int} (hsR : InR s) (hs : ¬ (0 ≤ s ∧ s < 2)) : f_X10_restoreSnapshot s u = some (0, up (up u 40 0 0) 40 0 1) := by
  refine wp_eq ?_
  unfold f_X10_restoreSnapshot
  refine wp_ei (enoSlot hsR) (fun h1 => absurd h1 hs) (fun h1 => ?_)
  repeat (first | (with_reducible refine wp_L ?_) | (with_reducible refine wp_g ?_ ?_; · omega) | (with_reducible refine wp_f ?_ ?_; · omega) | (with_reducible refine wp_t ?_ ?_; · omega) | (with_reducible refine wp_e (eof _ _ _) ?_) | (with_reducible refine wp_e (eat _ _ _) ?_) | (with_reducible refine wp_e (enodes _) ?_))
  exact wp_s rfl
theorem mRestoreN2 {s : Int} (hM : MI N V U S f c L E B D u) (hs : 0 ≤ s ∧ s < 2) (h0 : f s = 0) : f_X10_restoreSnapshot s u = some (0, up (up u 40 0 0) 40 0 2) := by
  have z0 : up u 40 0 0 40 0 = 0 := up_s _ _ _ _
  have e53 := ((hM.t 0).2.2.2.1 s hs.1 hs.2).1
  refine wp_eq ?_
  unfold f_X10_restoreSnapshot
  refine wp_ei (enoSlot (x := s) (by omega)) (fun h1 => ?_) (fun h1 => absurd hs h1)
  repeat (first | (with_reducible refine wp_L ?_) | (with_reducible refine wp_g ?_ ?_; · omega) | (with_reducible refine wp_f ?_ ?_; · omega) | (with_reducible refine wp_t ?_ ?_; · omega) | (with_reducible refine wp_e (eof _ _ _) ?_) | (with_reducible refine wp_e (eat _ _ _) ?_) | (with_reducible refine wp_e (enodes _) ?_))
  refine wp_e (ethrowsIf0 _ (by decide) z0 (by decide)) ?_
  repeat (first | (with_reducible refine wp_L ?_) | (with_reducible refine wp_g ?_ ?_; · omega) | (with_reducible refine wp_f ?_ ?_; · omega) | (with_reducible refine wp_t ?_ ?_; · omega) | (with_reducible refine wp_e (eof _ _ _) ?_) | (with_reducible refine wp_e (eat _ _ _) ?_) | (with_reducible refine wp_e (enodes _) ?_))
  exact wp_s rfl
theorem mRestore {s : Int} (hM : MI N V U S f c L E B D u) (hP : PW N V U S f c L E B D) (hs : 0 ≤ s ∧ s < 2) (h1 : f s = 1) : wp (f_X10_restoreSnapshot s u) (fun q => q.2 40 0 = 0 ∧ q.1 = S s 0 0 ∧ FM u q.2 ∧ MI N (S s) U S f 0 L E B D q.2) := by
  have hM1 := hM.t 0
  have z0 : up u 40 0 0 40 0 = 0 := up_s _ _ _ _
  have hf := hP.2.2.2.1.1
  have hc := hP.2.2.1.1.1
  have r41 : (41 : Nat) < NN ∧ sT 41 = 100 := by decide +kernel
  have r52 : (52 : Nat) < NN ∧ sT 52 = 100 := by decide +kernel
  have n41 : (sN 41 : Int) = 1167 := by decide +kernel
  have n52 : (sN 52 : Int) = 2334 := by decide +kernel
  have e53 := (hM1.2.2.2.1 s hs.1 hs.2).1
  unfold f_X10_restoreSnapshot
  refine wp_ei (enoSlot (x := s) (by omega)) (fun h9 => ?_) (fun h9 => absurd hs h9)
  repeat (first | (with_reducible refine wp_L ?_) | (with_reducible refine wp_g ?_ ?_; · omega) | (with_reducible refine wp_f ?_ ?_; · omega) | (with_reducible refine wp_t ?_ ?_; · omega) | (with_reducible refine wp_e (eof _ _ _) ?_) | (with_reducible refine wp_e (eat _ _ _) ?_) | (with_reducible refine wp_e (enodes _) ?_))
  refine wp_e (ethrowsIf0 _ (by decide) z0 (by decide)) ?_
  repeat (first | (with_reducible refine wp_L ?_) | (with_reducible refine wp_g ?_ ?_; · omega) | (with_reducible refine wp_f ?_ ?_; · omega) | (with_reducible refine wp_t ?_ ?_; · omega) | (with_reducible refine wp_e (eof _ _ _) ?_) | (with_reducible refine wp_e (eat _ _ _) ?_) | (with_reducible refine wp_e (enodes _) ?_))
  refine wp_b (wcopyS ((hf s hs.1 hs.2).2 h1).1 r52 r41 (i := 1167 * s) (o := 0) (by omega) (by omega) (by decide) ((hM1.2.2.2.1 s hs.1 hs.2).2 h1)) (fun r w hw => ?_)
  obtain ⟨w1, w2, w3⟩ := hw
  have w1 : ∀ d, d ≠ 41 → w d = up u 40 0 0 d := w1
  have ms : MS w (S s) := MSo.to41 w2
  refine wp_L ?_
  have e41 : up w 40 22 0 41 = w 41 := up_c (by decide)
  have ms2 : MS (up w 40 22 0) (S s) := ms.row e41
  refine wp_s ⟨?_, ?_, fun d hd => (up_c (by omega)).trans ((w1 d (by omega)).trans (FM.t 0 d hd)), hM1.back (fun d d0 d1 => (up_c d0).trans (w1 d d1)) (fun j j0 j1 => (up_j j0).trans (by rw [w1 40 (by decide)])) (up_s w 40 22 0) hc.1 ms2⟩
  · show up w 40 22 0 40 0 = 0
    rw [up_j (by decide), w1 40 (by decide)]; exact z0
  · show up w 40 22 0 41 0 = _
    exact ms2.t
end MD
