/-! pure part, 25: the class's calls that change, and that try out -/
/-- when there would be a new event, i ticks being done -/
noncomputable def tte (N : uS) (b : Int) : Nat → Int → uS → Int
  | 0, _, _ => -1
  | d + 1, i, W => if b < (tk N W) 0 2 then i + 1 else tte N b d (i + 1) (tk N W)
noncomputable def rWithout (N V : uS) (s t : Int) : Nat × Int := if 0 ≤ s ∧ s < N 0 0 then (if 0 ≤ t ∧ t ≤ 200 then (if V 6 s = 0 then (0, lv (tks N t.toNat (mt N V s))) else (3, 0)) else (2, 0)) else (1, 0)
theorem tks_t {N : uS} : ∀ {n : Nat} {V : uS}, tks N n V 0 0 = V 0 0 + n := by
  intro n
  induction n with
  | zero => intro V; show V 0 0 = V 0 0 + ((0 : Nat) : Int); omega
  | succ n ih => intro V; show tks N n (tk N V) 0 0 = _; rw [ih, tk_t]; omega
theorem wf_tks {N : uS} (hN : NWF N) : ∀ {n : Nat} {V : uS}, WFc N V → V 0 0 + n ≤ 10199 → WFc N (tks N n V) := by
  intro n
  induction n with
  | zero => intro V h _; exact h
  | succ n ih => intro V h h1; exact ih (wf_tk hN h (by omega)) (by rw [tk_t]; omega)
section CK
variable {u N V : uS} {U S : Int → uS} {f : Int → Int} {c L E : Int} {B : Int → Int} {D : List Int}
theorem CI.cells (h : CI N V U S f c L E B D u) : (u 0 4).toNat = 10 ∨ (u 0 4).toNat = 19 := net_at h.2.1.1
/-- the trial goes so many ticks on -/
theorem cticks69 {V2 : uS} {t : Int} {β : Type} {Q : β → Prop} {fin : uS → Option β} (hN : NWF N) (F : (Int → uS → Option β) → Int → uS → Option β) (hF : ∀ go i v, F go i v = (xgd (InR i ∧ InR t) <| if t ≤ i then fin v else xlet (v 0 4).toNat fun n25 => xgd (n25 < NN ∧ sT n25 = 9) <| xbd (f_X0_doTick n25 69 v) fun _ u28 => go (i + 1) u28)) (ht : 0 ≤ t ∧ t ≤ 200) (hC : CI N V U S f c L E B D u) (h69 : CS N u 69 V2) (hV : WFc N V2) (h0 : V2 0 0 ≤ 9999)
    (k : ∀ w, (∀ d, ¬ ((28 ≤ d ∧ d ≤ 29) ∨ (69 ≤ d ∧ d < 84)) → w d = u d) → CS N w 69 (tks N t.toNat V2) → wp (fin w) Q) : wp (xl2 F FU 0 u) Q := by
  refine wl2 (fun i v => (∀ d, ¬ ((28 ≤ d ∧ d ≤ 29) ∨ (69 ≤ d ∧ d < 84)) → v d = u d) ∧ (0 ≤ i ∧ i ≤ t) ∧ ∃ W, CS N v 69 W ∧ WFc N W ∧ W 0 0 = V2 0 0 + i ∧ tks N (t - i).toNat W = tks N t.toNat V2) (fun i _ => (t - i).toNat) (fun go i v hI hg => ?_) FU _ _ ⟨fun _ _ => rfl, by omega, V2, h69, hV, by omega, by rw [Int.sub_zero]⟩ (FU_l (by omega))
  obtain ⟨hf, hi, W, hW, hWf, hW0, hr⟩ := hI
  rw [hF]
  refine wp_g (by omega) ?_
  refine wp_i (fun cc => ?_) (fun cc => ?_)
  · rw [show (t - i).toNat = 0 by omega] at hr
    refine k v hf ?_
    rw [← hr]; exact hW
  · have hCv : CI N V U S f c L E B D v := hC.sc (fun d hd => hf d (by unfold Scr at hd; omega))
    refine wp_L ?_
    refine wp_g hCv.net ?_
    refine wp_b (cdoTick hN hCv.2.1 hWf hW (by omega)) (fun r w hw => ?_)
    obtain ⟨w1, w2⟩ := hw
    have w1 : FrK 69 v w := w1
    rw [show (t - i).toNat = (t - (i + 1)).toNat + 1 by omega] at hr
    exact hg _ _ ⟨fun d hd => (w1 d (by omega) (by omega) (by omega)).trans (hf d hd), by omega, tk N W, w2, wf_tk hN hWf (by omega), by rw [tk_t]; omega, hr⟩ (by omega)
/-- the present has been kept -/
theorem CI.kept {w : uS} (h : CI N V U S f c L E B D u) (hw : ∀ d, d ≠ 33 → (d < 84 ∨ 234 ≤ d) → w d = u d) (hh : HC N w (psh U c V) (pshc c)) : CI N V (psh U c V) S f (pshc c) L E B D w := by
  obtain ⟨h1, h2, h3, h4, h5, h6, h7, h8⟩ := h
  have n1 := net_at h2.1
  unfold CI
  rw [hw 0 (by omega) (by omega)]
  refine ⟨h1, h2.row (fun j hj => hw _ (by omega) (by omega)), h3.row (fun j hj => hw _ (by omega) (by omega)), hh, h5.row (hw _ (by omega) (by omega)) (fun d d0 d1 => hw _ (by omega) (by omega)), h6, ?_, rfl⟩
  rw [hw 1 (by omega) (by omega)]; exact h7
/-- another present -/
theorem CI.now {w V2 : uS} (h : CI N V U S f c L E B D u) (hw : ∀ d, d ≠ 28 → d ≠ 29 → (d < 54 ∨ 69 ≤ d) → w d = u d) (hm : CS N w 54 V2) : CI N V2 U S f c L E B D w := by
  obtain ⟨h1, h2, h3, h4, h5, h6, h7, h8⟩ := h
  have n1 := net_at h2.1
  unfold CI
  rw [hw 0 (by omega) (by omega) (by omega)]
  refine ⟨h1, h2.row (fun j hj => hw _ (by omega) (by omega) (by omega)), hm, h4.row (hw _ (by omega) (by omega) (by omega)) (fun d d0 d1 => hw _ (by omega) (by omega) (by omega)), h5.row (hw _ (by omega) (by omega) (by omega)) (fun d d0 d1 => hw _ (by omega) (by omega) (by omega)), h6, ?_, rfl⟩
  rw [hw 1 (by omega) (by omega) (by omega)]; exact h7
theorem ckeep (hC : CI N V U S f c L E B D u) (hP : PW N V U S f c L E B D) : wp (f_X4_remember 54 u) (fun q => FC u q.2 ∧ CI N V (psh U c V) S f (pshc c) L E B D q.2) := by
  refine wp_2 (cremember hP.1 hP.2.1.1 hC.2.2.1 hC.2.2.2.1 hP.2.2.1.1.1) (fun r w hw => ?_)
  obtain ⟨w1, w2⟩ := hw
  exact ⟨fun d d0 d1 => w1 d (by omega) (by omega), hC.kept w1 w2⟩
theorem cSetLevel {s l : Int} (hC : CI N V U S f c L E B D u) (hP : PW N V U S f c L E B D) (hs : 0 ≤ s ∧ s < N 0 0) (hl : 0 ≤ l ∧ l ≤ 9999) : wp (f_X9_setLevel s l u) (fun q => (q.1, q.2.1) = (0, V 1 s) ∧ FC u q.2.2 ∧ CI N (up V 1 s l) (psh U c V) S f (pshc c) L E B D q.2.2) := by
  have hN := hP.1
  have n0 := hN.1
  have h1 := cneedStation hC hN (x := s) (by omega)
  rw [if_pos hs] at h1
  have h2 := @cneedLevel u l (by omega)
  rw [if_pos hl] at h2
  unfold f_X9_setLevel
  refine wp_bt0 h1 (wp_bt0 h2 ?_)
  refine wp_b (ckeep hC hP) (fun r w hw => ?_)
  obtain ⟨w1, w2⟩ := hw
  have w1 : FC u w := w1
  have w2 : CI N V (psh U c V) S f (pshc c) L E B D w := w2
  have hM := w2.2.2.1
  have r : w 55 s = V 1 s := hM.2.1.lv hs.1 (by omega)
  refine wp_g (by omega) ?_
  refine wp_L ?_
  refine wp_g (by omega) ?_
  refine wp_L ?_
  rw [r]
  refine wp_s ⟨rfl, fun d d0 d1 => (up_c (by omega)).trans (w1 d d0 d1), w2.now (fun d _ _ d2 => up_c (by omega)) ⟨hM.1, VE.stC hM.2.1 1 s l rfl rfl, CL.cg hM.2.2 (show up w 55 s l 57 = w 57 from up_c (by decide)) (show up w 55 s l 58 = w 58 from up_c (by decide)) (funext fun i => rfl) rfl⟩⟩
theorem cPass {t : Int} (hC : CI N V U S f c L E B D u) (hP : PW N V U S f c L E B D) (ht : 1 ≤ t ∧ t ≤ 200) (h9 : V 0 0 + t ≤ 9999) : wp (f_X9_pass t u) (fun q => (q.1, q.2.1) = (0, tks N t.toNat V 0 1 - V 0 1) ∧ FC u q.2.2 ∧ CI N (tks N t.toNat V) (psh U c V) S f (pshc c) L E B D q.2.2) := by
  have hN := hP.1
  have hV := hP.2.1.1
  have b0 := hV.1.1
  have h1 := @cneedTicks u 1 t (by omega) (by decide)
  rw [if_pos ht] at h1
  have e0 : u 54 0 = V 0 0 := hC.2.2.1.2.1.t
  unfold f_X9_pass
  refine wp_bt0 h1 ?_
  refine wp_g (by omega) ?_
  refine wp_t (by omega) ?_
  refine wp_b (ckeep hC hP) (fun r w hw => ?_)
  obtain ⟨w1, w2⟩ := hw
  have w1 : FC u w := w1
  have w2 : CI N V (psh U c V) S f (pshc c) L E B D w := w2
  have e1 : w 54 1 = V 0 1 := w2.2.2.1.2.1.n
  refine wp_L ?_
  refine wp_L ?_
  rw [e1]
  refine wl2 (fun i v => (∀ d, d ≠ 28 → d ≠ 29 → (d < 54 ∨ 69 ≤ d) → v d = w d) ∧ (0 ≤ i ∧ i ≤ t) ∧ ∃ W, CS N v 54 W ∧ WFc N W ∧ W 0 0 = V 0 0 + i ∧ tks N (t - i).toNat W = tks N t.toNat V) (fun i _ => (t - i).toNat) (fun go i v hI hg => ?_) FU _ _ ⟨fun _ _ _ _ => rfl, by omega, V, w2.2.2.1, hV, by omega, by rw [Int.sub_zero]⟩ (FU_l (by omega))
  obtain ⟨hf, hi, W, hW, hWf, hW0, hr⟩ := hI
  have hCv : CI N W (psh U c V) S f (pshc c) L E B D v := w2.now hf hW
  unfold s_X9_pass_53
  refine wp_g (by omega) ?_
  refine wp_i (fun cc => ?_) (fun cc => ?_)
  · rw [show (t - i).toNat = 0 by omega] at hr
    have hr : W = tks N t.toNat V := hr
    refine wp_s ⟨?_, fun d d0 d1 => (hf d (by omega) (by omega) (by omega)).trans (w1 d d0 d1), by rw [← hr]; exact hCv⟩
    show ((0 : Nat), v 54 1 - V 0 1) = _
    rw [show v 54 1 = W 0 1 from hW.2.1.n, hr]
  · refine wp_L ?_
    refine wp_g hCv.net ?_
    refine wp_b (cdoTick hN hCv.2.1 hWf hW (by omega)) (fun r x hx => ?_)
    obtain ⟨x1, x2⟩ := hx
    have x1 : FrK 54 v x := x1
    rw [show (t - i).toNat = (t - (i + 1)).toNat + 1 by omega] at hr
    exact hg _ _ ⟨fun d d0 d1 d2 => (x1 d d0 d1 d2).trans (hf d d0 d1 d2), by omega, tk N W, x2, wf_tk hN hWf (by omega), by rw [tk_t]; omega, hr⟩ (by omega)
theorem cMute {s : Int} (hC : CI N V U S f c L E B D u) (hP : PW N V U S f c L E B D) (hs : 0 ≤ s ∧ s < N 0 0) (h6 : V 6 s = 0) : wp (f_X9_mute s u) (fun q => (q.1, q.2.1) = (0, mtn N (mt1 V s) (V 0 2)) ∧ FC u q.2.2 ∧ CI N (mt N V s) (psh U c V) S f (pshc c) L E B D q.2.2) := by
  have hN := hP.1
  have n0 := hN.1
  have h1 := cneedStation hC hN (x := s) (by omega)
  rw [if_pos hs] at h1
  have h2 := cneedMuted hC hP.2.1.1.1 (x := s) (m := 0) (by omega) (by decide)
  rw [if_pos h6] at h2
  unfold f_X9_mute
  refine wp_bt0 h1 (wp_bt0 h2 ?_)
  refine wp_b (ckeep hC hP) (fun r w hw => ?_)
  obtain ⟨w1, w2⟩ := hw
  have w1 : FC u w := w1
  have w2 : CI N V (psh U c V) S f (pshc c) L E B D w := w2
  refine wp_L ?_
  refine wp_g w2.net ?_
  refine wp_b (csilence hN w2.2.1 hP.2.1.1 w2.2.2.1 hs) (fun r x hx => ?_)
  obtain ⟨x0, x1, x2⟩ := hx
  have x0 : r = mtn N (mt1 V s) (V 0 2) := x0
  have x1 : FrK 54 w x := x1
  exact wp_s ⟨by rw [x0], fun d d0 d1 => (x1 d (by omega) (by omega) (by omega)).trans (w1 d d0 d1), w2.now x1 x2⟩
theorem cUnmute {s : Int} (hC : CI N V U S f c L E B D u) (hP : PW N V U S f c L E B D) (hs : 0 ≤ s ∧ s < N 0 0) (h6 : V 6 s = 1) : wp (f_X9_unmute s u) (fun q => (q.1, q.2.1) = (0, rto N V s) ∧ FC u q.2.2 ∧ CI N (up V 6 s 0) (psh U c V) S f (pshc c) L E B D q.2.2) := by
  have hN := hP.1
  have n0 := hN.1
  have hVb := hP.2.1.1.1
  have h1 := cneedStation hC hN (x := s) (by omega)
  rw [if_pos hs] at h1
  have h2 := cneedMuted hC hVb (x := s) (m := 1) (by omega) (by decide)
  rw [if_pos h6] at h2
  unfold f_X9_unmute
  refine wp_bt0 h1 (wp_bt0 h2 ?_)
  refine wp_b (ckeep hC hP) (fun r w hw => ?_)
  obtain ⟨w1, w2⟩ := hw
  have w1 : FC u w := w1
  have w2 : CI N V (psh U c V) S f (pshc c) L E B D w := w2
  have hM := w2.2.2.1
  refine wp_g (by omega) ?_
  refine wp_l (fun x gx => ?_)
  have hCx : CI N (up V 6 s 0) (psh U c V) S f (pshc c) L E B D x := w2.now (fun d _ _ d2 => by rw [gx]; exact up_c (by omega)) ⟨hM.1, VE.stC hM.2.1 6 s 0 gx rfl, CL.cg hM.2.2 (by rw [gx]; exact up_c (by decide)) (by rw [gx]; exact up_c (by decide)) (funext fun i => rfl) rfl⟩
  have l := hCx.2.2.1.2.2 s hs.1 hs.2
  have l3 : x 57 s = lat V s (N 0 8) := l.1
  have l4 : x 58 s = lat V s (N 0 9) := l.2
  refine wp_L ?_
  refine wp_g hCx.net ?_
  refine wp_g (by omega) ?_
  refine wp_g (by omega) ?_
  rw [l3, l4]
  refine wp_e (cratioOf hN hCx.2.1 (lat_b hVb (by omega) (by have := hN.2.2.2.2.2.2.2.2.1; omega)) (lat_b hVb (by omega) (by have := hN.2.2.2.2.2.2.2.2.1; have := hN.2.2.2.2.2.2.2.2.2.1; omega))) ?_
  exact wp_s ⟨rfl, fun d d0 d1 => by rw [gx]; exact (up_c (by omega)).trans (w1 d d0 d1), hCx⟩
theorem cRetract {e : Int} (hC : CI N V U S f c L E B D u) (hP : PW N V U S f c L E B D) (he : 0 ≤ e ∧ e < V 0 2) (h14 : ¬ V 14 e = 1) : wp (f_X9_retract e u) (fun q => (q.1, q.2.1) = (0, pk V e) ∧ FC u q.2.2 ∧ CI N (rtr V e) (psh U c V) S f (pshc c) L E B D q.2.2) := by
  have hN := hP.1
  have hVb := hP.2.1.1.1
  have b2 := hVb.2.2.1
  have h1 := cneedEvent hC hVb (x := e) (by omega)
  rw [if_pos he] at h1
  have h2 := cneedStanding hC hVb he
  rw [if_neg h14] at h2
  unfold f_X9_retract
  refine wp_bt0 h1 (wp_bt0 h2 ?_)
  refine wp_b (ckeep hC hP) (fun r w hw => ?_)
  obtain ⟨w1, w2⟩ := hw
  have w1 : FC u w := w1
  have w2 : CI N V (psh U c V) S f (pshc c) L E B D w := w2
  have hM := w2.2.2.1
  refine wp_e (cpicksOf hVb hM.1 hM.2.1 (by omega)) ?_
  refine wp_b (cwithdraw hVb hM.1 hM.2.1 he) (fun r x hx => ?_)
  obtain ⟨x1, x2, x3, x4⟩ := hx
  have x1 : FrK 54 w x := x1
  exact wp_s ⟨rfl, fun d d0 d1 => (x1 d (by omega) (by omega) (by omega)).trans (w1 d d0 d1), w2.now x1 ⟨hM.1, x2, CL.cg hM.2.2 x3 x4 (funext fun i => rfl) rfl⟩⟩
/-- the rows of the past as they were, another present and another history -/
theorem CI.back {w V2 : uS} {c2 : Int} (h : CI N V U S f c L E B D u) (hw : ∀ d, d ≠ 33 → (d < 54 ∨ 69 ≤ d) → w d = u d) (hh : HC N w U c2) (hm : CS N w 54 V2) : CI N V2 U S f c2 L E B D w := by
  obtain ⟨h1, h2, h3, h4, h5, h6, h7, h8⟩ := h
  have n1 := net_at h2.1
  unfold CI
  rw [hw 0 (by omega) (by omega)]
  refine ⟨h1, h2.row (fun j hj => hw _ (by omega) (by omega)), hm, hh, h5.row (hw _ (by omega) (by omega)) (fun d d0 d1 => hw _ (by omega) (by omega)), h6, ?_, rfl⟩
  rw [hw 1 (by omega) (by omega)]; exact h7
end CK
