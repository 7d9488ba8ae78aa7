/-! L, part f: the law's calls -/
theorem okA_x {g : Nat} {k : Int} (h : okA g k) : (g = 0 ∨ g = 2) ∧ (if g = 0 then (0 : Int) else 1) = k ∧ InR k ∧ (k = 0 → g = 0) := by
  rcases h with ⟨rfl, rfl⟩ | ⟨rfl, rfl⟩ <;> exact ⟨by decide, by decide, by decide, by decide⟩
theorem okI_x {g : Nat} {k : Int} (h : okI g k) : (g = 0 ∨ g = 1) ∧ (if g = 0 then (0 : Int) else 1) = k ∧ InR k ∧ (k = 0 → g = 0) := by
  rcases h with ⟨rfl, rfl⟩ | ⟨rfl, rfl⟩ <;> exact ⟨by decide, by decide, by decide, by decide⟩
theorem okIA_x {g : Nat} {k : Int} (h : okIA g k) : (g = 0 ∨ g = 1 ∨ g = 2) ∧ (if g = 0 then (0 : Int) else if g = 1 then 1 else 2) = k ∧ InR k ∧ (k = 0 → g = 0) := by
  rcases h with ⟨rfl, rfl⟩ | ⟨rfl, rfl⟩ | ⟨rfl, rfl⟩ <;> exact ⟨by decide, by decide, by decide, by decide⟩
theorem okIS_x {g : Nat} {k : Int} (h : okIS g k) : (g = 0 ∨ g = 1 ∨ g = 3) ∧ (if g = 0 then (0 : Int) else if g = 1 then 1 else 2) = k ∧ InR k ∧ (k = 0 → g = 0) := by
  rcases h with ⟨rfl, rfl⟩ | ⟨rfl, rfl⟩ | ⟨rfl, rfl⟩ <;> exact ⟨by decide, by decide, by decide, by decide⟩
theorem okAS_x {g : Nat} {k : Int} (h : okAS g k) : (g = 0 ∨ g = 2 ∨ g = 3) ∧ (if g = 0 then (0 : Int) else if g = 2 then 1 else 2) = k ∧ InR k ∧ (k = 0 → g = 0) := by
  rcases h with ⟨rfl, rfl⟩ | ⟨rfl, rfl⟩ | ⟨rfl, rfl⟩ <;> exact ⟨by decide, by decide, by decide, by decide⟩
theorem okIAS_x {g : Nat} {k : Int} (h : okIAS g k) : (g = 0 ∨ g = 1 ∨ g = 2 ∨ g = 3) ∧ (if g = 0 then (0 : Int) else if g = 1 then 1 else if g = 2 then 2 else 3) = k ∧ InR k ∧ (k = 0 → g = 0) := by
  rcases h with ⟨rfl, rfl⟩ | ⟨rfl, rfl⟩ | ⟨rfl, rfl⟩ | ⟨rfl, rfl⟩ <;> exact ⟨by decide, by decide, by decide, by decide⟩
theorem w39_o {g : Nat} {u1 : uS} {v : Int} (d : Nat) (hd : d ≠ 39) : (if g = 0 then up u1 39 0 v else u1) d = u1 d := by
  by_cases h : g = 0
  · rw [if_pos h]; funext j; exact up_k hd
  · rw [if_neg h]
theorem w39_s {g : Nat} {u1 : uS} {v : Int} (h : g = 0) : (if g = 0 then up u1 39 0 v else u1) 39 0 = v := by rw [if_pos h, up_s]
theorem cmpL_self (a : Int) : cmpL a a = 0 := by unfold cmpL; simp
theorem bFits {u : uS} {a b : Int} (h : JI u) (ha : InR a) (hb : InR b) : wp (f_X9_fits a b u) (fun z => z.2.1 = 0 ∨ z.2.1 = 1) := by
  obtain ⟨N, V, U, S, f, c, L, E, B, D, hC, hM, hP⟩ := h
  refine wp_w (cFits hC hP ha hb) (fun z hz => ?_)
  have h1 : z.2.1 = (rFits N V a b).2 := congrArg Prod.snd hz.1
  rw [h1]
  unfold rFits
  split
  · split
    · exact Or.inr rfl
    · exact Or.inl rfl
  · exact Or.inl rfl
theorem bSave {u : uS} {a : Int} (h : JI u) (ha : InR a) : wp (f_X9_saveSnapshot a u) (fun z => z.2.1 = 0 ∨ z.2.1 = 1) := by
  obtain ⟨N, V, U, S, f, c, L, E, B, D, hC, hM, hP⟩ := h
  by_cases h1 : 0 ≤ a ∧ a < 2
  · refine wp_w (cSave hC hP h1) (fun z hz => ?_)
    have h2 : z.2.1 = f a := congrArg Prod.snd hz.1
    rw [h2]
    exact (hP.2.2.2.1.1 a h1.1 h1.2).1
  · exact eq_wp (cSaveN ha h1) (Or.inl rfl)
abbrev lwlv (t : gP) (b : Nat) (i : Int) : List (Nat × Value) := [(4, .int (iI i)), (3, .ref (t.2.2.1 39)), (2, .ref (t.2.2.1 40)), (1, .ref (t.2.2.1 0)), (0, .ref b)]
/-- a call of the law: from its first instruction to the loop's step -/
def lC (p : Program) (l : Launch) (e : Env) (s : State) (m : MethodId) (below : List Frame) (meth : Method) (c : Code) (b L : Nat) (xs : Nat → Int32) (Q : State → Prop) (pc : Nat) : Prop := ∀ (t : gP) (u : uS) (i : Int) (H : Heap) (locs : List Loc) (ls : Array Slot) (cells slots : Nat), xC t p s m #[.ref b] c cL_law wsL_law RL 7 → gN s → va_X b L xs s s.heap → b < s.heap.size → t.2.2.2 = s.heap.size → L ≤ 3072 → l.stackTraces = false → JI u → G t u H → va_S (gA t) s.heap H locs → lv_has ls 7 (lwlv t b i) → (0 ≤ i ∧ i + 6 ≤ (L : Int)) → cells + 13 ≤ 601024 → slots + 1206 ≤ 7293034 →
  (∀ (t' : gP) (u' : uS) (H : Heap) (locs : List Loc) (ls : Array Slot), xC t' p s m #[.ref b] c cL_law wsL_law RL 7 → t'.2.2.2 = s.heap.size → JI u' → G t' u' H → va_S (gA t') s.heap H locs → lv_has ls 7 (lwlv t' b i) → W p l e room_1 s m #[.ref b] below meth c H locs (cells + 13) (slots + 1206) Q (F0 m 1665 ls [])) →
  W p l e room_1 s m #[.ref b] below meth c H locs cells slots Q (F0 m pc ls [])
theorem x_thrown_f (u : uS) : f_X10_thrown u = some (u 40 0, u) := rfl
theorem hdL_parse : yL_parse.cls ≠ "java/lang/invoke/MethodHandle" ∧ yL_parse.cls ≠ "java/lang/invoke/VarHandle" ∧ (parseMethodDescriptor yL_parse.desc).map (fun d => d.parameters.length) = some 3 := by decide +kernel
theorem hdL_size : yL_size.cls ≠ "java/lang/invoke/MethodHandle" ∧ yL_size.cls ≠ "java/lang/invoke/VarHandle" ∧ (parseMethodDescriptor yL_size.desc).map (fun d => d.parameters.length) = some 3 := by decide +kernel
theorem hdL_between : yL_between.cls ≠ "java/lang/invoke/MethodHandle" ∧ yL_between.cls ≠ "java/lang/invoke/VarHandle" ∧ (parseMethodDescriptor yL_between.desc).map (fun d => d.parameters.length) = some 4 := by decide +kernel
theorem hdL_travel : yL_travel.cls ≠ "java/lang/invoke/MethodHandle" ∧ yL_travel.cls ≠ "java/lang/invoke/VarHandle" ∧ (parseMethodDescriptor yL_travel.desc).map (fun d => d.parameters.length) = some 4 := by decide +kernel
theorem hdL_ladder : yL_ladder.cls ≠ "java/lang/invoke/MethodHandle" ∧ yL_ladder.cls ≠ "java/lang/invoke/VarHandle" ∧ (parseMethodDescriptor yL_ladder.desc).map (fun d => d.parameters.length) = some 3 := by decide +kernel
theorem hdL_station : yL_station.cls ≠ "java/lang/invoke/MethodHandle" ∧ yL_station.cls ≠ "java/lang/invoke/VarHandle" ∧ (parseMethodDescriptor yL_station.desc).map (fun d => d.parameters.length) = some 4 := by decide +kernel
theorem hdL_pick : yL_pick.cls ≠ "java/lang/invoke/MethodHandle" ∧ yL_pick.cls ≠ "java/lang/invoke/VarHandle" ∧ (parseMethodDescriptor yL_pick.desc).map (fun d => d.parameters.length) = some 4 := by decide +kernel
theorem hdL_fits : yL_fits.cls ≠ "java/lang/invoke/MethodHandle" ∧ yL_fits.cls ≠ "java/lang/invoke/VarHandle" ∧ (parseMethodDescriptor yL_fits.desc).map (fun d => d.parameters.length) = some 4 := by decide +kernel
theorem hdL_event : yL_event.cls ≠ "java/lang/invoke/MethodHandle" ∧ yL_event.cls ≠ "java/lang/invoke/VarHandle" ∧ (parseMethodDescriptor yL_event.desc).map (fun d => d.parameters.length) = some 4 := by decide +kernel
theorem hdL_eventPick : yL_eventPick.cls ≠ "java/lang/invoke/MethodHandle" ∧ yL_eventPick.cls ≠ "java/lang/invoke/VarHandle" ∧ (parseMethodDescriptor yL_eventPick.desc).map (fun d => d.parameters.length) = some 4 := by decide +kernel
theorem hdL_misfit : yL_misfit.cls ≠ "java/lang/invoke/MethodHandle" ∧ yL_misfit.cls ≠ "java/lang/invoke/VarHandle" ∧ (parseMethodDescriptor yL_misfit.desc).map (fun d => d.parameters.length) = some 4 := by decide +kernel
theorem hdL_describe : yL_describe.cls ≠ "java/lang/invoke/MethodHandle" ∧ yL_describe.cls ≠ "java/lang/invoke/VarHandle" ∧ (parseMethodDescriptor yL_describe.desc).map (fun d => d.parameters.length) = some 3 := by decide +kernel
theorem hdL_ratioAfter : yL_ratioAfter.cls ≠ "java/lang/invoke/MethodHandle" ∧ yL_ratioAfter.cls ≠ "java/lang/invoke/VarHandle" ∧ (parseMethodDescriptor yL_ratioAfter.desc).map (fun d => d.parameters.length) = some 5 := by decide +kernel
theorem hdL_eventsWithout : yL_eventsWithout.cls ≠ "java/lang/invoke/MethodHandle" ∧ yL_eventsWithout.cls ≠ "java/lang/invoke/VarHandle" ∧ (parseMethodDescriptor yL_eventsWithout.desc).map (fun d => d.parameters.length) = some 4 := by decide +kernel
theorem hdL_setLevel : yL_setLevel.cls ≠ "java/lang/invoke/MethodHandle" ∧ yL_setLevel.cls ≠ "java/lang/invoke/VarHandle" ∧ (parseMethodDescriptor yL_setLevel.desc).map (fun d => d.parameters.length) = some 4 := by decide +kernel
theorem hdL_pass : yL_pass.cls ≠ "java/lang/invoke/MethodHandle" ∧ yL_pass.cls ≠ "java/lang/invoke/VarHandle" ∧ (parseMethodDescriptor yL_pass.desc).map (fun d => d.parameters.length) = some 3 := by decide +kernel
theorem hdL_mute : yL_mute.cls ≠ "java/lang/invoke/MethodHandle" ∧ yL_mute.cls ≠ "java/lang/invoke/VarHandle" ∧ (parseMethodDescriptor yL_mute.desc).map (fun d => d.parameters.length) = some 3 := by decide +kernel
theorem hdL_unmute : yL_unmute.cls ≠ "java/lang/invoke/MethodHandle" ∧ yL_unmute.cls ≠ "java/lang/invoke/VarHandle" ∧ (parseMethodDescriptor yL_unmute.desc).map (fun d => d.parameters.length) = some 3 := by decide +kernel
theorem hdL_retract : yL_retract.cls ≠ "java/lang/invoke/MethodHandle" ∧ yL_retract.cls ≠ "java/lang/invoke/VarHandle" ∧ (parseMethodDescriptor yL_retract.desc).map (fun d => d.parameters.length) = some 3 := by decide +kernel
theorem hdL_saveSnapshot : yL_saveSnapshot.cls ≠ "java/lang/invoke/MethodHandle" ∧ yL_saveSnapshot.cls ≠ "java/lang/invoke/VarHandle" ∧ (parseMethodDescriptor yL_saveSnapshot.desc).map (fun d => d.parameters.length) = some 3 := by decide +kernel
theorem hdL_restoreSnapshot : yL_restoreSnapshot.cls ≠ "java/lang/invoke/MethodHandle" ∧ yL_restoreSnapshot.cls ≠ "java/lang/invoke/VarHandle" ∧ (parseMethodDescriptor yL_restoreSnapshot.desc).map (fun d => d.parameters.length) = some 3 := by decide +kernel
