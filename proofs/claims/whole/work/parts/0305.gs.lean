/-! what the statics hold, the strings, the words that the methods' own lists leave out: true from the law's start on -/
def gNw : List (String × Nat × MethodName × String) := [(RX5, 76, yX9_distance, "TriggerNetwork"), (RX7, 70, yX9_copyRow, "TriggerNetwork"), (RX9, 22, yX1_init, "TriggerNetwork"), (RX9, 39, yX7_init, "TriggerNetwork"), (RX9, 56, yX0_init, "TriggerNetwork"), (RX9, 63, yX3_init, "TriggerNetwork"), (RX1, 17, yX8_init, "TriggerNetwork"), (RX4, 31, yX7_init, "TriggerNetwork"), (RX5, 11, yX2_init, "TriggerNetwork"), (RX5, 20, yX6_init, "TriggerNetwork")]
def gSt : List (String × String × String × FieldType × List Int) := [(RX1, "ITEMS", "[I", .int, gL_ITEMS), (RX1, "MOST", "[I", .int, gL_MOST), (RX1, "LOWEST", "[I", .int, gL_LOWEST), (RX1, "HIGHEST", "[I", .int, gL_HIGHEST), ("java/lang/Integer", "DigitOnes", "[B", .byte, gL_DigitOnes), ("java/lang/Integer", "DigitTens", "[B", .byte, gL_DigitTens)]
def gRef : List (String × Nat × Nat × String) := [(RX9, 240, 9, "event "), (RX9, 249, 10, " retracted"), (RX9, 344, 11, " at "), (RX9, 355, 13, " with "), (RX9, 358, 14, " votes"), (RX9, 360, 15, " magnitude "), (RX1, 94, 0, "station"), (RX1, 96, 1, "grid"), (RX1, 98, 2, "speed"), (RX1, 100, 3, "average"), (RX1, 102, 4, "trigger"), (RX1, 104, 5, "votes"), (RX1, 106, 6, "slack"), (RX1, 108, 7, "rung"), (RX1, 110, 8, "decay"), (RX10, 142, 0, "station"), (RX10, 152, 7, "rung"), (RX10, 157, 1, "grid"), (RX10, 165, 2, "speed"), (RX10, 167, 3, "average"), (RX10, 169, 4, "trigger"), (RX10, 171, 5, "votes"), (RX10, 173, 6, "slack"), (RX10, 175, 8, "decay"), (RX10, 286, 9, "event "), (RX10, 295, 10, " retracted"), (RX10, 297, 11, " at "), (RX10, 299, 12, ","), (RX10, 301, 13, " with "), (RX10, 303, 14, " votes"), (RX10, 305, 15, " magnitude ")]
def gMsg : List (Nat × String) := [(81, "length is out of range"), (125, "no such number of things"), (144, "amplitude is out of range"), (174, "no such property of a station"), (197, "no such property of a pick"), (218, "no such property of an event"), (298, "the tick would be too high"), (319, "the slot is empty"), (364, "no such station"), (367, "no such node"), (369, "no such pick"), (371, "no such event"), (373, "no such slot"), (375, "level is out of range"), (377, "ticks is out of range"), (379, "the muting of the station is not so"), (381, "the event is retracted")]
def gDe : List String := ["java/lang/RuntimeException", "java/lang/Exception", "java/lang/Throwable"]
def gCa : List String := ["java/lang/IndexOutOfBoundsException", "java/lang/IllegalArgumentException", "java/lang/IllegalStateException"]
def gS (t : gP) (U : State) (H : Heap) : Prop :=
  (∀ q ∈ gNw, va_Nw (.methodLinkNest q.1 q.2.1 q.2.2.1 q.2.2.2) U) ∧
  (∀ q ∈ gSt, ∃ a : Nat, va_Z q.1 q.2.1 q.2.2.1 (.ref a) (gA t) U H ∧ va_T q.2.2.2.1 a q.2.2.2.2.length (fun j => .int (iI (q.2.2.2.2.getD j 0))) (gA t) U H) ∧
  (va_Z "java/lang/String" "COMPACT_STRINGS" "Z" (.int 1) (gA t) U H ∧ va_Zq "jdk/internal/util/Preconditions" "SIOOBE_FORMATTER" "Ljava/util/function/BiFunction;" (gA t) U H) ∧
  vk_S gStr.length (gStr.map List.length) (gStr.map (fun l => l.map iI)) (fun i => t.2.2.1 (2000 + i)) (fun i => t.2.2.1 (3000 + i)) (gA t) U H ∧
  (∀ q ∈ gRef, vk_R q.1 q.2.1 q.2.2.2 (t.2.2.1 (2000 + q.2.2.1)) U) ∧
  (∀ q ∈ gMsg, ∃ a : Nat, vk_R RX9 q.1 q.2 a U) ∧
  vx_Zq Bundle.tN "UNASSIGNED_STACK" Bundle.steD (gA t) U H ∧ vx_Zq Bundle.tN "SUPPRESSED_SENTINEL" Bundle.listD (gA t) U H ∧
  (∀ y ∈ gDe, va_Nw (.declares (Bundle.initS y)) U) ∧ (∀ y ∈ gCa, va_Nw (.castable y y) U)
theorem gS.to {t : gP} {s U : State} {H : Heap} {locs : List Loc} (h : gS t s s.heap) (hS : va_S (gA t) s.heap H locs) (hU : U.heap = H) (hW : s.WarmedH U.vm) : gS t U U.heap := by
  obtain ⟨h1, h2, h3, h4, h5, h6, h7, h8, h9, h10⟩ := h
  have hvm := hW.alike
  have hk : ∀ a : Nat, a < s.heap.size → ¬ gA t a → U.heap[a]? = s.heap[a]? := fun a q1 q2 => by rw [hU]; exact hS.2.1 a q1 q2
  refine ⟨fun q hq => va_Nw.warmM hW (h1 q hq), fun q hq => ?_, ⟨(h3.1.moved hvm).kept hk, (h3.2.moved hvm).kept hk⟩, (h4.moved hvm).kept hk, fun q hq => (h5 q hq).warm hW, fun q hq => ?_, (h7.moved hvm).kept hk, (h8.moved hvm).kept hk, fun y hy => va_Nw.warmD hW (h9 y hy), fun y hy => va_Nw.warmC hW (h10 y hy)⟩
  · obtain ⟨a, q1, q2⟩ := h2 q hq
    exact ⟨a, (q1.moved hvm).kept hk, (q2.moved hvm).kept hk⟩
  · obtain ⟨a, q1⟩ := h6 q hq
    exact ⟨a, q1.warm hW⟩
theorem gS.calling {t : gP} {U : State} {g : JFrame} {mk : MethodId} {a : Array Value} (h : gS t U U.heap) : gS t (U.calling g mk a) (U.calling g mk a).heap := by
  obtain ⟨h1, h2, h3, h4, h5, h6, h7, h8, h9, h10⟩ := h
  have hvm : U.vm.Alike (U.calling g mk a).vm := Vm.Alike.refl U.vm
  have e : U.vm = (U.calling g mk a).vm := rfl
  refine ⟨fun q hq => va_Nw.same rfl e (h1 q hq), fun q hq => ?_, ⟨h3.1.moved (U := U.calling g mk a) hvm, h3.2.moved (U := U.calling g mk a) hvm⟩, h4.moved (U := U.calling g mk a) hvm, fun q hq => (h5 q hq).same e.symm, fun q hq => ?_, h7.moved (U := U.calling g mk a) hvm, h8.moved (U := U.calling g mk a) hvm, fun y hy => va_Nw.same rfl e (h9 y hy), fun y hy => va_Nw.same rfl e (h10 y hy)⟩
  · obtain ⟨b, q1, q2⟩ := h2 q hq
    exact ⟨b, q1.moved (U := U.calling g mk a) hvm, q2.moved (U := U.calling g mk a) hvm⟩
  · obtain ⟨b, q1⟩ := h6 q hq
    exact ⟨b, q1.same e.symm⟩
