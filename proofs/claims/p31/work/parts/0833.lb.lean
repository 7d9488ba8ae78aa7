/-! L, part b: what the statics and the strings hold at the law's start -/
def lwN : List Cond := flatC (Jvm.Cond.and given_1 narrow_1)
def stT (i : Nat) : Term := .string (gRef.getD i ("", 0, 0, "")).1 (gRef.getD i ("", 0, 0, "")).2.1
def stV (i : Nat) : Term := .field (stT i) "java/lang/String" "value" "[B"
def stL (i : Nat) : Nat := (gStr.map List.length).getD i 0
def stB (i : Nat) : List Int32 := (gStr.map (fun l => l.map iI)).getD i []
def lwS : List Cond := (List.range 20).flatMap (fun i => [.exactly (stT i) "java/lang/String", .eq (.field (stT i) "java/lang/String" "coder" "B") (.int 0), .arrayOf (stV i) .byte, .eq (.length (stV i)) (.int (Int32.ofNat (stL i)))] ++ (List.range (stL i)).map (fun j => .eq (.elem (stV i) (.int (Int32.ofNat j))) (.int ((stB i).getD j 0))))
def lwA : List Cond := gSt.flatMap (fun q => [.arrayOf (.static q.1 q.2.1 q.2.2.1) q.2.2.2.1, .eq (.length (.static q.1 q.2.1 q.2.2.1)) (.int (Int32.ofNat q.2.2.2.2.length))] ++ (List.range q.2.2.2.2.length).map (fun j => .eq (.elem (.static q.1 q.2.1 q.2.2.1) (.int (Int32.ofNat j))) (.int (iI (q.2.2.2.2.getD j 0)))))
def lwB : List Cond := gSt.flatMap (fun q => [.laysStatic q.1 q.2.1 q.2.2.1, .initialized q.1])
def lwC : List Cond := gRef.map (fun q => .stringRef q.1 q.2.1 q.2.2.2)
def lwD : List Cond := gMsg.map (fun q => .stringRef RX9 q.1 q.2)
def lwE : List Cond := gMsg.map (fun q => .exactly (.string RX9 q.1) "java/lang/String")
def lwF : List Cond := gNw.map (fun q => .methodLinkNest q.1 q.2.1 q.2.2.1 q.2.2.2)
def lwH : List Cond := gNf.map (fun q => .fieldLinkNest q.1 q.2.1 q.2.2.1 q.2.2.2.1 q.2.2.2.2.1 q.2.2.2.2.2)
set_option maxRecDepth 40000 in
theorem lwS_in : ∀ w ∈ lwS, w ∈ lwN := tin_p _ [544, 545, 546, 547, 548, 549, 550, 551, 552, 553, 554, 555, 556, 557, 558, 559, 560, 561, 562, 563, 564, 565, 566, 567, 568, 569, 570, 571, 572, 573, 574, 575, 576, 577, 578, 579, 580, 581, 582, 583, 584, 585, 586, 587, 588, 589, 590, 591, 592, 593, 594, 595, 596, 597, 598, 599, 600, 601, 602, 603, 604, 605, 606, 607, 608, 609, 610, 611, 612, 613, 614, 615, 616, 617, 618, 619, 620, 621, 622, 623, 624, 625, 626, 627, 628, 408, 409, 410, 411, 412, 413, 414, 415, 416, 417, 418, 419, 420, 421, 422, 423, 424, 425, 426, 427, 428, 429, 430, 431, 432, 433, 434, 435, 436, 437, 438, 439, 440, 441, 442, 443, 444, 445, 446, 447, 448, 449, 450, 451, 452, 453, 454, 455, 456, 457, 458, 459, 460, 461, 462, 463, 464, 465, 466, 467, 468, 469, 470, 471, 472, 473, 474, 475, 476, 477, 478, 479, 480, 481, 482, 483, 484, 485, 486, 487, 488, 489, 490, 491, 492, 493, 494, 495, 496, 497, 498, 499, 500, 501, 502, 503, 504, 505, 506, 507, 508, 509, 510, 511, 512, 513, 514, 515, 516, 517] (by decide +kernel)
set_option maxRecDepth 40000 in
theorem lwA_in : ∀ w ∈ lwA, w ∈ lwN := tin_p _ [230, 231, 232, 233, 234, 235, 236, 237, 238, 239, 240, 218, 219, 220, 221, 222, 223, 224, 225, 226, 227, 228, 242, 243, 244, 245, 246, 247, 248, 249, 250, 251, 252, 253, 254, 255, 256, 257, 258, 259, 260, 261, 262, 263, 264, 265, 266, 267, 268, 269, 270, 271, 272, 273, 274, 275, 276, 277, 278, 279, 280, 281, 282, 283, 284, 285, 286, 287, 288, 290, 291, 292, 293, 294, 295, 296, 297, 298, 299, 300, 301, 302, 303, 304, 305, 306, 307, 308, 309, 310, 311, 312, 313, 314, 315, 316, 317, 318, 319, 320, 321, 322, 323, 324, 325, 326, 327, 328, 329, 330, 331, 332, 333, 334, 335, 336, 10, 11, 12, 13, 14, 15, 16, 17, 18, 19, 20, 21, 22, 23, 24, 25, 26, 27, 28, 29, 30, 31, 32, 33, 34, 35, 36, 37, 38, 39, 40, 41, 42, 43, 44, 45, 46, 47, 48, 49, 50, 51, 52, 53, 54, 55, 56, 57, 58, 59, 60, 61, 62, 63, 64, 65, 66, 67, 68, 69, 70, 71, 72, 73, 74, 75, 76, 77, 78, 79, 80, 81, 82, 83, 84, 85, 86, 87, 88, 89, 90, 91, 92, 93, 94, 95, 96, 97, 98, 99, 100, 101, 102, 103, 104, 105, 106, 107, 108, 109, 110, 111, 113, 114, 115, 116, 117, 118, 119, 120, 121, 122, 123, 124, 125, 126, 127, 128, 129, 130, 131, 132, 133, 134, 135, 136, 137, 138, 139, 140, 141, 142, 143, 144, 145, 146, 147, 148, 149, 150, 151, 152, 153, 154, 155, 156, 157, 158, 159, 160, 161, 162, 163, 164, 165, 166, 167, 168, 169, 170, 171, 172, 173, 174, 175, 176, 177, 178, 179, 180, 181, 182, 183, 184, 185, 186, 187, 188, 189, 190, 191, 192, 193, 194, 195, 196, 197, 198, 199, 200, 201, 202, 203, 204, 205, 206, 207, 208, 209, 210, 211, 212, 213, 214] (by decide +kernel)
set_option maxRecDepth 40000 in
theorem lwB_in : ∀ w ∈ lwB, w ∈ lw_tbl := tin_p _ [1027, 29, 1025, 29, 1045, 29, 1051, 29, 765, 51, 767, 51] (by decide +kernel)
set_option maxRecDepth 40000 in
theorem lwC_in : ∀ w ∈ lwC, w ∈ lw_tbl := tin_p _ [1009, 1010, 1011, 1012, 1013, 1014, 1015, 1016, 1017, 630, 798, 799, 800, 801, 802, 803, 804, 805, 806, 867] (by decide +kernel)
set_option maxRecDepth 40000 in
theorem lwD_in : ∀ w ∈ lwD, w ∈ lw_tbl := tin_p _ [941, 1113, 1492, 1382, 1400, 1458, 1317, 1134, 1476, 1399, 1247, 1145, 1316, 1193, 1252] (by decide +kernel)
set_option maxRecDepth 40000 in
theorem lwE_in : ∀ w ∈ lwE, w ∈ lwN := tin_p _ [518, 629, 965, 838, 887, 917, 808, 657, 949, 871, 740, 676, 783, 701, 757] (by decide +kernel)
set_option maxRecDepth 40000 in
theorem lwF_in : ∀ w ∈ lwF, w ∈ lw_tbl := tin_p _ [1069, 1154, 69, 249, 367, 380, 75, 347, 128, 150, 485, 597, 1261] (by decide +kernel)
set_option maxRecDepth 40000 in
theorem lwH_in : ∀ w ∈ lwH, w ∈ lw_tbl := tin_p _ [505, 494, 602, 604, 515, 517, 519, 521, 523, 526, 527, 529, 531, 533, 535, 537, 539, 513, 502, 504, 605, 611, 509, 498, 507, 512, 610, 496, 1266, 1268, 1270, 1273, 1275, 500, 601, 603, 614, 1265, 1274, 1267, 606, 609, 608, 1269, 612, 1272] (by decide +kernel)
theorem str_ne : ∀ i, i < 20 → ∀ j, j < 20 → stL i = stL j → (∀ k, k < stL i → (stB i).getD k 0 = (stB j).getD k 0) → i = j := by decide +kernel
theorem str_n : ∀ i, i < 20 → stL i < 100 := by decide +kernel
def stP (A : Nat → Prop) (s : State) (i : Nat) (q : Nat × Nat) : Prop := (stT i).eval #[] s none [] s = some (.ref q.1) ∧ va_O "java/lang/String" q.1 A s s.heap ∧ va_OF "java/lang/String" "coder" "B" (.int 0) q.1 A s s.heap ∧ va_OF "java/lang/String" "value" "[B" (.ref q.2) q.1 A s s.heap ∧ va_T .byte q.2 (stL i) (fun j => .int ((stB i).getD j 0)) A s s.heap
theorem stP_of {A : Nat → Prop} {s : State} {args : Array Value} (hn : ∀ w ∈ lwN, w.before args s = true) (hA : ∀ a : Nat, a < s.heap.size → ¬ A a) (i : Nat) (hi : i < 20) : ∃ q, stP A s i q := by
  have hm : ∀ w ∈ ([.exactly (stT i) "java/lang/String", .eq (.field (stT i) "java/lang/String" "coder" "B") (.int 0), .arrayOf (stV i) .byte, .eq (.length (stV i)) (.int (Int32.ofNat (stL i)))] ++ (List.range (stL i)).map (fun j => .eq (.elem (stV i) (.int (Int32.ofNat j))) (.int ((stB i).getD j 0))) : List Cond), w.before args s = true := fun w hw => hn _ (lwS_in _ (List.mem_flatMap.mpr ⟨i, List.mem_range.mpr hi, hw⟩))
  obtain ⟨aK, aV, hS, he⟩ := vk_Sof (args := args) (s := s) (N := 1) (tm := fun _ => stT i) (len := [stL i]) (byt := [stB i]) (A := A)
    (fun k hk => by
      have h0 : k = 0 := by omega
      subst h0
      have := str_n i hi
      show stL i < 2 ^ 31
      omega)
    (fun k hk => hm _ (by simp)) (fun k hk => hm _ (by simp)) (fun k hk => hm _ (List.mem_append_left _ (by simp [stV]))) (fun k hk => by
      have h0 : k = 0 := by omega
      subst h0
      exact hm _ (List.mem_append_left _ (by simp [stV])))
    (fun k hk j hj => by
      have h0 : k = 0 := by omega
      subst h0
      exact hm _ (List.mem_append_right _ (List.mem_map.mpr ⟨j, List.mem_range.mpr hj, rfl⟩)))
    (fun a b ha hb hab => by omega) hA
  exact ⟨(aK 0, aV 0), he 0 (by omega), hS.1 0 (by omega)⟩
theorem stP_ne {A : Nat → Prop} {s : State} {i j : Nat} {q r : Nat × Nat} (hi : i < 20) (hj : j < 20) (h1 : stP A s i q) (h2 : stP A s j r) (h : q.1 = r.1) : i = j := by
  obtain ⟨-, -, -, ⟨cf, k, fi, f, cell, a1, a2, a3, a4, a5, a6⟩, c1, b1, b2, b3, b4, b5, b6, b7⟩ := h1
  obtain ⟨-, -, -, ⟨cf', k', fi', f', cell', a1', a2', a3', a4', a5', a6'⟩, c1', b1', b2', b3', b4', b5', b6', b7'⟩ := h2
  rw [h] at a3
  have e1 : cell = cell' := Option.some.inj (a3.symm.trans a3')
  have e2 : (cf, k, fi, f) = (cf', k', fi', f') := Option.some.inj (a1.symm.trans a1')
  have e3 : f = f' := (Prod.mk.inj (Prod.mk.inj (Prod.mk.inj e2).2).2).2
  rw [e1, e3] at a5
  have e4 : q.2 = r.2 := by
    have := Option.some.inj (a5.symm.trans a5')
    injection this
  rw [e4] at b1
  have e5 : c1 = c1' := Option.some.inj (b1.symm.trans b1')
  rw [e5] at b5 b6
  have n1 := str_n i hi
  have n2 := str_n j hj
  have e6 : stL i = stL j := by
    have h3 := b5.symm.trans b5'
    rw [iI_nat, iI_nat] at h3
    have h4 := (iI_eq ⟨by omega, by omega⟩ ⟨by omega, by omega⟩).mp h3
    omega
  refine str_ne i hi j hj e6 (fun m hm => ?_)
  have h5 := (b6 m hm).symm.trans (b6' m (by omega))
  have h6 := Option.some.inj h5
  injection h6
theorem gS_start {s : State} {args : Array Value} (hts : ∀ w ∈ lw_tbl, w.before args s = true) (hn : ∀ w ∈ lwN, w.before args s = true) : ∃ aK aV : Nat → Nat, ∀ t : gP, t.2.2.2 = s.heap.size → (∀ i, i < 20 → t.2.2.1 (2000 + i) = aK i) → (∀ i, i < 20 → t.2.2.1 (3000 + i) = aV i) → gS t s s.heap := by
  have hA : ∀ a : Nat, a < s.heap.size → ¬ (fun q => s.heap.size ≤ q) a := fun a h => Nat.not_le.mpr h
  obtain ⟨f, hf⟩ := Classical.axiomOfChoice (r := fun (i : Nat) (q : Nat × Nat) => i < 20 → stP (fun q => s.heap.size ≤ q) s i q) (fun i => by
    by_cases hi : i < 20
    · obtain ⟨q, hq⟩ := stP_of hn hA i hi
      exact ⟨q, fun _ => hq⟩
    · exact ⟨(0, 0), fun h => absurd h hi⟩)
  refine ⟨fun i => (f i).1, fun i => (f i).2, fun t ht hK hV => ?_⟩
  have hg : gA t = fun q => s.heap.size ≤ q := by funext q; unfold gA; rw [ht]
  unfold gS
  rw [hg]
  refine ⟨fun q hq => ?_, fun q hq => ?_, ⟨?_, ?_⟩, ⟨fun i hi => ?_, fun i j hi hj h => ?_⟩, fun q hq => ?_, fun q hq => ?_, ?_, ?_, fun y hy => ?_, fun y hy => ?_, fun q hq => ?_, ?_, ?_, ?_, ?_⟩
  · exact va_Nw.of rfl (hts _ (lwF_in _ (List.mem_map.mpr ⟨q, hq, rfl⟩)))
  · have hb : ∀ w ∈ ([.laysStatic q.1 q.2.1 q.2.2.1, .initialized q.1] : List Cond), w.before args s = true := fun w hw => hts _ (lwB_in _ (List.mem_flatMap.mpr ⟨q, hq, hw⟩))
    have hm : ∀ w ∈ ([.arrayOf (.static q.1 q.2.1 q.2.2.1) q.2.2.2.1, .eq (.length (.static q.1 q.2.1 q.2.2.1)) (.int (Int32.ofNat q.2.2.2.2.length))] ++ (List.range q.2.2.2.2.length).map (fun j => .eq (.elem (.static q.1 q.2.1 q.2.2.1) (.int (Int32.ofNat j))) (.int (iI (q.2.2.2.2.getD j 0)))) : List Cond), w.before args s = true := fun w hw => hn _ (lwA_in _ (List.mem_flatMap.mpr ⟨q, hq, hw⟩))
    have hl : q.2.2.2.2.length < 2 ^ 31 := (by decide +kernel : ∀ q ∈ gSt, q.2.2.2.2.length < 2 ^ 31) q hq
    obtain ⟨a, h1, h2⟩ := va_Tof (args := args) (s := s) (tm := .static q.1 q.2.1 q.2.2.1) (ty := q.2.2.2.1) (N := q.2.2.2.2.length) (f := fun j => .int (iI (q.2.2.2.2.getD j 0))) (A := fun q => s.heap.size ≤ q) hl (hm _ (by simp)) (va_eqt (hm _ (by simp))) (fun j hj => va_eqt (hm _ (List.mem_append_right _ (List.mem_map.mpr ⟨j, List.mem_range.mpr hj, rfl⟩)))) hA
    exact ⟨a, va_Zref (hb _ (by simp)) (hb _ (by simp)) h1 hA, h2⟩
  · exact va_Zof (hts _ (List.mem_of_getElem? (i := 416) (by decide +kernel))) (hts (.initialized "java/lang/String") (List.mem_of_getElem? (i := 40) (by decide +kernel))) (va_eqt (hn (.eq (.static "java/lang/String" "COMPACT_STRINGS" "Z") (.int 1)) (List.mem_of_getElem? (i := 4) (by decide +kernel)))) hA
  · exact va_Zqof (hts _ (List.mem_of_getElem? (i := 695) (by decide +kernel))) (hts (.initialized "jdk/internal/util/Preconditions") (List.mem_of_getElem? (i := 48) (by decide +kernel))) (hn _ (List.mem_of_getElem? (i := 5) (by decide +kernel))) hA
  · have hi : i < 20 := hi
    have h := hf i hi
    dsimp only
    rw [hK i hi, hV i hi]
    exact h.2
  · dsimp only at h
    have hi : i < 20 := hi
    have hj : j < 20 := hj
    rw [hK i hi, hK j hj] at h
    exact stP_ne hi hj (hf i hi) (hf j hj) h
  · have h20 : q.2.2.1 < 20 := (by decide +kernel : ∀ q ∈ gRef, q.2.2.1 < 20) q hq
    rw [hK _ h20]
    refine vk_R.of (hts _ (lwC_in _ (List.mem_map.mpr ⟨q, hq, rfl⟩))) ?_
    have h2 : stT q.2.2.1 = .string q.1 q.2.1 := (by decide +kernel : ∀ q ∈ gRef, stT q.2.2.1 = .string q.1 q.2.1) q hq
    have h3 := (hf _ h20).1
    rw [h2] at h3
    exact h3
  · obtain ⟨a, _, _, _, h1, _⟩ := Cond.exactly_spec (args := args) (first := s) (o := none) (s := s) (idx := []) (t := .string RX9 q.1) (cls := "java/lang/String") (hn _ (lwE_in _ (List.mem_map.mpr ⟨q, hq, rfl⟩)))
    exact ⟨a, vk_R.of (hts _ (lwD_in _ (List.mem_map.mpr ⟨q, hq, rfl⟩))) h1⟩
  · exact vx_Zqof (hts _ (List.mem_of_getElem? (i := 927) (by decide +kernel))) (hts (.initialized "java/lang/Throwable") (List.mem_of_getElem? (i := 52) (by decide +kernel))) (hn _ (List.mem_of_getElem? (i := 215) (by decide +kernel))) hA
  · exact vx_Zqof (hts _ (List.mem_of_getElem? (i := 929) (by decide +kernel))) (hts (.initialized "java/lang/Throwable") (List.mem_of_getElem? (i := 52) (by decide +kernel))) (hn _ (List.mem_of_getElem? (i := 216) (by decide +kernel))) hA
  · exact va_Nw.of rfl (hts _ ((tin_p (gDe.map (fun y => Cond.declares (Bundle.initS y))) [904, 906, 908] (by decide +kernel)) _ (List.mem_map.mpr ⟨y, hy, rfl⟩)))
  · exact va_Nw.of rfl (hts _ ((tin_p (gCa.map (fun y => Cond.castable y y)) [1127, 902, 1186] (by decide +kernel)) _ (List.mem_map.mpr ⟨y, hy, rfl⟩)))
  · exact va_Nw.of rfl (hts _ (lwH_in _ (List.mem_map.mpr ⟨q, hq, rfl⟩)))
  · exact va_AO.of (hts (.arrayOver (.object "TriggerNetwork$Situation")) (List.mem_of_getElem? (i := 346) (by decide +kernel)))
  · exact va_AO.of (hts (.arrayOver (.object "TriggerNetworkLaw$Place")) (List.mem_of_getElem? (i := 490) (by decide +kernel)))
  · exact va_AO.of (hts (.arrayOver (.object "TriggerNetworkLaw$Pick")) (List.mem_of_getElem? (i := 492) (by decide +kernel)))
  · exact va_Nw.of rfl (hts (.castable "[B" "java/lang/Cloneable") (List.mem_of_getElem? (i := 669) (by decide +kernel)))
