/-! L, part b: what the statics and the strings hold at the law's start -/
def lwN : List Cond := flatC (Jvm.Cond.and given_1 narrow_1)
def stE : List Nat := [142, 157, 165, 167, 169, 171, 173, 152, 175, 286, 295, 297, 299, 301, 303, 305]
def stT (i : Nat) : Term := .string RX10 (stE.getD i 0)
def stV (i : Nat) : Term := .field (stT i) "java/lang/String" "value" "[B"
def stL (i : Nat) : Nat := (gStr.map List.length).getD i 0
def stB (i : Nat) : List Int32 := (gStr.map (fun l => l.map iI)).getD i []
def lwS : List Cond := (List.range 16).flatMap (fun i => [.exactly (stT i) "java/lang/String", .eq (.field (stT i) "java/lang/String" "coder" "B") (.int 0), .arrayOf (stV i) .byte, .eq (.length (stV i)) (.int (Int32.ofNat (stL i)))] ++ (List.range (stL i)).map (fun j => .eq (.elem (stV i) (.int (Int32.ofNat j))) (.int ((stB i).getD j 0))))
def lwA : List Cond := gSt.flatMap (fun q => [.arrayOf (.static q.1 q.2.1 q.2.2.1) q.2.2.2.1, .eq (.length (.static q.1 q.2.1 q.2.2.1)) (.int (Int32.ofNat q.2.2.2.2.length))] ++ (List.range q.2.2.2.2.length).map (fun j => .eq (.elem (.static q.1 q.2.1 q.2.2.1) (.int (Int32.ofNat j))) (.int (iI (q.2.2.2.2.getD j 0)))))
def lwB : List Cond := gSt.flatMap (fun q => [.laysStatic q.1 q.2.1 q.2.2.1, .initialized q.1])
def lwC : List Cond := gRef.map (fun q => .stringRef q.1 q.2.1 q.2.2.2)
def lwD : List Cond := gMsg.map (fun q => .stringRef RX9 q.1 q.2)
def lwE : List Cond := gMsg.map (fun q => .exactly (.string RX9 q.1) "java/lang/String")
def lwF : List Cond := gNw.map (fun q => .methodLinkNest q.1 q.2.1 q.2.2.1 q.2.2.2)
def lwG : List Cond := (gRef.filter (fun q => q.1 != RX10)).map (fun q => .eq (.string q.1 q.2.1) (stT q.2.2.1))
set_option maxRecDepth 40000 in
theorem lwS_in : ∀ w ∈ lwS, w ∈ lwN := tin_p _ [1069, 1070, 1071, 1072, 1073, 1074, 1075, 1076, 1077, 1078, 1079, 1090, 1091, 1092, 1093, 1094, 1095, 1096, 1097, 1099, 1100, 1101, 1102, 1103, 1104, 1105, 1106, 1107, 1109, 1110, 1111, 1112, 1113, 1114, 1115, 1116, 1117, 1118, 1119, 1121, 1122, 1123, 1124, 1125, 1126, 1127, 1128, 1129, 1130, 1131, 1133, 1134, 1135, 1136, 1137, 1138, 1139, 1140, 1141, 1143, 1144, 1145, 1146, 1147, 1148, 1149, 1150, 1151, 1081, 1082, 1083, 1084, 1085, 1086, 1087, 1088, 1153, 1154, 1155, 1156, 1157, 1158, 1159, 1160, 1161, 1163, 1164, 1165, 1166, 1167, 1168, 1169, 1170, 1171, 1172, 1174, 1175, 1176, 1177, 1178, 1179, 1180, 1181, 1182, 1183, 1184, 1185, 1186, 1187, 1189, 1190, 1191, 1192, 1193, 1194, 1195, 1196, 1198, 1199, 1200, 1201, 1202, 1203, 1204, 1205, 1206, 1207, 1208, 1209, 1210, 1211, 1212, 1214, 1215, 1216, 1217, 1218, 1219, 1220, 1221, 1222, 1223, 1225, 1226, 1227, 1228, 1229, 1230, 1231, 1232, 1233, 1234, 1235, 1236, 1237, 1238, 1239] (by decide +kernel)
set_option maxRecDepth 40000 in
theorem lwA_in : ∀ w ∈ lwA, w ∈ lwN := tin_p _ [24, 25, 26, 27, 28, 29, 30, 31, 32, 33, 34, 12, 13, 14, 15, 16, 17, 18, 19, 20, 21, 22, 36, 37, 38, 39, 40, 41, 42, 43, 44, 45, 46, 47, 48, 49, 50, 51, 52, 53, 54, 55, 56, 57, 58, 59, 60, 61, 62, 63, 64, 65, 66, 67, 68, 69, 70, 71, 72, 73, 74, 75, 76, 77, 78, 79, 80, 81, 82, 84, 85, 86, 87, 88, 89, 90, 91, 92, 93, 94, 95, 96, 97, 98, 99, 100, 101, 102, 103, 104, 105, 106, 107, 108, 109, 110, 111, 112, 113, 114, 115, 116, 117, 118, 119, 120, 121, 122, 123, 124, 125, 126, 127, 128, 129, 130, 132, 133, 134, 135, 136, 137, 138, 139, 140, 141, 142, 143, 144, 145, 146, 147, 148, 149, 150, 151, 152, 153, 154, 155, 156, 157, 158, 159, 160, 161, 162, 163, 164, 165, 166, 167, 168, 169, 170, 171, 172, 173, 174, 175, 176, 177, 178, 179, 180, 181, 182, 183, 184, 185, 186, 187, 188, 189, 190, 191, 192, 193, 194, 195, 196, 197, 198, 199, 200, 201, 202, 203, 204, 205, 206, 207, 208, 209, 210, 211, 212, 213, 214, 215, 216, 217, 218, 219, 220, 221, 222, 223, 224, 225, 226, 227, 228, 229, 230, 231, 232, 233, 235, 236, 237, 238, 239, 240, 241, 242, 243, 244, 245, 246, 247, 248, 249, 250, 251, 252, 253, 254, 255, 256, 257, 258, 259, 260, 261, 262, 263, 264, 265, 266, 267, 268, 269, 270, 271, 272, 273, 274, 275, 276, 277, 278, 279, 280, 281, 282, 283, 284, 285, 286, 287, 288, 289, 290, 291, 292, 293, 294, 295, 296, 297, 298, 299, 300, 301, 302, 303, 304, 305, 306, 307, 308, 309, 310, 311, 312, 313, 314, 315, 316, 317, 318, 319, 320, 321, 322, 323, 324, 325, 326, 327, 328, 329, 330, 331, 332, 333, 334, 335, 336] (by decide +kernel)
set_option maxRecDepth 40000 in
theorem lwB_in : ∀ w ∈ lwB, w ∈ lw_tbl := tin_p _ [846, 82, 844, 82, 864, 82, 870, 82, 1254, 110, 1256, 110] (by decide +kernel)
set_option maxRecDepth 40000 in
theorem lwC_in : ∀ w ∈ lwC, w ∈ lw_tbl := tin_p _ [1370, 1373, 1378, 1394, 1395, 1396, 801, 802, 803, 804, 805, 806, 807, 808, 809, 1648, 1675, 1680, 1689, 1690, 1691, 1692, 1693, 1694, 1857, 1866, 1867, 1868, 1869, 1870, 1871] (by decide +kernel)
set_option maxRecDepth 40000 in
theorem lwD_in : ∀ w ∈ lwD, w ∈ lw_tbl := tin_p _ [733, 935, 993, 1006, 1019, 1081, 1458, 1504, 957, 976, 1018, 1039, 1492, 1408, 1413, 1429, 1114] (by decide +kernel)
set_option maxRecDepth 40000 in
theorem lwE_in : ∀ w ∈ lwE, w ∈ lwN := tin_p _ [386, 497, 560, 589, 638, 685, 1002, 1048, 525, 544, 622, 668, 1032, 913, 938, 963, 717] (by decide +kernel)
set_option maxRecDepth 40000 in
theorem lwF_in : ∀ w ∈ lwF, w ∈ lw_tbl := tin_p _ [888, 606, 122, 304, 423, 436, 128, 402, 181, 203] (by decide +kernel)
set_option maxRecDepth 40000 in
theorem lwG_in : ∀ w ∈ lwG, w ∈ lwN := tin_p _ [1173, 1188, 1197, 1213, 1224, 1240, 1080, 1098, 1108, 1120, 1132, 1142, 1152, 1089, 1162] (by decide +kernel)
theorem va_eqr {args : Array Value} {s : State} {t u : Term} {a : Nat} (h : (Cond.eq t u).before args s = true) (hu : u.eval args s none [] s = some (.ref a)) : t.eval args s none [] s = some (.ref a) := by
  cases hv : t.eval args s none [] s with
  | none => simp [Cond.before, Cond.holds, Cond.value, hv] at h
  | some w =>
    simp only [Cond.before, Cond.holds, Cond.value, hv, hu] at h
    cases w <;> simp_all
theorem str_ne : ∀ i, i < 16 → ∀ j, j < 16 → stL i = stL j → (∀ k, k < stL i → (stB i).getD k 0 = (stB j).getD k 0) → i = j := by decide +kernel
theorem str_n : ∀ i, i < 16 → stL i < 100 := by decide +kernel
def stP (A : Nat → Prop) (s : State) (i : Nat) (q : Nat × Nat) : Prop := (stT i).eval #[] s none [] s = some (.ref q.1) ∧ va_O "java/lang/String" q.1 A s s.heap ∧ va_OF "java/lang/String" "coder" "B" (.int 0) q.1 A s s.heap ∧ va_OF "java/lang/String" "value" "[B" (.ref q.2) q.1 A s s.heap ∧ va_T .byte q.2 (stL i) (fun j => .int ((stB i).getD j 0)) A s s.heap
theorem stP_of {A : Nat → Prop} {s : State} {args : Array Value} (hn : ∀ w ∈ lwN, w.before args s = true) (hA : ∀ a : Nat, a < s.heap.size → ¬ A a) (i : Nat) (hi : i < 16) : ∃ q, stP A s i q := by
  have hm : ∀ w ∈ ([.exactly (stT i) "java/lang/String", .eq (.field (stT i) "java/lang/String" "coder" "B") (.int 0), .arrayOf (stV i) .byte, .eq (.length (stV i)) (.int (Int32.ofNat (stL i)))] ++ (List.range (stL i)).map (fun j => .eq (.elem (stV i) (.int (Int32.ofNat j))) (.int ((stB i).getD j 0))) : List Cond), w.before args s = true := fun w hw => hn _ (lwS_in _ (List.mem_flatMap.mpr ⟨i, List.mem_range.mpr hi, hw⟩))
  obtain ⟨aK, aV, hS, he⟩ := vk_Sof (args := args) (s := s) (N := 1) (tm := fun _ => stT i) (len := [stL i]) (byt := [stB i]) (A := A)
    (fun k hk => by
      have h0 : k = 0 := by omega
      subst h0
      have := str_n i hi
      show stL i < 2 ^ 31
      omega)
    (fun k hk => hm _ (by simp)) (fun k hk => hm _ (by simp)) (fun k hk => hm _ (List.mem_append_left _ (by simp [stV]))) (fun k hk => by
      have h0 : k = 0 := by omega
      subst h0
      exact hm _ (List.mem_append_left _ (by simp [stV])))
    (fun k hk j hj => by
      have h0 : k = 0 := by omega
      subst h0
      exact hm _ (List.mem_append_right _ (List.mem_map.mpr ⟨j, List.mem_range.mpr hj, rfl⟩)))
    (fun a b ha hb hab => by omega) hA
  exact ⟨(aK 0, aV 0), he 0 (by omega), hS.1 0 (by omega)⟩
theorem stP_ne {A : Nat → Prop} {s : State} {i j : Nat} {q r : Nat × Nat} (hi : i < 16) (hj : j < 16) (h1 : stP A s i q) (h2 : stP A s j r) (h : q.1 = r.1) : i = j := by
  obtain ⟨-, -, -, ⟨cf, k, fi, f, cell, a1, a2, a3, a4, a5, a6⟩, c1, b1, b2, b3, b4, b5, b6, b7⟩ := h1
  obtain ⟨-, -, -, ⟨cf', k', fi', f', cell', a1', a2', a3', a4', a5', a6'⟩, c1', b1', b2', b3', b4', b5', b6', b7'⟩ := h2
  rw [h] at a3
  have e1 : cell = cell' := Option.some.inj (a3.symm.trans a3')
  have e2 : (cf, k, fi, f) = (cf', k', fi', f') := Option.some.inj (a1.symm.trans a1')
  have e3 : f = f' := (Prod.mk.inj (Prod.mk.inj (Prod.mk.inj e2).2).2).2
  rw [e1, e3] at a5
  have e4 : q.2 = r.2 := by
    have := Option.some.inj (a5.symm.trans a5')
    injection this
  rw [e4] at b1
  have e5 : c1 = c1' := Option.some.inj (b1.symm.trans b1')
  rw [e5] at b5 b6
  have n1 := str_n i hi
  have n2 := str_n j hj
  have e6 : stL i = stL j := by
    have h3 := b5.symm.trans b5'
    rw [iI_nat, iI_nat] at h3
    have h4 := (iI_eq ⟨by omega, by omega⟩ ⟨by omega, by omega⟩).mp h3
    omega
  refine str_ne i hi j hj e6 (fun m hm => ?_)
  have h5 := (b6 m hm).symm.trans (b6' m (by omega))
  have h6 := Option.some.inj h5
  injection h6
theorem gS_start {s : State} {args : Array Value} (hts : ∀ w ∈ lw_tbl, w.before args s = true) (hn : ∀ w ∈ lwN, w.before args s = true) : ∃ aK aV : Nat → Nat, ∀ t : gP, t.2.2.2 = s.heap.size → (∀ i, i < 16 → t.2.2.1 (2000 + i) = aK i) → (∀ i, i < 16 → t.2.2.1 (3000 + i) = aV i) → gS t s s.heap := by
  have hA : ∀ a : Nat, a < s.heap.size → ¬ (fun q => s.heap.size ≤ q) a := fun a h => Nat.not_le.mpr h
  obtain ⟨f, hf⟩ := Classical.axiomOfChoice (r := fun (i : Nat) (q : Nat × Nat) => i < 16 → stP (fun q => s.heap.size ≤ q) s i q) (fun i => by
    by_cases hi : i < 16
    · obtain ⟨q, hq⟩ := stP_of hn hA i hi
      exact ⟨q, fun _ => hq⟩
    · exact ⟨(0, 0), fun h => absurd h hi⟩)
  refine ⟨fun i => (f i).1, fun i => (f i).2, fun t ht hK hV => ?_⟩
  have hg : gA t = fun q => s.heap.size ≤ q := by funext q; unfold gA; rw [ht]
  unfold gS
  rw [hg]
  refine ⟨fun q hq => ?_, fun q hq => ?_, ⟨?_, ?_⟩, ⟨fun i hi => ?_, fun i j hi hj h => ?_⟩, fun q hq => ?_, fun q hq => ?_, ?_, ?_, fun y hy => ?_, fun y hy => ?_⟩
  · exact va_Nw.of rfl (hts _ (lwF_in _ (List.mem_map.mpr ⟨q, hq, rfl⟩)))
  · have hb : ∀ w ∈ ([.laysStatic q.1 q.2.1 q.2.2.1, .initialized q.1] : List Cond), w.before args s = true := fun w hw => hts _ (lwB_in _ (List.mem_flatMap.mpr ⟨q, hq, hw⟩))
    have hm : ∀ w ∈ ([.arrayOf (.static q.1 q.2.1 q.2.2.1) q.2.2.2.1, .eq (.length (.static q.1 q.2.1 q.2.2.1)) (.int (Int32.ofNat q.2.2.2.2.length))] ++ (List.range q.2.2.2.2.length).map (fun j => .eq (.elem (.static q.1 q.2.1 q.2.2.1) (.int (Int32.ofNat j))) (.int (iI (q.2.2.2.2.getD j 0)))) : List Cond), w.before args s = true := fun w hw => hn _ (lwA_in _ (List.mem_flatMap.mpr ⟨q, hq, hw⟩))
    have hl : q.2.2.2.2.length < 2 ^ 31 := (by decide +kernel : ∀ q ∈ gSt, q.2.2.2.2.length < 2 ^ 31) q hq
    obtain ⟨a, h1, h2⟩ := va_Tof (args := args) (s := s) (tm := .static q.1 q.2.1 q.2.2.1) (ty := q.2.2.2.1) (N := q.2.2.2.2.length) (f := fun j => .int (iI (q.2.2.2.2.getD j 0))) (A := fun q => s.heap.size ≤ q) hl (hm _ (by simp)) (va_eqt (hm _ (by simp))) (fun j hj => va_eqt (hm _ (List.mem_append_right _ (List.mem_map.mpr ⟨j, List.mem_range.mpr hj, rfl⟩)))) hA
    exact ⟨a, va_Zref (hb _ (by simp)) (hb _ (by simp)) h1 hA, h2⟩
  · exact va_Zof (hts _ (List.mem_of_getElem? (i := 473) (by decide +kernel))) (hts (.initialized "java/lang/String") (List.mem_of_getElem? (i := 93) (by decide +kernel))) (va_eqt (hn (.eq (.static "java/lang/String" "COMPACT_STRINGS" "Z") (.int 1)) (List.mem_of_getElem? (i := 4) (by decide +kernel)))) hA
  · exact va_Zqof (hts _ (List.mem_of_getElem? (i := 582) (by decide +kernel))) (hts (.initialized "jdk/internal/util/Preconditions") (List.mem_of_getElem? (i := 102) (by decide +kernel))) (hn _ (List.mem_of_getElem? (i := 5) (by decide +kernel))) hA
  · have hi : i < 16 := hi
    have h := hf i hi
    dsimp only
    rw [hK i hi, hV i hi]
    exact h.2
  · dsimp only at h
    have hi : i < 16 := hi
    have hj : j < 16 := hj
    rw [hK i hi, hK j hj] at h
    exact stP_ne hi hj (hf i hi) (hf j hj) h
  · have h16 : q.2.2.1 < 16 := (by decide +kernel : ∀ q ∈ gRef, q.2.2.1 < 16) q hq
    rw [hK _ h16]
    refine vk_R.of (hts _ (lwC_in _ (List.mem_map.mpr ⟨q, hq, rfl⟩))) ?_
    by_cases h : q.1 = RX10
    · have h2 : q.2.1 = stE.getD q.2.2.1 0 := (by decide +kernel : ∀ q ∈ gRef, q.1 = RX10 → q.2.1 = stE.getD q.2.2.1 0) q hq h
      have h3 := (hf _ h16).1
      rw [h, h2]
      exact h3
    · exact va_eqr (hn _ (lwG_in _ (List.mem_map.mpr ⟨q, List.mem_filter.mpr ⟨hq, by simp [h]⟩, rfl⟩))) (hf _ h16).1
  · obtain ⟨a, _, _, _, h1, _⟩ := Cond.exactly_spec (args := args) (first := s) (o := none) (s := s) (idx := []) (t := .string RX9 q.1) (cls := "java/lang/String") (hn _ (lwE_in _ (List.mem_map.mpr ⟨q, hq, rfl⟩)))
    exact ⟨a, vk_R.of (hts _ (lwD_in _ (List.mem_map.mpr ⟨q, hq, rfl⟩))) h1⟩
  · exact vx_Zqof (hts _ (List.mem_of_getElem? (i := 717) (by decide +kernel))) (hts (.initialized "java/lang/Throwable") (List.mem_of_getElem? (i := 96) (by decide +kernel))) (hn _ (List.mem_of_getElem? (i := 9) (by decide +kernel))) hA
  · exact vx_Zqof (hts _ (List.mem_of_getElem? (i := 719) (by decide +kernel))) (hts (.initialized "java/lang/Throwable") (List.mem_of_getElem? (i := 96) (by decide +kernel))) (hn _ (List.mem_of_getElem? (i := 10) (by decide +kernel))) hA
  · exact va_Nw.of rfl (hts _ ((tin_p (gDe.map (fun y => Cond.declares (Bundle.initS y))) [694, 696, 698] (by decide +kernel)) _ (List.mem_map.mpr ⟨y, hy, rfl⟩)))
  · exact va_Nw.of rfl (hts _ ((tin_p (gCa.map (fun y => Cond.castable y y)) [950, 692, 1107] (by decide +kernel)) _ (List.mem_map.mpr ⟨y, hy, rfl⟩)))
theorem gN_start {s : State} {args : Array Value} (hts : ∀ w ∈ lw_tbl, w.before args s = true) (hn : ∀ w ∈ lwN, w.before args s = true) : gN s := by
  refine ⟨fun q hq => ?_, fun w hw => va_Nw.of (gLk_t w hw) (hts _ (tin_p gLk [939, 685, 1096] (by decide +kernel) _ hw))⟩
  exact va_Nc.of (hn _ (tin_p (gNc.map (fun q => Cond.not (.castable q.1 q.2))) [366, 367, 350] (by decide +kernel) _ (List.mem_map.mpr ⟨q, hq, rfl⟩)))
