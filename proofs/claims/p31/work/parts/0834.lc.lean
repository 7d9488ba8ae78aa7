/-! L, part c: the classes at the law's start -/
theorem vK_start {s : State} {args : Array Value} (hts : ∀ w ∈ lw_tbl, w.before args s = true) : ∃ (D : va_G) (cls : Nat → ClassId), ∀ t : gP, t.1 = D → t.2.1 = cls → va_K t.1 vwCl (gT t) s := by
  obtain ⟨c0, i0, h0⟩ := u_known (C := RJ0) (T := TJ0) (N := 4) (n := 4) (lw_bigs hts) wsJ00_in (hts (.instantiable RJ0 4) (List.mem_of_getElem? (i := 812) (by decide +kernel)))
  obtain ⟨c1, i1, h1⟩ := u_known (C := RJ4) (T := TJ4) (N := 4) (n := 4) (lw_bigs hts) wsJ40_in (hts (.instantiable RJ4 4) (List.mem_of_getElem? (i := 407) (by decide +kernel)))
  obtain ⟨c2, i2, h2⟩ := u_known (C := RJ0) (T := TJ0) (N := 4) (n := 4) (lw_bigs hts) wsJ00_in (hts (.instantiable RJ0 4) (List.mem_of_getElem? (i := 812) (by decide +kernel)))
  obtain ⟨c3, i3, h3⟩ := u_known (C := RJ4) (T := TJ4) (N := 4) (n := 4) (lw_bigs hts) wsJ40_in (hts (.instantiable RJ4 4) (List.mem_of_getElem? (i := 407) (by decide +kernel)))
  obtain ⟨c4, i4, h4⟩ := u_known (C := RX0) (T := TX0) (N := 2) (n := 2) (lw_bigs hts) wsX00_in (hts (.instantiable RX0 2) (List.mem_of_getElem? (i := 366) (by decide +kernel)))
  obtain ⟨c5, i5, h5⟩ := u_known (C := RX1) (T := TX1) (N := 6) (n := 6) (lw_bigs hts) wsX10_in (hts (.instantiable RX1 6) (List.mem_of_getElem? (i := 68) (by decide +kernel)))
  obtain ⟨c6, i6, h6⟩ := u_known (C := RX2) (T := TX2) (N := 5) (n := 5) (lw_bigs hts) wsX20_in (hts (.instantiable RX2 5) (List.mem_of_getElem? (i := 127) (by decide +kernel)))
  obtain ⟨c7, i7, h7⟩ := u_known (C := RX3) (T := TX3) (N := 6) (n := 6) (lw_bigs hts) wsX30_in (hts (.instantiable RX3 6) (List.mem_of_getElem? (i := 379) (by decide +kernel)))
  obtain ⟨c8, i8, h8⟩ := u_known (C := RX4) (T := TX4) (N := 5) (n := 5) (lw_bigs hts) wsX40_in (hts (.instantiable RX4 5) (List.mem_of_getElem? (i := 340) (by decide +kernel)))
  obtain ⟨c9, i9, h9⟩ := u_known (C := RX5) (T := TX5) (N := 15) (n := 15) (lw_bigs hts) wsX50_in (hts (.instantiable RX5 15) (List.mem_of_getElem? (i := 121) (by decide +kernel)))
  obtain ⟨c10, i10, h10⟩ := u_known (C := RX6) (T := TX6) (N := 3) (n := 3) (lw_bigs hts) wsX60_in (hts (.instantiable RX6 3) (List.mem_of_getElem? (i := 149) (by decide +kernel)))
  obtain ⟨c11, i11, h11⟩ := u_known (C := RX7) (T := TX7) (N := 17) (n := 17) (lw_bigs hts) wsX70_in (hts (.instantiable RX7 17) (List.mem_of_getElem? (i := 248) (by decide +kernel)))
  obtain ⟨c12, i12, h12⟩ := u_known (C := RX8) (T := TX8) (N := 5) (n := 5) (lw_bigs hts) wsX80_in (hts (.instantiable RX8 5) (List.mem_of_getElem? (i := 74) (by decide +kernel)))
  obtain ⟨c13, i13, h13⟩ := u_known (C := RX9) (T := TX9) (N := 12) (n := 12) (lw_bigs hts) wsX90_in (hts (.instantiable RX9 12) (List.mem_of_getElem? (i := 60) (by decide +kernel)))
  obtain ⟨c14, i14, h14⟩ := u_known (C := RX10) (T := TX10) (N := 24) (n := 24) (lw_bigs hts) wsX100_in (hts (.instantiable RX10 24) (List.mem_of_getElem? (i := 484) (by decide +kernel)))
  obtain ⟨c15, i15, h15⟩ := u_known (C := RX11) (T := TX11) (N := 5) (n := 5) (lw_bigs hts) wsX110_in (hts (.instantiable RX11 5) (List.mem_of_getElem? (i := 1260) (by decide +kernel)))
  obtain ⟨c16, i16, h16⟩ := u_known (C := RX12) (T := TX12) (N := 7) (n := 7) (lw_bigs hts) wsX120_in (hts (.instantiable RX12 7) (List.mem_of_getElem? (i := 596) (by decide +kernel)))
  obtain ⟨aI, kI, pI, fI, gI, eI⟩ := Cond.arrayClass_spec (hts (.arrayClass .int) (List.mem_of_getElem? (i := 99) (by decide +kernel)))
  obtain ⟨aZ, kZ, pZ, fZ, gZ, eZ⟩ := Cond.arrayClass_spec (hts (.arrayClass .boolean) (List.mem_of_getElem? (i := 364) (by decide +kernel)))
  obtain ⟨aB, kB, pB, fB, gB, eB⟩ := Cond.arrayClass_spec (hts (.arrayClass .byte) (List.mem_of_getElem? (i := 437) (by decide +kernel)))
  obtain ⟨pS, aS, kS, fS, -, gS, eS, nS⟩ := Cond.arrayOver_spec (hts (.arrayOver (.object "TriggerNetwork$Situation")) (List.mem_of_getElem? (i := 346) (by decide +kernel)))
  obtain ⟨pY, aY, kY, fY, -, gY, eY, nY⟩ := Cond.arrayOver_spec (hts (.arrayOver (.object "TriggerNetworkLaw$Place")) (List.mem_of_getElem? (i := 490) (by decide +kernel)))
  obtain ⟨pK, aK, kK, fK, -, gK, eK, nK⟩ := Cond.arrayOver_spec (hts (.arrayOver (.object "TriggerNetworkLaw$Pick")) (List.mem_of_getElem? (i := 492) (by decide +kernel)))
  refine ⟨(fun k => [c0, c1, c2, c3, c4, c5, c6, c7, c8, c9, c10, c11, c12, c13, c14, c15, c16].getD k 0, fun k => [i0, i1, i2, i3, i4, i5, i6, i7, i8, i9, i10, i11, i12, i13, i14, i15, i16].getD k (fun _ => 0)), fun k => if k = 100 then aI else if k = 101 then aZ else if k = 102 then aB else if k = 104 then aS else if k = 106 then aY else aK, fun t x1 x2 => ?_⟩
  unfold gT
  rw [x1, x2]
  refine ⟨fun k q hq => ?_, fun k q hq => ?_⟩
  · match k, hq with
    | 0, hq => cases hq; exact h0
    | 1, hq => cases hq; exact h1
    | 2, hq => cases hq; exact h2
    | 3, hq => cases hq; exact h3
    | 4, hq => cases hq; exact h4
    | 5, hq => cases hq; exact h5
    | 6, hq => cases hq; exact h6
    | 7, hq => cases hq; exact h7
    | 8, hq => cases hq; exact h8
    | 9, hq => cases hq; exact h9
    | 10, hq => cases hq; exact h10
    | 11, hq => cases hq; exact h11
    | 12, hq => cases hq; exact h12
    | 13, hq => cases hq; exact h13
    | 14, hq => cases hq; exact h14
    | 15, hq => cases hq; exact h15
    | 16, hq => cases hq; exact h16
    | k + 17, hq => simp [vwCl] at hq
  · match k, hq with
    | 0, hq => cases hq; exact ⟨fun n z => ⟨fun k h => (by cases h), kI, gI, pI, eI⟩, fI⟩
    | 1, hq => cases hq; exact ⟨fun n z => ⟨fun k h => (by cases h), kZ, gZ, pZ, eZ⟩, fZ⟩
    | 2, hq => cases hq; exact ⟨fun n z => ⟨fun k h => (by cases h), kB, gB, pB, eB⟩, fB⟩
    | 3, hq => cases hq; exact ⟨fun n z => ⟨fun k h => (by cases h), kI, gI, pI, eI⟩, fI⟩
    | 4, hq => cases hq; exact ⟨fun n z => ⟨fun k h => (by cases h), kS, gS, pS, eS⟩, kS, pS, gS, eS, fS, nS⟩
    | 5, hq => cases hq; exact ⟨fun n z => ⟨fun k h => (by cases h), kY, gY, pY, eY⟩, kY, pY, gY, eY, fY, nY⟩
    | 6, hq => cases hq; exact ⟨fun n z => ⟨fun k h => (by cases h), kK, gK, pK, eK⟩, kK, pK, gK, eK, fK, nK⟩
    | k + 7, hq => simp at hq
theorem va_AO_start {s : State} {args : Array Value} (hts : ∀ w ∈ lw_tbl, w.before args s = true) : va_AO "TriggerNetwork$Situation" s := va_AO.of (hts (.arrayOver (.object "TriggerNetwork$Situation")) (List.mem_of_getElem? (i := 346) (by decide +kernel)))
