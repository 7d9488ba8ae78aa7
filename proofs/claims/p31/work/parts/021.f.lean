/-! the functions of all methods, written by program out of their instructions -/
/-! the functions of all methods, written by program out of their instructions -/
def f_J0_coder_7d493 (k0 : Nat) (u : uS) : Option (Int × uS) := xgd (2000 ≤ k0 ∧ k0 < 2020) <| some (0, u)
def f_J0_length_8abf5 (k0 : Nat) (u : uS) : Option (Int × uS) := xgd (2000 ≤ k0 ∧ k0 < 2020) <| some (((strL k0).length : Int), u)
def f_J0_isLatin1_aae02 (k0 : Nat) (u : uS) : Option (Int × uS) := xgd (2000 ≤ k0 ∧ k0 < 2020) <| some (1, u)
def f_J0_charAt_5068e (k0 : Nat) (x1 : Int) (u : uS) : Option (Int × uS) := xgd (2000 ≤ k0 ∧ k0 < 2020) <| xgd (0 ≤ x1 ∧ x1 < ((strL k0).length : Int)) <| some ((strL k0).getD x1.toNat 0, u)
def f_J5_ensureCapacityInternal_d00df (x1 : Int) (u : uS) : Option (Int × uS) :=
  xgd (sbOk u ∧ u 37 1 = 0 ∧ (u 0 4).toNat ≠ 38 ∧ (u 0 5).toNat ≠ 38 ∧ 0 ≤ x1 ∧ x1 ≤ 600) <|
  if x1 ≤ u 1000 1 then some (0, u) else xgd (2 * u 1000 1 + 2 ≤ 600) <| some (0, grown u (maxI x1 (2 * u 1000 1 + 2)))
def f_X5_ratioOf (k0 : Nat) (x1 : Int) (x2 : Int) (u : uS) : Option (Int × uS) :=
  xgd (k0 < NN ∧ sT k0 = 9) <|
  xgd (InR x2) <|
  xgd (InR (u k0 3)) <|
  xlet ((x2 * u k0 3)) fun y3_4 =>
  xgd (InL y3_4) <|
  if cmpL y3_4 0 = 0 then
    some (0, u)
  else
    xgd (InR x1) <|
    xgd (InR (u k0 4)) <|
    xgd (InL ((x1 * u k0 4) * 100) ∧ InL y3_4 ∧ y3_4 ≠ 0) <|
    some ((Int.tdiv ((x1 * u k0 4) * 100) y3_4), u)
def f_X5_travelOfStations (k0 : Nat) (x1 : Int) (x2 : Int) (u : uS) : Option (Int × uS) :=
  xgd (k0 < NN ∧ sT k0 = 9) <|
  xlet (((x1 * 8) + x2)) fun x3_2 =>
  xgd (InR x3_2) <|
  if x3_2 < 0 then
    some (0, u)
  else
    xgd (InR x3_2) <|
    if 64 ≤ x3_2 then
      some (0, u)
    else
      xgd ((0 ≤ x3_2 ∧ x3_2 < 64)) <|
      some (u (k0 + 7) x3_2, u)
def f_X2_place (k0 : Nat) (x1 : Int) (x2 : Int) (x3 : Int) (x4 : Int) (x5 : Int) (u : uS) : Option (Int × uS) :=
  xgd (k0 < NN ∧ sT k0 = 6) <|
  xlet (up u k0 0 x1) fun u2 =>
  xlet (up u2 k0 1 x2) fun u3 =>
  xlet (up u3 k0 2 x3) fun u4 =>
  xlet (up u4 k0 3 x4) fun u5 =>
  xlet (up u5 k0 4 x5) fun u6 =>
  some (0, u6)
def f_X5_putStation (k0 : Nat) (x1 : Int) (x2 : Int) (u : uS) : Option (Int × uS) :=
  xgd (k0 < NN ∧ sT k0 = 9) <|
  xgd (InR (u k0 10)) <|
  if 8 ≤ u k0 10 then
    some (0, u)
  else
    xgd ((0 ≤ u k0 10 ∧ u k0 10 < 8)) <|
    xlet (up u (k0 + 5) (u k0 10) x1) fun u5 =>
    xgd ((0 ≤ u5 k0 10 ∧ u5 k0 10 < 8)) <|
    xlet (up u5 (k0 + 6) (u5 k0 10) x2) fun u7 =>
    xlet (up u7 k0 10 (u7 k0 10 + 1)) fun u8 =>
    some (0, u8)
def f_X6_put (k0 : Nat) (x1 : Int) (x2 : Int) (u : uS) : Option (Int × uS) :=
  xgd (k0 < NN ∧ sT k0 = 10) <|
  xgd (InR (u k0 0)) <|
  if 8 ≤ u k0 0 then
    some (0, u)
  else
    xgd ((0 ≤ u k0 0 ∧ u k0 0 < 8)) <|
    xlet (up u (k0 + 1) (u k0 0) x1) fun u5 =>
    xgd ((0 ≤ u5 k0 0 ∧ u5 k0 0 < 8)) <|
    xlet (up u5 (k0 + 2) (u5 k0 0) x2) fun u7 =>
    xlet (up u7 k0 0 (u7 k0 0 + 1)) fun u8 =>
    some (0, u8)
def f_X6_lowestNextAmplitude (k0 : Nat) (u : uS) : Option (Int × uS) :=
  xgd (k0 < NN ∧ sT k0 = 10) <|
  xgd (InR (u k0 0)) <|
  if u k0 0 ≤ 0 then
    some (0, u)
  else
    xgd (InR (u k0 0)) <|
    if 8 < u k0 0 then
      some (0, u)
    else
      xgd ((0 ≤ (u k0 0 - 1) ∧ (u k0 0 - 1) < 8)) <|
      some ((u (k0 + 1) (u k0 0 - 1) + 1), u)
def f_X6_lowestNextMagnitude (k0 : Nat) (u : uS) : Option (Int × uS) :=
  xgd (k0 < NN ∧ sT k0 = 10) <|
  xgd (InR (u k0 0)) <|
  if u k0 0 ≤ 0 then
    some (0, u)
  else
    xgd (InR (u k0 0)) <|
    if 8 < u k0 0 then
      some (0, u)
    else
      xgd ((0 ≤ (u k0 0 - 1) ∧ (u k0 0 - 1) < 8)) <|
      some (u (k0 + 2) (u k0 0 - 1), u)
def f_X2_nodeCount (k0 : Nat) (u : uS) : Option (Int × uS) :=
  xgd (k0 < NN ∧ sT k0 = 6) <|
  some ((u k0 2 * u k0 3), u)
def f_X2_nodeX (k0 : Nat) (x1 : Int) (u : uS) : Option (Int × uS) :=
  xgd (k0 < NN ∧ sT k0 = 6) <|
  xgd (InR (u k0 2)) <|
  xlet (fun (s4 : Int) (u5 : uS) =>
      some ((u k0 0 + (s4 * u5 k0 4)), u5)
      ) fun j3 =>
  if u k0 2 = 0 then
    j3 0 u
  else
    xgd (InR x1 ∧ InR (u k0 2) ∧ u k0 2 ≠ 0) <|
    j3 (Int.tmod x1 (u k0 2)) u
def f_X2_nodeY (k0 : Nat) (x1 : Int) (u : uS) : Option (Int × uS) :=
  xgd (k0 < NN ∧ sT k0 = 6) <|
  xgd (InR (u k0 2)) <|
  xlet (fun (s4 : Int) (u5 : uS) =>
      some ((u k0 1 + (s4 * u5 k0 4)), u5)
      ) fun j3 =>
  if u k0 2 = 0 then
    j3 0 u
  else
    xgd (InR x1 ∧ InR (u k0 2) ∧ u k0 2 ≠ 0) <|
    j3 (Int.tdiv x1 (u k0 2)) u
def f_X5_travelOver (k0 : Nat) (x1 : Int) (u : uS) : Option (Int × uS) :=
  xgd (k0 < NN ∧ sT k0 = 9) <|
  xgd (InR (u k0 2)) <|
  if u k0 2 = 0 then
    some (0, u)
  else
    xgd (InR (x1 * 10) ∧ InR (u k0 2) ∧ u k0 2 ≠ 0) <|
    some ((Int.tdiv (x1 * 10) (u k0 2)), u)
def s_X9_root_5 (x0 : Int) (go1 : Int → Int → uS → Option (Int × uS)) (x1_2 : Int) (x2_3 : Int) (u4 : uS) : Option (Int × uS) :=
  xgd (InR x2_3) <|
  if x2_3 < 0 then
    some (x1_2, u4)
  else
    xgd (0 ≤ x2_3 ∧ x2_3 < 32) <|
    xlet ((x1_2 + (shlI 1 x2_3))) fun x3_8 =>
    xgd (InR (x3_8 * x3_8) ∧ InR x0) <|
    if x0 < (x3_8 * x3_8) then
      go1 x1_2 (x2_3 + (-1)) u4
    else
      go1 x3_8 (x2_3 + (-1)) u4
def f_X9_root (x0 : Int) (u : uS) : Option (Int × uS) :=
  xl3 (s_X9_root_5 x0) FU 0 11 u
def f_X9_distance (x0 : Int) (x1 : Int) (u : uS) : Option (Int × uS) :=
  xbd (f_X9_root ((x0 * x0) + (x1 * x1)) u) fun v1 u2 =>
  some (v1, u2)
def s_X5_measure_84 (k0 : Nat) (go2 : Int → uS → Option (Int × uS)) (x1_3 : Int) (go11 : Int → uS → Option (Int × uS)) (x2_12 : Int) (u13 : uS) : Option (Int × uS) :=
  xbd (f_X2_nodeCount (k0 + 1) u13) fun v14 u15 =>
  xgd (InR x2_12 ∧ InR v14) <|
  if v14 ≤ x2_12 then
    go2 (x1_3 + 1) u15
  else
    xgd (InR x2_12) <|
    if 144 ≤ x2_12 then
      go2 (x1_3 + 1) u15
    else
      xbd (f_X2_nodeX (k0 + 1) x2_12 u15) fun v20 u21 =>
      xgd ((0 ≤ x1_3 ∧ x1_3 < 8)) <|
      xbd (f_X2_nodeY (k0 + 1) x2_12 u21) fun v23 u24 =>
      xgd ((0 ≤ x1_3 ∧ x1_3 < 8)) <|
      xbd (f_X9_distance (v20 - u21 (k0 + 5) x1_3) (v23 - u24 (k0 + 6) x1_3) u24) fun v26 u27 =>
      xgd ((0 ≤ ((x2_12 * 8) + x1_3) ∧ ((x2_12 * 8) + x1_3) < 1152)) <|
      xlet (up u27 (k0 + 8) ((x2_12 * 8) + x1_3) v26) fun u29 =>
      go11 (x2_12 + 1) u29
def s_X5_measure_18 (k0 : Nat) (j9 : uS → Option (Int × uS)) (x1_3 : Int) (go30 : Int → uS → Option (Int × uS)) (x2_31 : Int) (u32 : uS) : Option (Int × uS) :=
  xgd (InR x2_31 ∧ InR (u32 k0 10)) <|
  if u32 k0 10 ≤ x2_31 then
    j9 u32
  else
    xgd (InR x2_31) <|
    if 8 ≤ x2_31 then
      j9 u32
    else
      xgd ((0 ≤ x2_31 ∧ x2_31 < 8)) <|
      xgd ((0 ≤ x1_3 ∧ x1_3 < 8)) <|
      xgd ((0 ≤ x2_31 ∧ x2_31 < 8)) <|
      xgd ((0 ≤ x1_3 ∧ x1_3 < 8)) <|
      xbd (f_X9_distance (u32 (k0 + 5) x2_31 - u32 (k0 + 5) x1_3) (u32 (k0 + 6) x2_31 - u32 (k0 + 6) x1_3) u32) fun v41 u42 =>
      xbd (f_X5_travelOver k0 v41 u42) fun v43 u44 =>
      xgd ((0 ≤ ((x2_31 * 8) + x1_3) ∧ ((x2_31 * 8) + x1_3) < 64)) <|
      xlet (up u44 (k0 + 7) ((x2_31 * 8) + x1_3) v43) fun u46 =>
      go30 (x2_31 + 1) u46
def s_X5_measure_2 (k0 : Nat) (go2 : Int → uS → Option (Int × uS)) (x1_3 : Int) (u4 : uS) : Option (Int × uS) :=
  xgd (InR x1_3 ∧ InR (u4 k0 10)) <|
  if u4 k0 10 ≤ x1_3 then
    some (0, u4)
  else
    xgd (InR x1_3) <|
    if 8 ≤ x1_3 then
      some (0, u4)
    else
      xlet (fun (u10 : uS) =>
          xl2 (s_X5_measure_84 k0 go2 x1_3) FU 0 u10
          ) fun j9 =>
      xl2 (s_X5_measure_18 k0 j9 x1_3) FU 0 u4
def f_X5_measure (k0 : Nat) (u : uS) : Option (Int × uS) :=
  xgd (k0 < NN ∧ sT k0 = 9) <|
  xl2 (s_X5_measure_2 k0) FU 0 u
def f_X5_reset (k0 : Nat) (u : uS) : Option (Int × uS) :=
  xgd (k0 < NN ∧ sT k0 = 9) <|
  xbd (f_X2_place (k0 + 1) 0 0 5 5 20 u) fun _ u3 =>
  xlet (up u3 (k0 + 2) 0 0) fun u4 =>
  xlet (up u4 k0 2 60) fun u5 =>
  xlet (up u5 k0 3 3) fun u6 =>
  xlet (up u6 k0 4 12) fun u7 =>
  xlet (up u7 k0 5 300) fun u8 =>
  xlet (up u8 k0 6 150) fun u9 =>
  xlet (up u9 k0 7 3) fun u10 =>
  xlet (up u10 k0 8 2) fun u11 =>
  xlet (up u11 k0 9 1) fun u12 =>
  xlet (up u12 k0 10 0) fun u13 =>
  some (0, u13)
def f_X8_extend (x1 : Int) (u : uS) : Option (Int × uS) :=
  xlet ((u 3 0 - 1)) fun x2_1 =>
  xgd (InR x2_1) <|
  if x2_1 < 0 then
    some (0, u)
  else
    xgd (InR x2_1) <|
    if 500 ≤ x2_1 then
      some (0, u)
    else
      xgd ((0 ≤ x2_1 ∧ x2_1 < 500)) <|
      xgd ((0 ≤ x2_1 ∧ x2_1 < 500)) <|
      xlet (up u 6 x2_1 (u 6 x2_1 + 1)) fun u8 =>
      xgd ((0 ≤ x2_1 ∧ x2_1 < 500)) <|
      xgd ((0 ≤ x2_1 ∧ x2_1 < 500)) <|
      xlet (up u8 7 x2_1 (((u8 7 x2_1 * 10) + x1) - 48)) fun u11 =>
      some (0, u11)
def f_X8_kindOf (x0 : Int) (u : uS) : Option (Int × uS) :=
  xgd (InR x0) <|
  if x0 = 32 then
    some (0, u)
  else
    xgd (InR x0) <|
    if x0 = 10 then
      some (0, u)
    else
      xgd (InR x0) <|
      xlet (fun (u7 : uS) =>
          xgd (InR x0) <|
          xlet (fun (u10 : uS) =>
              xgd (InR x0) <|
              if x0 = 59 then
                some (3, u10)
              else
                some (4, u10)
              ) fun j9 =>
          if x0 < 48 then
            j9 u7
          else
            xgd (InR x0) <|
            if 57 < x0 then
              j9 u7
            else
              some (2, u7)
          ) fun j6 =>
      if x0 < 97 then
        j6 u
      else
        xgd (InR x0) <|
        if 122 < x0 then
          j6 u
        else
          some (1, u)
def f_X8_open (x1 : Int) (x2 : Int) (u : uS) : Option (Int × uS) :=
  xgd (InR (u 3 0)) <|
  if 500 ≤ u 3 0 then
    some (0, u)
  else
    xgd ((0 ≤ u 3 0 ∧ u 3 0 < 500)) <|
    xlet (up u 4 (u 3 0) x1) fun u4 =>
    xgd ((0 ≤ u4 3 0 ∧ u4 3 0 < 500)) <|
    xlet (up u4 5 (u4 3 0) x2) fun u6 =>
    xgd ((0 ≤ u6 3 0 ∧ u6 3 0 < 500)) <|
    xlet (up u6 6 (u6 3 0) 0) fun u8 =>
    xgd ((0 ≤ u8 3 0 ∧ u8 3 0 < 500)) <|
    xlet (up u8 7 (u8 3 0) 0) fun u10 =>
    xlet (up u10 3 0 (u10 3 0 + 1)) fun u11 =>
    some (0, u11)
def s_X8_refuseLongOnes_2 (go1 : Int → uS → Option (Int × uS)) (x1_2 : Int) (u3 : uS) : Option (Int × uS) :=
  xgd (InR x1_2 ∧ InR (u3 3 0)) <|
  if u3 3 0 ≤ x1_2 then
    some (0, u3)
  else
    xgd (InR x1_2) <|
    if 500 ≤ x1_2 then
      some (0, u3)
    else
      xgd ((0 ≤ x1_2 ∧ x1_2 < 500)) <|
      xgd (InR (u3 4 x1_2)) <|
      xlet (fun (s11 : Int) (u12 : uS) =>
          xgd ((0 ≤ x1_2 ∧ x1_2 < 500)) <|
          xgd (InR (u12 4 x1_2)) <|
          xlet (fun (s16 : Int) (u17 : uS) =>
              xgd (InR s11) <|
              xlet (fun (u20 : uS) =>
                  xgd ((0 ≤ x1_2 ∧ x1_2 < 500)) <|
                  xlet (up u20 4 x1_2 4) fun u22 =>
                  go1 (x1_2 + 1) u22
                  ) fun j19 =>
              if s11 = 0 then
                xgd (InR s16) <|
                if s16 = 0 then
                  go1 (x1_2 + 1) u17
                else
                  j19 u17
              else
                j19 u17
              ) fun j15 =>
          xlet (fun (u27 : uS) =>
              j15 0 u27
              ) fun j26 =>
          if u12 4 x1_2 = 2 then
            xgd ((0 ≤ x1_2 ∧ x1_2 < 500)) <|
            xgd (InR (u12 6 x1_2)) <|
            if u12 6 x1_2 ≤ 4 then
              j26 u12
            else
              j15 1 u12
          else
            j26 u12
          ) fun j10 =>
      xlet (fun (u33 : uS) =>
          j10 0 u33
          ) fun j32 =>
      if u3 4 x1_2 = 1 then
        xgd ((0 ≤ x1_2 ∧ x1_2 < 500)) <|
        xgd (InR (u3 6 x1_2)) <|
        if u3 6 x1_2 ≤ 8 then
          j32 u3
        else
          j10 1 u3
      else
        j32 u3
def f_X8_refuseLongOnes (u : uS) : Option (Int × uS) :=
  xl2 (s_X8_refuseLongOnes_2) FU 0 u
def s_X8_split_10 (x2 : Int) (j3 : uS → Option (Int × uS)) (k1 : Nat) (go7 : Int → Int → uS → Option (Int × uS)) (x3_8 : Int) (x4_9 : Int) (u10 : uS) : Option (Int × uS) :=
  xgd (InR x4_9 ∧ InR x2) <|
  if x2 ≤ x4_9 then
    j3 u10
  else
    xgd (InR x4_9 ∧ InR (sN k1 : Int)) <|
    if (sN k1 : Int) ≤ x4_9 then
      j3 u10
    else
      xgd ((0 ≤ x4_9 ∧ x4_9 < (sN k1 : Int))) <|
      xbd (f_X8_kindOf (u10 k1 x4_9) u10) fun v16 u17 =>
      xgd (InR v16 ∧ InR x3_8) <|
      xlet (fun (s20 : Int) (u21 : uS) =>
          xgd (InR v16) <|
          xlet (fun (u24 : uS) =>
              xgd (InR v16) <|
              xlet (fun (u27 : uS) =>
                  go7 v16 (x4_9 + 1) u27
                  ) fun j26 =>
              if v16 = 0 then
                j26 u24
              else
                xgd ((0 ≤ x4_9 ∧ x4_9 < (sN k1 : Int))) <|
                xbd (f_X8_extend (u24 k1 x4_9) u24) fun _ u31 =>
                j26 u31
              ) fun j23 =>
          if v16 = 0 then
            j23 u21
          else
            xgd (InR s20) <|
            if s20 = 0 then
              xbd (f_X8_open v16 x4_9 u21) fun _ u36 =>
              j23 u36
            else
              j23 u21
          ) fun j19 =>
      xlet (fun (u38 : uS) =>
          j19 0 u38
          ) fun j37 =>
      if v16 = x3_8 then
        xgd (InR v16) <|
        if v16 = 1 then
          j19 1 u17
        else
          xgd (InR v16) <|
          if v16 = 2 then
            j19 1 u17
          else
            j37 u17
      else
        j37 u17
def f_X8_split (k1 : Nat) (x2 : Int) (u : uS) : Option (Int × uS) :=
  xgd (k1 < NN ∧ sT k1 = 100) <|
  xlet (up u 3 0 0) fun u2 =>
  xlet (fun (u4 : uS) =>
      xbd (f_X8_refuseLongOnes u4) fun _ u6 =>
      some (0, u6)
      ) fun j3 =>
  xl3 (s_X8_split_10 x2 j3 k1) FU 0 0 u2
def f_X5_distanceFromNode (k0 : Nat) (x1 : Int) (x2 : Int) (u : uS) : Option (Int × uS) :=
  xgd (k0 < NN ∧ sT k0 = 9) <|
  xlet (((x1 * 8) + x2)) fun x3_2 =>
  xgd (InR x3_2) <|
  if x3_2 < 0 then
    some (0, u)
  else
    xgd (InR x3_2) <|
    if 1152 ≤ x3_2 then
      some (0, u)
    else
      xgd ((0 ≤ x3_2 ∧ x3_2 < 1152)) <|
      some (u (k0 + 8) x3_2, u)
def f_X5_travelFromNode (k0 : Nat) (x1 : Int) (x2 : Int) (u : uS) : Option (Int × uS) :=
  xgd (k0 < NN ∧ sT k0 = 9) <|
  xbd (f_X5_distanceFromNode k0 x1 x2 u) fun v2 u3 =>
  xbd (f_X5_travelOver k0 v2 u3) fun v4 u5 =>
  some (v4, u5)
def s_X6_magnitudeOf_4 (k0 : Nat) (x1 : Int) (go2 : Int → Int → uS → Option (Int × uS)) (x2_3 : Int) (x3_4 : Int) (u5 : uS) : Option (Int × uS) :=
  xgd (InR x3_4 ∧ InR (u5 k0 0)) <|
  if u5 k0 0 ≤ x3_4 then
    some (x2_3, u5)
  else
    xgd (InR x3_4) <|
    if 8 ≤ x3_4 then
      some (x2_3, u5)
    else
      xgd ((0 ≤ x3_4 ∧ x3_4 < 8)) <|
      xgd (InR (u5 (k0 + 1) x3_4) ∧ InR x1) <|
      if x1 < u5 (k0 + 1) x3_4 then
        go2 x2_3 (x3_4 + 1) u5
      else
        xgd ((0 ≤ x3_4 ∧ x3_4 < 8)) <|
        xlet (u5 (k0 + 2) x3_4) fun x2_14 =>
        go2 x2_14 (x3_4 + 1) u5
def f_X6_magnitudeOf (k0 : Nat) (x1 : Int) (u : uS) : Option (Int × uS) :=
  xgd (k0 < NN ∧ sT k0 = 10) <|
  xl3 (s_X6_magnitudeOf_4 k0 x1) FU (-1) 0 u
def f_X9_copyRow (k0 : Nat) (k1 : Nat) (u : uS) : Option (Int × uS) :=
  xgd ((k0 < NN ∧ sT k0 = 100) ∧ (k1 < NN ∧ sT k1 = 100)) <|
  xgd (InR (sN k0 : Int) ∧ InR (sN k1 : Int)) <|
  xgd ((0 ≤ (minI (sN k0 : Int) (sN k1 : Int)) ∧ (minI (sN k0 : Int) (sN k1 : Int)) ≤ (sN k0 : Int)) ∧ (minI (sN k0 : Int) (sN k1 : Int)) ≤ (sN k1 : Int)) <|
  xlet (upA u k1 (cpyI (u k0) (u k1) (minI (sN k0 : Int) (sN k1 : Int)))) fun u4 =>
  some (0, u4)
def f_X7_addPick (k0 : Nat) (x1 : Int) (x2 : Int) (u : uS) : Option (Int × uS) :=
  xgd (k0 < NN ∧ sT k0 = 11) <|
  xgd (InR (u k0 1)) <|
  if 60 ≤ u k0 1 then
    some (0, u)
  else
    xgd (InR x1) <|
    if x1 < 0 then
      some (0, u)
    else
      xgd (InR x1) <|
      if 8 ≤ x1 then
        some (0, u)
      else
        xgd ((0 ≤ u k0 1 ∧ u k0 1 < 60)) <|
        xlet (up u (k0 + 8) (u k0 1) x1) fun u9 =>
        xgd ((0 ≤ u9 k0 1 ∧ u9 k0 1 < 60)) <|
        xlet (up u9 (k0 + 9) (u9 k0 1) (u9 k0 0)) fun u11 =>
        xgd ((0 ≤ u11 k0 1 ∧ u11 k0 1 < 60)) <|
        xlet (up u11 (k0 + 10) (u11 k0 1) x2) fun u13 =>
        xgd ((0 ≤ u13 k0 1 ∧ u13 k0 1 < 60)) <|
        xlet (up u13 (k0 + 11) (u13 k0 1) (-1)) fun u15 =>
        xgd ((0 ≤ u15 k0 1 ∧ u15 k0 1 < 60)) <|
        xlet (up u15 (k0 + 12) (u15 k0 1) 0) fun u17 =>
        xgd ((0 ≤ x1 ∧ x1 < 8)) <|
        xlet (up u17 (k0 + 7) x1 (u17 k0 1)) fun u19 =>
        xlet (up u19 k0 1 (u19 k0 1 + 1)) fun u20 =>
        some (0, u20)
def f_X7_picksFit (k0 : Nat) (k1 : Nat) (x2 : Int) (x3 : Int) (u : uS) : Option (Int × uS) :=
  xgd ((k0 < NN ∧ sT k0 = 11) ∧ (k1 < NN ∧ sT k1 = 9)) <|
  xgd (InR x2) <|
  if x2 < 0 then
    some (0, u)
  else
    xgd (InR x2) <|
    if 60 ≤ x2 then
      some (0, u)
    else
      xgd (InR x3) <|
      if x3 < 0 then
        some (0, u)
      else
        xgd (InR x3) <|
        if x3 < 60 then
          xgd ((0 ≤ x2 ∧ x2 < 60)) <|
          xgd (InR (u (k0 + 12) x2)) <|
          if u (k0 + 12) x2 = 1 then
            some (0, u)
          else
            xgd ((0 ≤ x3 ∧ x3 < 60)) <|
            xgd (InR (u (k0 + 12) x3)) <|
            if u (k0 + 12) x3 = 1 then
              some (0, u)
            else
              xgd ((0 ≤ x2 ∧ x2 < 60)) <|
              xgd ((0 ≤ x3 ∧ x3 < 60)) <|
              xgd (InR (u (k0 + 8) x2) ∧ InR (u (k0 + 8) x3)) <|
              if u (k0 + 8) x2 = u (k0 + 8) x3 then
                some (0, u)
              else
                xgd ((0 ≤ x2 ∧ x2 < 60)) <|
                xgd ((0 ≤ x3 ∧ x3 < 60)) <|
                xgd (InR (u (k0 + 9) x2 - u (k0 + 9) x3)) <|
                xlet ((absI (u (k0 + 9) x2 - u (k0 + 9) x3))) fun x4_23 =>
                xgd ((0 ≤ x2 ∧ x2 < 60)) <|
                xgd ((0 ≤ x3 ∧ x3 < 60)) <|
                xbd (f_X5_travelOfStations k1 (u (k0 + 8) x2) (u (k0 + 8) x3) u) fun v26 u27 =>
                xgd (InR x4_23 ∧ InR (v26 + u27 k1 8)) <|
                if (v26 + u27 k1 8) < x4_23 then
                  some (0, u27)
                else
                  some (1, u27)
        else
          some (0, u)
def f_X7_sampleAt (k0 : Nat) (x1 : Int) (x2 : Int) (u : uS) : Option (Int × uS) :=
  xgd (k0 < NN ∧ sT k0 = 11) <|
  xgd (InR x2) <|
  xlet (fun (s4 : Int) (u5 : uS) =>
      xgd (InR s4) <|
      if s4 < 0 then
        some (0, u5)
      else
        xgd (InR s4) <|
        if 792 ≤ s4 then
          some (0, u5)
        else
          xgd ((0 ≤ s4 ∧ s4 < 792)) <|
          some (u5 (k0 + 2) s4, u5)
      ) fun j3 =>
  if 1 ≤ x2 then
    xgd (InR x2) <|
    j3 ((x1 * 99) + (Int.tmod x2 99)) u
  else
    j3 (-1) u
def f_X7_takeSample (k0 : Nat) (k1 : Nat) (x2 : Int) (u : uS) : Option (Int × uS) :=
  xgd ((k0 < NN ∧ sT k0 = 11) ∧ (k1 < NN ∧ sT k1 = 9)) <|
  xgd (InR (u k0 0)) <|
  xlet (((x2 * 99) + (Int.tmod (u k0 0) 99))) fun x3_3 =>
  xgd (InR x2) <|
  if x2 < 0 then
    some (0, u)
  else
    xgd (InR x2) <|
    if 8 ≤ x2 then
      some (0, u)
    else
      xgd (InR x3_3) <|
      if x3_3 < 0 then
        some (0, u)
      else
        xgd (InR x3_3) <|
        if x3_3 < 792 then
          xgd ((0 ≤ x2 ∧ x2 < 8)) <|
          xlet (u (k0 + 1) x2) fun x4_13 =>
          xgd ((0 ≤ x2 ∧ x2 < 8)) <|
          xbd (f_X7_sampleAt k0 x2 (u k0 0 - u k1 3) u) fun v15 u16 =>
          xgd ((0 ≤ x2 ∧ x2 < 8)) <|
          xlet (up u16 (k0 + 3) x2 (u (k0 + 3) x2 + (x4_13 - v15))) fun u18 =>
          xgd ((0 ≤ x2 ∧ x2 < 8)) <|
          xbd (f_X7_sampleAt k0 x2 (u18 k0 0 - u18 k1 4) u18) fun v20 u21 =>
          xgd ((0 ≤ x2 ∧ x2 < 8)) <|
          xlet (up u21 (k0 + 4) x2 (u18 (k0 + 4) x2 + (x4_13 - v20))) fun u23 =>
          xgd ((0 ≤ x3_3 ∧ x3_3 < 792)) <|
          xlet (up u23 (k0 + 2) x3_3 x4_13) fun u25 =>
          some (0, u25)
        else
          some (0, u)
def f_X7_copyFrom (k0 : Nat) (k1 : Nat) (u : uS) : Option (Int × uS) :=
  xgd ((k0 < NN ∧ sT k0 = 11) ∧ (k1 < NN ∧ sT k1 = 11)) <|
  xlet (up u k0 0 (u k1 0)) fun u2 =>
  xlet (up u2 k0 1 (u2 k1 1)) fun u3 =>
  xlet (up u3 k0 2 (u3 k1 2)) fun u4 =>
  xbd (f_X9_copyRow (k1 + 1) (k0 + 1) u4) fun _ u6 =>
  xbd (f_X9_copyRow (k1 + 2) (k0 + 2) u6) fun _ u8 =>
  xbd (f_X9_copyRow (k1 + 3) (k0 + 3) u8) fun _ u10 =>
  xbd (f_X9_copyRow (k1 + 4) (k0 + 4) u10) fun _ u12 =>
  xbd (f_X9_copyRow (k1 + 5) (k0 + 5) u12) fun _ u14 =>
  xbd (f_X9_copyRow (k1 + 6) (k0 + 6) u14) fun _ u16 =>
  xbd (f_X9_copyRow (k1 + 7) (k0 + 7) u16) fun _ u18 =>
  xbd (f_X9_copyRow (k1 + 8) (k0 + 8) u18) fun _ u20 =>
  xbd (f_X9_copyRow (k1 + 9) (k0 + 9) u20) fun _ u22 =>
  xbd (f_X9_copyRow (k1 + 10) (k0 + 10) u22) fun _ u24 =>
  xbd (f_X9_copyRow (k1 + 11) (k0 + 11) u24) fun _ u26 =>
  xbd (f_X9_copyRow (k1 + 12) (k0 + 12) u26) fun _ u28 =>
  xbd (f_X9_copyRow (k1 + 13) (k0 + 13) u28) fun _ u30 =>
  xbd (f_X9_copyRow (k1 + 14) (k0 + 14) u30) fun _ u32 =>
  some (0, u32)
def s_X7_standingEvents_4 (k0 : Nat) (go2 : Int → Int → uS → Option (Int × uS)) (x1_3 : Int) (x2_4 : Int) (u5 : uS) : Option (Int × uS) :=
  xgd (InR x2_4 ∧ InR (u5 k0 2)) <|
  if u5 k0 2 ≤ x2_4 then
    some (x1_3, u5)
  else
    xgd (InR x2_4) <|
    if 20 ≤ x2_4 then
      some (x1_3, u5)
    else
      xgd ((0 ≤ x2_4 ∧ x2_4 < 20)) <|
      xlet ((x1_3 + (1 - u5 (k0 + 14) x2_4))) fun x1_11 =>
      go2 x1_11 (x2_4 + 1) u5
def f_X7_standingEvents (k0 : Nat) (u : uS) : Option (Int × uS) :=
  xgd (k0 < NN ∧ sT k0 = 11) <|
  xl3 (s_X7_standingEvents_4 k0) FU 0 0 u
def s_X7_triggeredStations_4 (k0 : Nat) (go2 : Int → Int → uS → Option (Int × uS)) (x1_3 : Int) (x2_4 : Int) (u5 : uS) : Option (Int × uS) :=
  xgd (InR x2_4) <|
  if 8 ≤ x2_4 then
    some (x1_3, u5)
  else
    xgd ((0 ≤ x2_4 ∧ x2_4 < 8)) <|
    xlet ((x1_3 + u5 (k0 + 5) x2_4)) fun x1_9 =>
    go2 x1_9 (x2_4 + 1) u5
def f_X7_triggeredStations (k0 : Nat) (u : uS) : Option (Int × uS) :=
  xgd (k0 < NN ∧ sT k0 = 11) <|
  xl3 (s_X7_triggeredStations_4 k0) FU 0 0 u
def s_X7_picksOf_4 (k0 : Nat) (x1 : Int) (go2 : Int → Int → uS → Option (Int × uS)) (x2_3 : Int) (x3_4 : Int) (u5 : uS) : Option (Int × uS) :=
  xgd (InR x3_4 ∧ InR (u5 k0 1)) <|
  if u5 k0 1 ≤ x3_4 then
    some (x2_3, u5)
  else
    xgd (InR x3_4) <|
    if 60 ≤ x3_4 then
      some (x2_3, u5)
    else
      xgd ((0 ≤ x3_4 ∧ x3_4 < 60)) <|
      xgd (InR (u5 (k0 + 11) x3_4) ∧ InR x1) <|
      if u5 (k0 + 11) x3_4 = x1 then
        go2 (x2_3 + 1) (x3_4 + 1) u5
      else
        go2 x2_3 (x3_4 + 1) u5
def f_X7_picksOf (k0 : Nat) (x1 : Int) (u : uS) : Option (Int × uS) :=
  xgd (k0 < NN ∧ sT k0 = 11) <|
  xl3 (s_X7_picksOf_4 k0 x1) FU 0 0 u
def s_X7_withdraw_20 (k0 : Nat) (x1 : Int) (go8 : Int → uS → Option (Int × uS)) (x2_9 : Int) (u10 : uS) : Option (Int × uS) :=
  xgd (InR x2_9 ∧ InR (u10 k0 1)) <|
  if u10 k0 1 ≤ x2_9 then
    some (0, u10)
  else
    xgd (InR x2_9) <|
    if 60 ≤ x2_9 then
      some (0, u10)
    else
      xgd ((0 ≤ x2_9 ∧ x2_9 < 60)) <|
      xgd (InR (u10 (k0 + 11) x2_9) ∧ InR x1) <|
      if u10 (k0 + 11) x2_9 = x1 then
        xgd ((0 ≤ x2_9 ∧ x2_9 < 60)) <|
        xlet (up u10 (k0 + 11) x2_9 (-1)) fun u19 =>
        go8 (x2_9 + 1) u19
      else
        go8 (x2_9 + 1) u10
def f_X7_withdraw (k0 : Nat) (x1 : Int) (u : uS) : Option (Int × uS) :=
  xgd (k0 < NN ∧ sT k0 = 11) <|
  xgd (InR x1) <|
  if x1 < 0 then
    some (0, u)
  else
    xgd (InR x1) <|
    if x1 < 20 then
      xgd ((0 ≤ x1 ∧ x1 < 20)) <|
      xlet (up u (k0 + 14) x1 1) fun u7 =>
      xl2 (s_X7_withdraw_20 k0 x1) FU 0 u7
    else
      some (0, u)
def s_X7_silence_77 (k0 : Nat) (k1 : Nat) (go12 : Int → Int → uS → Option (Int × uS)) (x3_13 : Int) (x4_14 : Int) (u15 : uS) : Option (Int × uS) :=
  xgd (InR x4_14 ∧ InR (u15 k0 2)) <|
  if u15 k0 2 ≤ x4_14 then
    some (x3_13, u15)
  else
    xgd (InR x4_14) <|
    if 20 ≤ x4_14 then
      some (x3_13, u15)
    else
      xgd ((0 ≤ x4_14 ∧ x4_14 < 20)) <|
      xgd (InR (u15 (k0 + 14) x4_14)) <|
      if u15 (k0 + 14) x4_14 = 0 then
        xbd (f_X7_picksOf k0 x4_14 u15) fun v23 u24 =>
        xgd (InR v23 ∧ InR (u24 k1 7)) <|
        if u24 k1 7 ≤ v23 then
          go12 x3_13 (x4_14 + 1) u24
        else
          xbd (f_X7_withdraw k0 x4_14 u24) fun _ u28 =>
          go12 (x3_13 + 1) (x4_14 + 1) u28
      else
        go12 x3_13 (x4_14 + 1) u15
def s_X7_silence_28 (k0 : Nat) (j10 : uS → Option (Int × uS)) (x2 : Int) (go29 : Int → uS → Option (Int × uS)) (x3_30 : Int) (u31 : uS) : Option (Int × uS) :=
  xgd (InR x3_30 ∧ InR (u31 k0 1)) <|
  if u31 k0 1 ≤ x3_30 then
    j10 u31
  else
    xgd (InR x3_30) <|
    if 60 ≤ x3_30 then
      j10 u31
    else
      xgd ((0 ≤ x3_30 ∧ x3_30 < 60)) <|
      xgd (InR (u31 (k0 + 8) x3_30) ∧ InR x2) <|
      if u31 (k0 + 8) x3_30 = x2 then
        xgd ((0 ≤ x3_30 ∧ x3_30 < 60)) <|
        xlet (up u31 (k0 + 12) x3_30 1) fun u40 =>
        xgd ((0 ≤ x3_30 ∧ x3_30 < 60)) <|
        xlet (up u40 (k0 + 11) x3_30 (-1)) fun u42 =>
        go29 (x3_30 + 1) u42
      else
        go29 (x3_30 + 1) u31
def f_X7_silence (k0 : Nat) (k1 : Nat) (x2 : Int) (u : uS) : Option (Int × uS) :=
  xgd ((k0 < NN ∧ sT k0 = 11) ∧ (k1 < NN ∧ sT k1 = 9)) <|
  xgd (InR x2) <|
  if x2 < 0 then
    some (0, u)
  else
    xgd (InR x2) <|
    if x2 < 8 then
      xgd ((0 ≤ x2 ∧ x2 < 8)) <|
      xlet (up u (k0 + 6) x2 1) fun u7 =>
      xgd ((0 ≤ x2 ∧ x2 < 8)) <|
      xlet (up u7 (k0 + 5) x2 0) fun u9 =>
      xlet (fun (u11 : uS) =>
          xl3 (s_X7_silence_77 k0 k1) FU 0 0 u11
          ) fun j10 =>
      xl2 (s_X7_silence_28 k0 j10 x2) FU 0 u9
    else
      some (0, u)
def f_X0_raisePeak (k0 : Nat) (x1 : Int) (x2 : Int) (u : uS) : Option (Int × uS) :=
  xgd (k0 < NN ∧ sT k0 = 11) <|
  xgd (InR x1) <|
  if x1 < 0 then
    some (0, u)
  else
    xgd (InR x1) <|
    if 60 ≤ x1 then
      some (0, u)
    else
      xgd ((0 ≤ x1 ∧ x1 < 60)) <|
      xgd (InR (u (k0 + 10) x1) ∧ InR x2) <|
      xgd ((0 ≤ x1 ∧ x1 < 60)) <|
      xlet (up u (k0 + 10) x1 (maxI (u (k0 + 10) x1) x2)) fun u9 =>
      some (0, u9)
def f_X0_judge (k0 : Nat) (k1 : Nat) (x2 : Int) (u : uS) : Option (Int × uS) :=
  xgd ((k0 < NN ∧ sT k0 = 9) ∧ (k1 < NN ∧ sT k1 = 11)) <|
  xgd ((0 ≤ x2 ∧ x2 < 8)) <|
  xlet (u (k1 + 1) x2) fun x3_3 =>
  xgd ((0 ≤ x2 ∧ x2 < 8)) <|
  xgd ((0 ≤ x2 ∧ x2 < 8)) <|
  xbd (f_X5_ratioOf k0 (u (k1 + 3) x2) (u (k1 + 4) x2) u) fun v6 u7 =>
  xgd ((0 ≤ x2 ∧ x2 < 8)) <|
  xgd (InR (u7 (k1 + 5) x2)) <|
  if u7 (k1 + 5) x2 = 1 then
    xgd ((0 ≤ x2 ∧ x2 < 8)) <|
    xbd (f_X0_raisePeak k1 (u7 (k1 + 7) x2) x3_3 u7) fun _ u33 =>
    xgd (InR v6 ∧ InR (u33 k0 6)) <|
    if u33 k0 6 ≤ v6 then
      some (0, u33)
    else
      xgd ((0 ≤ x2 ∧ x2 < 8)) <|
      xlet (up u33 (k1 + 5) x2 0) fun u37 =>
      some (0, u37)
  else
    xgd (InR (u7 k1 0) ∧ InR (u7 k0 4)) <|
    xlet (fun (s13 : Int) (u14 : uS) =>
        xgd (InR s13) <|
        if s13 = 0 then
          some (0, u14)
        else
          xgd (InR v6 ∧ InR (u14 k0 5)) <|
          if v6 < u14 k0 5 then
            some (0, u14)
          else
            xgd (InR (u14 k1 1)) <|
            if u14 k1 1 < 60 then
              xgd ((0 ≤ x2 ∧ x2 < 8)) <|
              xlet (up u14 (k1 + 5) x2 1) fun u22 =>
              xbd (f_X7_addPick k1 x2 x3_3 u22) fun _ u24 =>
              some (1, u24)
            else
              some (0, u14)
        ) fun j12 =>
    xlet (fun (u26 : uS) =>
        j12 0 u26
        ) fun j25 =>
    if u7 k1 0 < u7 k0 4 then
      j25 u7
    else
      xgd ((0 ≤ x2 ∧ x2 < 8)) <|
      xgd (InR (u7 (k1 + 6) x2)) <|
      if u7 (k1 + 6) x2 = 0 then
        j12 1 u7
      else
        j25 u7
def s_X0_declareGroup_42 (j10 : uS → Option (Int × uS)) (k1 : Nat) (go13 : Int → uS → Option (Int × uS)) (x2_14 : Int) (u15 : uS) : Option (Int × uS) :=
  xgd (InR x2_14 ∧ InR (u15 28 1)) <|
  if u15 28 1 ≤ x2_14 then
    j10 u15
  else
    xgd (InR x2_14) <|
    if 60 ≤ x2_14 then
      j10 u15
    else
      xgd ((0 ≤ x2_14 ∧ x2_14 < 60)) <|
      xlet (u15 29 x2_14) fun x3_21 =>
      xgd (InR x3_21) <|
      if x3_21 < 0 then
        go13 (x2_14 + 1) u15
      else
        xgd (InR x3_21) <|
        if 60 ≤ x3_21 then
          go13 (x2_14 + 1) u15
        else
          xgd ((0 ≤ x3_21 ∧ x3_21 < 60)) <|
          xlet (up u15 (k1 + 11) x3_21 (u15 k1 2)) fun u27 =>
          go13 (x2_14 + 1) u27
def f_X0_declareGroup (k1 : Nat) (u : uS) : Option (Int × uS) :=
  xgd (k1 < NN ∧ sT k1 = 11) <|
  xgd (InR (u k1 2)) <|
  if u k1 2 < 0 then
    some (0, u)
  else
    xgd (InR (u k1 2)) <|
    if u k1 2 < 20 then
      xgd ((0 ≤ u k1 2 ∧ u k1 2 < 20)) <|
      xlet (up u (k1 + 13) (u k1 2) (u k1 0)) fun u7 =>
      xgd ((0 ≤ u7 k1 2 ∧ u7 k1 2 < 20)) <|
      xlet (up u7 (k1 + 14) (u7 k1 2) 0) fun u9 =>
      xlet (fun (u11 : uS) =>
          xlet (up u11 k1 2 (u11 k1 2 + 1)) fun u12 =>
          some (0, u12)
          ) fun j10 =>
      xl2 (s_X0_declareGroup_42 j10 k1) FU 0 u9
    else
      some (0, u)
def s_X0_fitsAllOf_3 (k1 : Nat) (x2 : Int) (k0 : Nat) (x3 : Int) (go2 : Int → uS → Option (Int × uS)) (x4_3 : Int) (u4 : uS) : Option (Int × uS) :=
  xgd (InR x4_3 ∧ InR (u4 k1 1)) <|
  if u4 k1 1 ≤ x4_3 then
    some (1, u4)
  else
    xgd (InR x4_3) <|
    if 60 ≤ x4_3 then
      some (1, u4)
    else
      xgd ((0 ≤ x4_3 ∧ x4_3 < 60)) <|
      xgd (InR (u4 (k1 + 11) x4_3) ∧ InR x2) <|
      if u4 (k1 + 11) x4_3 = x2 then
        xbd (f_X7_picksFit k1 k0 x4_3 x3 u4) fun v12 u13 =>
        xgd (InR v12) <|
        if v12 = 0 then
          some (0, u13)
        else
          go2 (x4_3 + 1) u13
      else
        go2 (x4_3 + 1) u4
def f_X0_fitsAllOf (k0 : Nat) (k1 : Nat) (x2 : Int) (x3 : Int) (u : uS) : Option (Int × uS) :=
  xgd ((k0 < NN ∧ sT k0 = 9) ∧ (k1 < NN ∧ sT k1 = 11)) <|
  xl2 (s_X0_fitsAllOf_3 k1 x2 k0 x3) FU 0 u
def s_X0_fitsGroup_3 (k2 : Nat) (k1 : Nat) (x3 : Int) (go2 : Int → uS → Option (Int × uS)) (x4_3 : Int) (u4 : uS) : Option (Int × uS) :=
  xgd (InR x4_3 ∧ InR (u4 28 1)) <|
  if u4 28 1 ≤ x4_3 then
    some (1, u4)
  else
    xgd (InR x4_3) <|
    if 60 ≤ x4_3 then
      some (1, u4)
    else
      xgd ((0 ≤ x4_3 ∧ x4_3 < 60)) <|
      xbd (f_X7_picksFit k2 k1 (u4 29 x4_3) x3 u4) fun v10 u11 =>
      xgd (InR v10) <|
      if v10 = 0 then
        some (0, u11)
      else
        go2 (x4_3 + 1) u11
def f_X0_fitsGroup (k1 : Nat) (k2 : Nat) (x3 : Int) (u : uS) : Option (Int × uS) :=
  xgd ((k1 < NN ∧ sT k1 = 9) ∧ (k2 < NN ∧ sT k2 = 11)) <|
  xl2 (s_X0_fitsGroup_3 k2 k1 x3) FU 0 u
def s_X0_formGroup_15 (k2 : Nat) (k1 : Nat) (go4 : Int → uS → Option (Int × uS)) (x4_5 : Int) (u6 : uS) : Option (Int × uS) :=
  xgd (InR x4_5 ∧ InR (u6 k2 1)) <|
  if u6 k2 1 ≤ x4_5 then
    some (0, u6)
  else
    xgd (InR x4_5) <|
    if 60 ≤ x4_5 then
      some (0, u6)
    else
      xgd ((0 ≤ x4_5 ∧ x4_5 < 60)) <|
      xgd (InR (u6 (k2 + 11) x4_5)) <|
      xlet (fun (s14 : Int) (u15 : uS) =>
          xgd (InR s14) <|
          if s14 = 0 then
            go4 (x4_5 + 1) u15
          else
            xbd (f_X0_fitsGroup k1 k2 x4_5 u15) fun v18 u19 =>
            xgd (InR v18) <|
            if v18 = 0 then
              go4 (x4_5 + 1) u19
            else
              xgd (InR (u19 28 1)) <|
              if 60 ≤ u19 28 1 then
                go4 (x4_5 + 1) u19
              else
                xgd ((0 ≤ u19 28 1 ∧ u19 28 1 < 60)) <|
                xlet (up u19 29 (u19 28 1) x4_5) fun u25 =>
                xlet (up u25 28 1 (u25 28 1 + 1)) fun u26 =>
                go4 (x4_5 + 1) u26
          ) fun j13 =>
      xlet (fun (u28 : uS) =>
          j13 0 u28
          ) fun j27 =>
      if u6 (k2 + 11) x4_5 = (-1) then
        xgd ((0 ≤ x4_5 ∧ x4_5 < 60)) <|
        xgd (InR (u6 (k2 + 12) x4_5)) <|
        if u6 (k2 + 12) x4_5 = 0 then
          j13 1 u6
        else
          j27 u6
      else
        j27 u6
def f_X0_formGroup (k1 : Nat) (k2 : Nat) (x3 : Int) (u : uS) : Option (Int × uS) :=
  xgd ((k1 < NN ∧ sT k1 = 9) ∧ (k2 < NN ∧ sT k2 = 11)) <|
  xlet (up u 29 0 x3) fun u2 =>
  xlet (up u2 28 1 1) fun u3 =>
  xl2 (s_X0_formGroup_15 k2 k1) FU 0 u3
def s_X0_vote_14 (k2 : Nat) (j6 : uS → Option (Int × uS)) (k1 : Nat) (x3 : Int) (j16 : Int → uS → Option (Int × uS)) (go21 : Int → uS → Option (Int × uS)) (x4_22 : Int) (u23 : uS) : Option (Int × uS) :=
  xgd (InR x4_22 ∧ InR (u23 k2 2)) <|
  if u23 k2 2 ≤ x4_22 then
    j6 u23
  else
    xgd (InR x4_22) <|
    if 20 ≤ x4_22 then
      j6 u23
    else
      xgd ((0 ≤ x4_22 ∧ x4_22 < 20)) <|
      xgd (InR (u23 (k2 + 14) x4_22)) <|
      if u23 (k2 + 14) x4_22 = 0 then
        xbd (f_X0_fitsAllOf k1 k2 x4_22 x3 u23) fun v31 u32 =>
        xgd (InR v31) <|
        if v31 = 0 then
          go21 (x4_22 + 1) u32
        else
          j16 x4_22 u32
      else
        go21 (x4_22 + 1) u23
def f_X0_vote (k1 : Nat) (k2 : Nat) (x3 : Int) (u : uS) : Option (Int × uS) :=
  xgd ((k1 < NN ∧ sT k1 = 9) ∧ (k2 < NN ∧ sT k2 = 11)) <|
  xgd (InR x3) <|
  if x3 < 0 then
    some (0, u)
  else
    xgd (InR x3) <|
    if x3 < 60 then
      xlet (fun (u7 : uS) =>
          xbd (f_X0_formGroup k1 k2 x3 u7) fun _ u9 =>
          xgd (InR (u9 28 1) ∧ InR (u9 k1 7)) <|
          if u9 28 1 < u9 k1 7 then
            some (0, u9)
          else
            xgd (InR (u9 k2 2)) <|
            if 20 ≤ u9 k2 2 then
              some (0, u9)
            else
              xbd (f_X0_declareGroup k2 u9) fun _ u15 =>
              some (0, u15)
          ) fun j6 =>
      xlet (fun (x4_17 : Int) (u18 : uS) =>
          xgd ((0 ≤ x3 ∧ x3 < 60)) <|
          xlet (up u18 (k2 + 11) x3 x4_17) fun u20 =>
          some (0, u20)
          ) fun j16 =>
      xl2 (s_X0_vote_14 k2 j6 k1 x3 j16) FU 0 u
    else
      some (0, u)
def s_X0_doTick_40 (k1 : Nat) (k2 : Nat) (go5 : Int → uS → Option (Int × uS)) (x3_6 : Int) (u7 : uS) : Option (Int × uS) :=
  xgd (InR x3_6 ∧ InR (u7 k1 10)) <|
  if u7 k1 10 ≤ x3_6 then
    some (0, u7)
  else
    xgd (InR x3_6) <|
    if 8 ≤ x3_6 then
      some (0, u7)
    else
      xbd (f_X0_judge k1 k2 x3_6 u7) fun v12 u13 =>
      xgd (InR v12) <|
      if v12 = 0 then
        go5 (x3_6 + 1) u13
      else
        xbd (f_X0_vote k1 k2 (u13 k2 1 - 1) u13) fun _ u17 =>
        go5 (x3_6 + 1) u17
def s_X0_doTick_12 (k1 : Nat) (j3 : uS → Option (Int × uS)) (k2 : Nat) (go18 : Int → uS → Option (Int × uS)) (x3_19 : Int) (u20 : uS) : Option (Int × uS) :=
  xgd (InR x3_19 ∧ InR (u20 k1 10)) <|
  if u20 k1 10 ≤ x3_19 then
    j3 u20
  else
    xgd (InR x3_19) <|
    if 8 ≤ x3_19 then
      j3 u20
    else
      xbd (f_X7_takeSample k2 k1 x3_19 u20) fun _ u26 =>
      go18 (x3_19 + 1) u26
def f_X0_doTick (k1 : Nat) (k2 : Nat) (u : uS) : Option (Int × uS) :=
  xgd ((k1 < NN ∧ sT k1 = 9) ∧ (k2 < NN ∧ sT k2 = 11)) <|
  xlet (up u k2 0 (u k2 0 + 1)) fun u2 =>
  xlet (fun (u4 : uS) =>
      xl2 (s_X0_doTick_40 k1 k2) FU 0 u4
      ) fun j3 =>
  xl2 (s_X0_doTick_12 k1 j3 k2) FU 0 u2
def s_X3_gather_7 (k1 : Nat) (x2 : Int) (go3 : Int → uS → Option (Int × uS)) (x3_4 : Int) (u5 : uS) : Option (Int × uS) :=
  xgd (InR x3_4 ∧ InR (u5 k1 1)) <|
  if u5 k1 1 ≤ x3_4 then
    some (0, u5)
  else
    xgd (InR x3_4) <|
    if 60 ≤ x3_4 then
      some (0, u5)
    else
      xgd ((0 ≤ x3_4 ∧ x3_4 < 60)) <|
      xgd (InR (u5 (k1 + 11) x3_4) ∧ InR x2) <|
      if u5 (k1 + 11) x3_4 = x2 then
        xgd (InR (u5 30 0)) <|
        if 60 ≤ u5 30 0 then
          go3 (x3_4 + 1) u5
        else
          xgd ((0 ≤ u5 30 0 ∧ u5 30 0 < 60)) <|
          xlet (up u5 31 (u5 30 0) x3_4) fun u16 =>
          xlet (up u16 30 0 (u16 30 0 + 1)) fun u17 =>
          go3 (x3_4 + 1) u17
      else
        go3 (x3_4 + 1) u5
def f_X3_gather (k1 : Nat) (x2 : Int) (u : uS) : Option (Int × uS) :=
  xgd (k1 < NN ∧ sT k1 = 11) <|
  xlet (up u 30 0 0) fun u2 =>
  xl2 (s_X3_gather_7 k1 x2) FU 0 u2
def f_X3_delay (k1 : Nat) (k2 : Nat) (x3 : Int) (u : uS) : Option (Int × uS) :=
  xgd ((k1 < NN ∧ sT k1 = 9) ∧ (k2 < NN ∧ sT k2 = 11)) <|
  xgd (InR x3) <|
  if x3 < 0 then
    some (0, u)
  else
    xgd (InR x3) <|
    if x3 < 60 then
      xgd ((0 ≤ x3 ∧ x3 < 60)) <|
      xgd ((0 ≤ x3 ∧ x3 < 60)) <|
      xbd (f_X5_travelFromNode k1 (u 30 1) (u (k2 + 8) x3) u) fun v8 u9 =>
      some ((u (k2 + 9) x3 - v8), u9)
    else
      some (0, u)
def s_X3_weigh_81 (k1 : Nat) (k2 : Nat) (go12 : Int → uS → Option (Int × uS)) (x5_13 : Int) (u14 : uS) : Option (Int × uS) :=
  xgd (InR x5_13 ∧ InR (u14 30 0)) <|
  if u14 30 0 ≤ x5_13 then
    some (0, u14)
  else
    xgd (InR x5_13) <|
    if 60 ≤ x5_13 then
      some (0, u14)
    else
      xgd ((0 ≤ x5_13 ∧ x5_13 < 60)) <|
      xbd (f_X3_delay k1 k2 (u14 31 x5_13) u14) fun v20 u21 =>
      xgd (InR (v20 - u21 30 2)) <|
      xlet (up u21 30 3 (u14 30 3 + (absI (v20 - u21 30 2)))) fun u23 =>
      go12 (x5_13 + 1) u23
def s_X3_weigh_11 (j3 : Int → uS → Option (Int × uS)) (k1 : Nat) (k2 : Nat) (go26 : Int → Int → uS → Option (Int × uS)) (x4_27 : Int) (x5_28 : Int) (u29 : uS) : Option (Int × uS) :=
  xgd (InR x5_28 ∧ InR (u29 30 0)) <|
  if u29 30 0 ≤ x5_28 then
    j3 x4_27 u29
  else
    xgd (InR x5_28) <|
    if 60 ≤ x5_28 then
      j3 x4_27 u29
    else
      xgd ((0 ≤ x5_28 ∧ x5_28 < 60)) <|
      xbd (f_X3_delay k1 k2 (u29 31 x5_28) u29) fun v35 u36 =>
      xlet ((x4_27 + v35)) fun x4_37 =>
      go26 x4_37 (x5_28 + 1) u36
def f_X3_weigh (k1 : Nat) (k2 : Nat) (x3 : Int) (u : uS) : Option (Int × uS) :=
  xgd ((k1 < NN ∧ sT k1 = 9) ∧ (k2 < NN ∧ sT k2 = 11)) <|
  xlet (up u 30 1 x3) fun u2 =>
  xlet (fun (x4_4 : Int) (u5 : uS) =>
      xgd (InR (u5 30 0)) <|
      xlet (fun (s8 : Int) (u9 : uS) =>
          xlet (up u9 30 2 s8) fun u10 =>
          xlet (up u10 30 3 0) fun u11 =>
          xl2 (s_X3_weigh_81 k1 k2) FU 0 u11
          ) fun j7 =>
      if u5 30 0 = 0 then
        j7 0 u5
      else
        xgd (InR x4_4 ∧ InR (u5 30 0) ∧ u5 30 0 ≠ 0) <|
        j7 (Int.tdiv x4_4 (u5 30 0)) u5
      ) fun j3 =>
  xl3 (s_X3_weigh_11 j3 k1 k2) FU 0 0 u2
def s_X3_locate_25 (k1 : Nat) (j7 : Int → uS → Option (Int × uS)) (k2 : Nat) (go12 : Int → Int → Int → uS → Option (Int × uS)) (x4_13 : Int) (x5_14 : Int) (x6_15 : Int) (u16 : uS) : Option (Int × uS) :=
  xbd (f_X2_nodeCount (k1 + 1) u16) fun v17 u18 =>
  xgd (InR x6_15 ∧ InR v17) <|
  if v17 ≤ x6_15 then
    j7 x4_13 u18
  else
    xgd (InR x6_15) <|
    if 144 ≤ x6_15 then
      j7 x4_13 u18
    else
      xbd (f_X3_weigh k1 k2 x6_15 u18) fun _ u24 =>
      xgd (InR (u24 30 3) ∧ InR x5_14) <|
      if x5_14 ≤ u24 30 3 then
        go12 x4_13 x5_14 (x6_15 + 1) u24
      else
        xlet (u24 30 3) fun x5_27 =>
        go12 x6_15 x5_27 (x6_15 + 1) u24
def f_X3_locate (k1 : Nat) (k2 : Nat) (x3 : Int) (u : uS) : Option (Int × uS) :=
  xgd ((k1 < NN ∧ sT k1 = 9) ∧ (k2 < NN ∧ sT k2 = 11)) <|
  xbd (f_X3_gather k2 x3 u) fun _ u3 =>
  xbd (f_X3_weigh k1 k2 0 u3) fun _ u5 =>
  xlet (u5 30 3) fun x5_6 =>
  xlet (fun (x4_8 : Int) (u9 : uS) =>
      xbd (f_X3_weigh k1 k2 x4_8 u9) fun _ u11 =>
      some (0, u11)
      ) fun j7 =>
  xl4 (s_X3_locate_25 k1 j7 k2) FU 0 x5_6 1 u5
def s_X3_insert_7 (j2 : Int → uS → Option (Int × uS)) (x2 : Int) (go11 : Int → Int → uS → Option (Int × uS)) (x3_12 : Int) (x4_13 : Int) (u14 : uS) : Option (Int × uS) :=
  xgd (InR x4_13) <|
  if x4_13 < 0 then
    j2 x3_12 u14
  else
    xgd (InR x4_13) <|
    if 59 ≤ x4_13 then
      j2 x3_12 u14
    else
      xgd ((0 ≤ x4_13 ∧ x4_13 < 60)) <|
      xgd (InR (u14 32 x4_13) ∧ InR x2) <|
      if x2 < u14 32 x4_13 then
        xgd ((0 ≤ x4_13 ∧ x4_13 < 60)) <|
        xgd ((0 ≤ (x4_13 + 1) ∧ (x4_13 + 1) < 60)) <|
        xlet (up u14 32 (x4_13 + 1) (u14 32 x4_13)) fun u24 =>
        go11 x4_13 (x4_13 + (-1)) u24
      else
        j2 x3_12 u14
def f_X3_insert (x1 : Int) (x2 : Int) (u : uS) : Option (Int × uS) :=
  xlet ((x1 - 1)) fun x4_1 =>
  xlet (fun (x3_3 : Int) (u4 : uS) =>
      xgd (InR x3_3) <|
      if x3_3 < 0 then
        some (0, u4)
      else
        xgd (InR x3_3) <|
        if 60 ≤ x3_3 then
          some (0, u4)
        else
          xgd ((0 ≤ x3_3 ∧ x3_3 < 60)) <|
          xlet (up u4 32 x3_3 x2) fun u10 =>
          some (0, u10)
      ) fun j2 =>
  xl3 (s_X3_insert_7 j2 x2) FU x1 x4_1 u
def f_X3_magnitudeOfPick (k1 : Nat) (k2 : Nat) (x3 : Int) (u : uS) : Option (Int × uS) :=
  xgd ((k1 < NN ∧ sT k1 = 9) ∧ (k2 < NN ∧ sT k2 = 11)) <|
  xgd (InR x3) <|
  if x3 < 0 then
    some ((-1), u)
  else
    xgd (InR x3) <|
    if x3 < 60 then
      xgd ((0 ≤ x3 ∧ x3 < 60)) <|
      xbd (f_X5_distanceFromNode k1 (u 30 1) (u (k2 + 8) x3) u) fun v7 u8 =>
      xgd ((0 ≤ x3 ∧ x3 < 60)) <|
      xbd (f_X6_magnitudeOf (k1 + 2) (u8 (k2 + 10) x3 + (u8 k1 9 * v7)) u8) fun v10 u11 =>
      some (v10, u11)
    else
      some ((-1), u)
def s_X3_magnitude_2 (j2 : uS → Option (Int × uS)) (k1 : Nat) (k2 : Nat) (go11 : Int → uS → Option (Int × uS)) (x3_12 : Int) (u13 : uS) : Option (Int × uS) :=
  xgd (InR x3_12 ∧ InR (u13 30 0)) <|
  if u13 30 0 ≤ x3_12 then
    j2 u13
  else
    xgd (InR x3_12) <|
    if 60 ≤ x3_12 then
      j2 u13
    else
      xgd ((0 ≤ x3_12 ∧ x3_12 < 60)) <|
      xbd (f_X3_magnitudeOfPick k1 k2 (u13 31 x3_12) u13) fun v19 u20 =>
      xbd (f_X3_insert x3_12 v19 u20) fun _ u22 =>
      go11 (x3_12 + 1) u22
def f_X3_magnitude (k1 : Nat) (k2 : Nat) (u : uS) : Option (Int × uS) :=
  xgd ((k1 < NN ∧ sT k1 = 9) ∧ (k2 < NN ∧ sT k2 = 11)) <|
  xlet (fun (u3 : uS) =>
      xgd (InR (u3 30 0 - 1)) <|
      xlet ((Int.tdiv (u3 30 0 - 1) 2)) fun x3_5 =>
      xgd (InR (u3 30 0)) <|
      if u3 30 0 ≤ 0 then
        some ((-1), u3)
      else
        xgd (InR x3_5) <|
        if 60 ≤ x3_5 then
          some ((-1), u3)
        else
          xgd ((0 ≤ x3_5 ∧ x3_5 < 60)) <|
          some (u3 32 x3_5, u3)
      ) fun j2 =>
  xl2 (s_X3_magnitude_2 j2 k1 k2) FU 0 u
def s_X4_forget_7 (go2 : Int → uS → Option (Int × uS)) (x1_3 : Int) (u4 : uS) : Option (Int × uS) :=
  xgd (InR x1_3) <|
  if 2 ≤ x1_3 then
    some (0, u4)
  else
    xgd ((0 ≤ x1_3 ∧ x1_3 < 2)) <|
    xlet (up u4 36 x1_3 0) fun u8 =>
    go2 (x1_3 + 1) u8
def f_X4_forget (u : uS) : Option (Int × uS) :=
  xlet (up u 33 4 0) fun u1 =>
  xl2 (s_X4_forget_7) FU 0 u1
def f_X4_remember (k1 : Nat) (u : uS) : Option (Int × uS) :=
  xgd (k1 < NN ∧ sT k1 = 11) <|
  xgd ((0 ≤ u 33 3 ∧ u 33 3 < 10)) <|
  xlet (84 + 15 * (u 33 3).toNat) fun n3 =>
  xgd (n3 < NN ∧ sT n3 = 11) <|
  xbd (f_X7_copyFrom n3 k1 u) fun _ u6 =>
  xgd (InR (u6 33 3 + 1)) <|
  xlet (up u6 33 3 (Int.tmod (u6 33 3 + 1) 10)) fun u8 =>
  xgd (InR (u8 33 4 + 1)) <|
  xlet (up u8 33 4 (minI (u8 33 4 + 1) 10)) fun u10 =>
  some (0, u10)
def s_X9_appendWord_3 (x1 : Int) (go1 : Int → uS → Option (Int × uS)) (x2_2 : Int) (u3 : uS) : Option (Int × uS) :=
  xgd (InR x2_2) <|
  if x2_2 < 0 then
    some (0, u3)
  else
    xgd (InR (u3 0 1)) <|
    if 500 ≤ u3 0 1 then
      go1 (x2_2 + (-8)) u3
    else
      xgd (InR x1 ∧ (0 ≤ x2_2 ∧ x2_2 < 32)) <|
      xgd ((0 ≤ u3 0 1 ∧ u3 0 1 < 500)) <|
      xlet (up u3 1 (u3 0 1) ((shrI x1 x2_2) % 256)) fun u10 =>
      xlet (up u10 0 1 (u10 0 1 + 1)) fun u11 =>
      go1 (x2_2 + (-8)) u11
def f_X9_appendWord (x1 : Int) (u : uS) : Option (Int × uS) :=
  xl2 (s_X9_appendWord_3 x1) FU 24 u
def f_X9_append (x1 : Int) (x2 : Int) (x3 : Int) (x4 : Int) (x5 : Int) (u : uS) : Option (Int × uS) :=
  xgd (InR (u 0 1 + 20)) <|
  if (u 0 1 + 20) ≤ 500 then
    xbd (f_X9_appendWord x1 u) fun _ u4 =>
    xbd (f_X9_appendWord x2 u4) fun _ u6 =>
    xbd (f_X9_appendWord x3 u6) fun _ u8 =>
    xbd (f_X9_appendWord x4 u8) fun _ u10 =>
    xbd (f_X9_appendWord x5 u10) fun _ u12 =>
    some (u12 0 1, u12)
  else
    some ((-1), u)
def f_X9_size (x1 : Int) (u : uS) : Option (Nat × Int × uS) :=
  xgd (InR x1) <|
  if x1 < 0 ∨ 5 < x1 then
    some (2, 0, u)
  else if x1 = 0 then
    xlet (u 0 4).toNat fun n4 =>
    xgd (n4 < NN ∧ sT n4 = 9) <|
    some (0, u n4 10, u)
  else if x1 = 1 then
    xlet (u 0 4).toNat fun n7 =>
    xgd (n7 < NN ∧ sT n7 = 9) <|
    xbd (f_X2_nodeCount (n7 + 1) u) fun v9 u10 =>
    some (0, v9, u10)
  else if x1 = 2 then
    xlet (u 0 4).toNat fun n12 =>
    xgd (n12 < NN ∧ sT n12 = 9) <|
    some (0, u (n12 + 2) 0, u)
  else if x1 = 3 then
    some (0, u 54 1, u)
  else if x1 = 4 then
    some (0, u 54 2, u)
  else if x1 = 5 then
    xbd (f_X7_standingEvents 54 u) fun v17 u18 =>
    some (0, v17, u18)
  else none
def f_X9_tick (u : uS) : Option (Int × uS) :=
  some (u 54 0, u)
def f_X9_needStation (x1 : Int) (u : uS) : Option (Nat × Int × uS) :=
  xgd (InR x1) <|
  xlet (fun (u3 : uS) =>
      some (1, 0, u3)
      ) fun j2 =>
  if x1 < 0 then
    j2 u
  else
    xlet (u 0 4).toNat fun n5 =>
    xgd (n5 < NN ∧ sT n5 = 9) <|
    xgd (InR x1 ∧ InR (u n5 10)) <|
    if x1 < u n5 10 then
      some (0, 0, u)
    else
      j2 u
def f_X9_between (x1 : Int) (x2 : Int) (u : uS) : Option (Nat × Int × uS) :=
  xbt (f_X9_needStation x1 u) (x := fun g9 u9 => some (g9, 0, u9)) fun _ u2 =>
  xbt (f_X9_needStation x2 u2) (x := fun g9 u9 => some (g9, 0, u9)) fun _ u5 =>
  xlet (u5 0 4).toNat fun n7 =>
  xgd (n7 < NN ∧ sT n7 = 9) <|
  xbd (f_X5_travelOfStations n7 x1 x2 u5) fun v9 u10 =>
  some (0, v9, u10)
def f_X9_needNode (x1 : Int) (u : uS) : Option (Nat × Int × uS) :=
  xgd (InR x1) <|
  xlet (fun (u3 : uS) =>
      some (1, 0, u3)
      ) fun j2 =>
  if x1 < 0 then
    j2 u
  else
    xlet (u 0 4).toNat fun n5 =>
    xgd (n5 < NN ∧ sT n5 = 9) <|
    xbd (f_X2_nodeCount (n5 + 1) u) fun v7 u8 =>
    xgd (InR x1 ∧ InR v7) <|
    if x1 < v7 then
      some (0, 0, u8)
    else
      j2 u8
def f_X9_travel (x1 : Int) (x2 : Int) (u : uS) : Option (Nat × Int × uS) :=
  xbt (f_X9_needNode x1 u) (x := fun g9 u9 => some (g9, 0, u9)) fun _ u2 =>
  xbt (f_X9_needStation x2 u2) (x := fun g9 u9 => some (g9, 0, u9)) fun _ u5 =>
  xlet (u5 0 4).toNat fun n7 =>
  xgd (n7 < NN ∧ sT n7 = 9) <|
  xbd (f_X5_travelFromNode n7 x1 x2 u5) fun v9 u10 =>
  some (0, v9, u10)
def f_X9_ladder (x1 : Int) (u : uS) : Option (Nat × Int × uS) :=
  xgd (InR x1) <|
  xlet (fun (u3 : uS) =>
      some (2, 0, u3)
      ) fun j2 =>
  if x1 < 0 then
    j2 u
  else
    xgd (InR x1) <|
    if x1 ≤ 99999 then
      xlet (u 0 4).toNat fun n7 =>
      xgd (n7 < NN ∧ sT n7 = 9) <|
      xbd (f_X6_magnitudeOf (n7 + 2) x1 u) fun v9 u10 =>
      some (0, v9, u10)
    else
      j2 u
def f_X9_station (x1 : Int) (x2 : Int) (u : uS) : Option (Nat × Int × uS) :=
  xbt (f_X9_needStation x1 u) (x := fun g9 u9 => some (g9, 0, u9)) fun _ u2 =>
  xgd (InR x2) <|
  if x2 < 0 ∨ 7 < x2 then
    some (2, 0, u2)
  else if x2 = 0 then
    xlet (u2 0 4).toNat fun n7 =>
    xgd (n7 < NN ∧ sT n7 = 9) <|
    xgd ((0 ≤ x1 ∧ x1 < 8)) <|
    some (0, u2 (n7 + 5) x1, u2)
  else if x2 = 1 then
    xlet (u2 0 4).toNat fun n11 =>
    xgd (n11 < NN ∧ sT n11 = 9) <|
    xgd ((0 ≤ x1 ∧ x1 < 8)) <|
    some (0, u2 (n11 + 6) x1, u2)
  else if x2 = 2 then
    xgd ((0 ≤ x1 ∧ x1 < 8)) <|
    some (0, u2 55 x1, u2)
  else if x2 = 3 then
    xgd ((0 ≤ x1 ∧ x1 < 8)) <|
    some (0, u2 57 x1, u2)
  else if x2 = 4 then
    xgd ((0 ≤ x1 ∧ x1 < 8)) <|
    some (0, u2 58 x1, u2)
  else if x2 = 5 then
    xlet (u2 0 4).toNat fun n21 =>
    xgd (n21 < NN ∧ sT n21 = 9) <|
    xgd ((0 ≤ x1 ∧ x1 < 8)) <|
    xgd ((0 ≤ x1 ∧ x1 < 8)) <|
    xbd (f_X5_ratioOf n21 (u2 57 x1) (u2 58 x1) u2) fun v25 u26 =>
    some (0, v25, u26)
  else if x2 = 6 then
    xgd ((0 ≤ x1 ∧ x1 < 8)) <|
    some (0, u2 59 x1, u2)
  else if x2 = 7 then
    xgd ((0 ≤ x1 ∧ x1 < 8)) <|
    some (0, u2 60 x1, u2)
  else none
def f_X9_triggered (u : uS) : Option (Int × uS) :=
  xbd (f_X7_triggeredStations 54 u) fun v1 u2 =>
  some (v1, u2)
def f_X9_needPick (x1 : Int) (u : uS) : Option (Nat × Int × uS) :=
  xgd (InR x1) <|
  xlet (fun (u3 : uS) =>
      some (1, 0, u3)
      ) fun j2 =>
  if x1 < 0 then
    j2 u
  else
    xgd (InR x1 ∧ InR (u 54 1)) <|
    if x1 < u 54 1 then
      some (0, 0, u)
    else
      j2 u
def f_X9_pick (x1 : Int) (x2 : Int) (u : uS) : Option (Nat × Int × uS) :=
  xbt (f_X9_needPick x1 u) (x := fun g9 u9 => some (g9, 0, u9)) fun _ u2 =>
  xgd (InR x2) <|
  if x2 < 0 ∨ 4 < x2 then
    some (2, 0, u2)
  else if x2 = 0 then
    xgd ((0 ≤ x1 ∧ x1 < 60)) <|
    some (0, u2 62 x1, u2)
  else if x2 = 1 then
    xgd ((0 ≤ x1 ∧ x1 < 60)) <|
    some (0, u2 63 x1, u2)
  else if x2 = 2 then
    xgd ((0 ≤ x1 ∧ x1 < 60)) <|
    some (0, u2 64 x1, u2)
  else if x2 = 3 then
    xgd ((0 ≤ x1 ∧ x1 < 60)) <|
    some (0, u2 65 x1, u2)
  else if x2 = 4 then
    xgd ((0 ≤ x1 ∧ x1 < 60)) <|
    some (0, u2 66 x1, u2)
  else none
def f_X9_fits (x1 : Int) (x2 : Int) (u : uS) : Option (Nat × Int × uS) :=
  xbt (f_X9_needPick x1 u) (x := fun g9 u9 => some (g9, 0, u9)) fun _ u2 =>
  xbt (f_X9_needPick x2 u2) (x := fun g9 u9 => some (g9, 0, u9)) fun _ u5 =>
  xlet (u5 0 4).toNat fun n7 =>
  xgd (n7 < NN ∧ sT n7 = 9) <|
  xbd (f_X7_picksFit 54 n7 x1 x2 u5) fun v9 u10 =>
  xgd ((v9 = 0 ∨ v9 = 1)) <|
  some (0, v9, u10)
def f_X9_located (x1 : Int) (x2 : Int) (u : uS) : Option (Int × uS) :=
  xlet (u 0 4).toNat fun n1 =>
  xgd (n1 < NN ∧ sT n1 = 9) <|
  xbd (f_X3_locate n1 54 x1 u) fun _ u4 =>
  xgd (InR x2) <|
  if x2 < 3 ∨ 5 < x2 then
    xlet (u4 0 4).toNat fun n7 =>
    xgd (n7 < NN ∧ sT n7 = 9) <|
    xbd (f_X3_magnitude n7 54 u4) fun v9 u10 =>
    some (v9, u10)
  else if x2 = 3 then
    some (u4 30 1, u4)
  else if x2 = 4 then
    some (u4 30 2, u4)
  else if x2 = 5 then
    some (u4 30 3, u4)
  else none
def f_X9_needEvent (x1 : Int) (u : uS) : Option (Nat × Int × uS) :=
  xgd (InR x1) <|
  xlet (fun (u3 : uS) =>
      some (1, 0, u3)
      ) fun j2 =>
  if x1 < 0 then
    j2 u
  else
    xgd (InR x1 ∧ InR (u 54 2)) <|
    if x1 < u 54 2 then
      some (0, 0, u)
    else
      j2 u
def f_X9_event (x1 : Int) (x2 : Int) (u : uS) : Option (Nat × Int × uS) :=
  xbt (f_X9_needEvent x1 u) (x := fun g9 u9 => some (g9, 0, u9)) fun _ u2 =>
  xgd (InR x2) <|
  if x2 < 0 ∨ 6 < x2 then
    some (2, 0, u2)
  else if x2 = 0 then
    xgd ((0 ≤ x1 ∧ x1 < 20)) <|
    some (0, u2 68 x1, u2)
  else if x2 = 1 then
    xbd (f_X7_picksOf 54 x1 u2) fun v9 u10 =>
    some (0, v9, u10)
  else if x2 = 2 then
    xgd ((0 ≤ x1 ∧ x1 < 20)) <|
    some (0, u2 67 x1, u2)
  else if x2 = 3 then
    xgd ((0 ≤ x1 ∧ x1 < 20)) <|
    xgd (InR (u2 68 x1)) <|
    if u2 68 x1 = 1 then
      some (0, (-1), u2)
    else
      xbd (f_X9_located x1 x2 u2) fun v17 u18 =>
      some (0, v17, u18)
  else if x2 = 4 then
    xgd ((0 ≤ x1 ∧ x1 < 20)) <|
    xgd (InR (u2 68 x1)) <|
    if u2 68 x1 = 1 then
      some (0, (-1), u2)
    else
      xbd (f_X9_located x1 x2 u2) fun v23 u24 =>
      some (0, v23, u24)
  else if x2 = 5 then
    xgd ((0 ≤ x1 ∧ x1 < 20)) <|
    xgd (InR (u2 68 x1)) <|
    if u2 68 x1 = 1 then
      some (0, (-1), u2)
    else
      xbd (f_X9_located x1 x2 u2) fun v29 u30 =>
      some (0, v29, u30)
  else if x2 = 6 then
    xgd ((0 ≤ x1 ∧ x1 < 20)) <|
    xgd (InR (u2 68 x1)) <|
    if u2 68 x1 = 1 then
      some (0, (-1), u2)
    else
      xbd (f_X9_located x1 x2 u2) fun v35 u36 =>
      some (0, v35, u36)
  else none
def f_X9_needStanding (x1 : Int) (u : uS) : Option (Nat × Int × uS) :=
  xgd ((0 ≤ x1 ∧ x1 < 20)) <|
  xgd (InR (u 68 x1)) <|
  if u 68 x1 = 1 then
    some (3, 0, u)
  else
    some (0, 0, u)
def f_X9_misfit (x1 : Int) (x2 : Int) (u : uS) : Option (Nat × Int × uS) :=
  xbt (f_X9_needNode x1 u) (x := fun g9 u9 => some (g9, 0, u9)) fun _ u2 =>
  xbt (f_X9_needEvent x2 u2) (x := fun g9 u9 => some (g9, 0, u9)) fun _ u5 =>
  xbt (f_X9_needStanding x2 u5) (x := fun g9 u9 => some (g9, 0, u9)) fun _ u8 =>
  xbd (f_X3_gather 54 x2 u8) fun _ u11 =>
  xlet (u11 0 4).toNat fun n12 =>
  xgd (n12 < NN ∧ sT n12 = 9) <|
  xbd (f_X3_weigh n12 54 x1 u11) fun _ u15 =>
  some (0, u15 30 3, u15)
def f_X9_needLevel (x1 : Int) (u : uS) : Option (Nat × Int × uS) :=
  xgd (InR x1) <|
  xlet (fun (u3 : uS) =>
      some (2, 0, u3)
      ) fun j2 =>
  if x1 < 0 then
    j2 u
  else
    xgd (InR x1) <|
    if x1 ≤ 9999 then
      some (0, 0, u)
    else
      j2 u
def f_X9_setLevel (x1 : Int) (x2 : Int) (u : uS) : Option (Nat × Int × uS) :=
  xbt (f_X9_needStation x1 u) (x := fun g9 u9 => some (g9, 0, u9)) fun _ u2 =>
  xbt (f_X9_needLevel x2 u2) (x := fun g9 u9 => some (g9, 0, u9)) fun _ u5 =>
  xbd (f_X4_remember 54 u5) fun _ u8 =>
  xgd ((0 ≤ x1 ∧ x1 < 8)) <|
  xlet (u8 55 x1) fun x3_10 =>
  xgd ((0 ≤ x1 ∧ x1 < 8)) <|
  xlet (up u8 55 x1 x2) fun u12 =>
  some (0, x3_10, u12)
def f_X9_needTicks (x1 : Int) (x2 : Int) (u : uS) : Option (Nat × Int × uS) :=
  xgd (InR x2 ∧ InR x1) <|
  xlet (fun (u3 : uS) =>
      some (2, 0, u3)
      ) fun j2 =>
  if x2 < x1 then
    j2 u
  else
    xgd (InR x2) <|
    if x2 ≤ 200 then
      some (0, 0, u)
    else
      j2 u
def s_X9_pass_53 (x1 : Int) (j9 : uS → Option (Nat × Int × uS)) (go11 : Int → uS → Option (Nat × Int × uS)) (x3_12 : Int) (u13 : uS) : Option (Nat × Int × uS) :=
  xgd (InR x3_12 ∧ InR x1) <|
  if x1 ≤ x3_12 then
    j9 u13
  else
    xlet (u13 0 4).toNat fun n16 =>
    xgd (n16 < NN ∧ sT n16 = 9) <|
    xbd (f_X0_doTick n16 54 u13) fun _ u19 =>
    go11 (x3_12 + 1) u19
def f_X9_pass (x1 : Int) (u : uS) : Option (Nat × Int × uS) :=
  xbt (f_X9_needTicks 1 x1 u) (x := fun g9 u9 => some (g9, 0, u9)) fun _ u2 =>
  xgd (InR (u2 54 0 + x1)) <|
  if (u2 54 0 + x1) ≤ 9999 then
    xbd (f_X4_remember 54 u2) fun _ u7 =>
    xlet (u7 54 1) fun x2_8 =>
    xlet (fun (u10 : uS) =>
        some (0, (u10 54 1 - x2_8), u10)
        ) fun j9 =>
    xl2 (s_X9_pass_53 x1 j9) FU 0 u7
  else
    some (3, 0, u2)
def f_X9_needMuted (x1 : Int) (x2 : Int) (u : uS) : Option (Nat × Int × uS) :=
  xgd ((0 ≤ x1 ∧ x1 < 8)) <|
  xgd (InR (u 60 x1) ∧ InR x2) <|
  if u 60 x1 = x2 then
    some (0, 0, u)
  else
    some (3, 0, u)
def f_X9_mute (x1 : Int) (u : uS) : Option (Nat × Int × uS) :=
  xbt (f_X9_needStation x1 u) (x := fun g9 u9 => some (g9, 0, u9)) fun _ u2 =>
  xbt (f_X9_needMuted x1 0 u2) (x := fun g9 u9 => some (g9, 0, u9)) fun _ u5 =>
  xbd (f_X4_remember 54 u5) fun _ u8 =>
  xlet (u8 0 4).toNat fun n9 =>
  xgd (n9 < NN ∧ sT n9 = 9) <|
  xbd (f_X7_silence 54 n9 x1 u8) fun v11 u12 =>
  some (0, v11, u12)
def f_X9_unmute (x1 : Int) (u : uS) : Option (Nat × Int × uS) :=
  xbt (f_X9_needStation x1 u) (x := fun g9 u9 => some (g9, 0, u9)) fun _ u2 =>
  xbt (f_X9_needMuted x1 1 u2) (x := fun g9 u9 => some (g9, 0, u9)) fun _ u5 =>
  xbd (f_X4_remember 54 u5) fun _ u8 =>
  xgd ((0 ≤ x1 ∧ x1 < 8)) <|
  xlet (up u8 60 x1 0) fun u10 =>
  xlet (u10 0 4).toNat fun n11 =>
  xgd (n11 < NN ∧ sT n11 = 9) <|
  xgd ((0 ≤ x1 ∧ x1 < 8)) <|
  xgd ((0 ≤ x1 ∧ x1 < 8)) <|
  xbd (f_X5_ratioOf n11 (u10 57 x1) (u10 58 x1) u10) fun v15 u16 =>
  some (0, v15, u16)
def f_X9_retract (x1 : Int) (u : uS) : Option (Nat × Int × uS) :=
  xbt (f_X9_needEvent x1 u) (x := fun g9 u9 => some (g9, 0, u9)) fun _ u2 =>
  xbt (f_X9_needStanding x1 u2) (x := fun g9 u9 => some (g9, 0, u9)) fun _ u5 =>
  xbd (f_X4_remember 54 u5) fun _ u8 =>
  xbd (f_X7_picksOf 54 x1 u8) fun v9 u10 =>
  xbd (f_X7_withdraw 54 x1 u10) fun _ u12 =>
  some (0, v9, u12)
def s_J7_fill_53178_5 (x3_2 : Int) (k0 : Nat) (x1 : Int) (go3 : Int → uS → Option (Int × uS)) (x2_4 : Int) (u5 : uS) : Option (Int × uS) :=
  xgd (InR x2_4 ∧ InR x3_2) <|
  if x3_2 ≤ x2_4 then
    some (0, u5)
  else
    xgd ((0 ≤ x2_4 ∧ x2_4 < (sN k0 : Int))) <|
    xlet (up u5 k0 x2_4 x1) fun u9 =>
    go3 (x2_4 + 1) u9
def f_J7_fill_53178 (k0 : Nat) (x1 : Int) (u : uS) : Option (Int × uS) :=
  xgd (k0 < NN ∧ sT k0 = 100) <|
  xlet ((sN k0 : Int)) fun x3_2 =>
  xl2 (s_J7_fill_53178_5 x3_2 k0 x1) FU 0 u
def f_X1_wordOf (x0 : Int) (u : uS) : Option (Int × uS) :=
  xgd (InR x0) <|
  if x0 < 0 ∨ 7 < x0 then
    some ((2008 : Int), u)
  else if x0 = 0 then
    some ((2000 : Int), u)
  else if x0 = 1 then
    some ((2001 : Int), u)
  else if x0 = 2 then
    some ((2002 : Int), u)
  else if x0 = 3 then
    some ((2003 : Int), u)
  else if x0 = 4 then
    some ((2004 : Int), u)
  else if x0 = 5 then
    some ((2005 : Int), u)
  else if x0 = 6 then
    some ((2006 : Int), u)
  else if x0 = 7 then
    some ((2007 : Int), u)
  else none
def s_X8_spells_30 (k3 : Nat) (x1 : Int) (k2 : Nat) (go11 : Int → uS → Option (Int × uS)) (x4_12 : Int) (u13 : uS) : Option (Int × uS) :=
  xbd (f_J0_length_8abf5 k3 u13) fun v14 u15 =>
  xgd (InR x4_12 ∧ InR v14) <|
  if v14 ≤ x4_12 then
    some (1, u15)
  else
    xgd ((0 ≤ x1 ∧ x1 < 500)) <|
    xlet ((u15 5 x1 + x4_12)) fun x5_19 =>
    xgd (InR x5_19) <|
    if x5_19 < 0 then
      some (0, u15)
    else
      xgd (InR x5_19 ∧ InR (sN k2 : Int)) <|
      if (sN k2 : Int) ≤ x5_19 then
        some (0, u15)
      else
        xgd ((0 ≤ x5_19 ∧ x5_19 < (sN k2 : Int))) <|
        xbd (f_J0_charAt_5068e k3 x4_12 u15) fun v25 u26 =>
        xgd (InR (u15 k2 x5_19) ∧ InR v25) <|
        if u15 k2 x5_19 = v25 then
          go11 (x4_12 + 1) u26
        else
          some (0, u26)
def f_X8_spells (x1 : Int) (k2 : Nat) (k3 : Nat) (u : uS) : Option (Int × uS) :=
  xgd ((k2 < NN ∧ sT k2 = 100) ∧ (2000 ≤ k3 ∧ k3 < 2020)) <|
  xgd (InR x1) <|
  if x1 < 0 then
    some (0, u)
  else
    xgd (InR x1 ∧ InR (u 3 0)) <|
    if u 3 0 ≤ x1 then
      some (0, u)
    else
      xgd ((0 ≤ x1 ∧ x1 < 500)) <|
      xbd (f_J0_length_8abf5 k3 u) fun v7 u8 =>
      xgd (InR (u 6 x1) ∧ InR v7) <|
      if u 6 x1 = v7 then
        xl2 (s_X8_spells_30 k3 x1 k2) FU 0 u8
      else
        some (0, u8)
def s_X1_sortOf_2 (x1 : Int) (k2 : Nat) (go2 : Int → uS → Option (Int × uS)) (x3_3 : Int) (u4 : uS) : Option (Int × uS) :=
  xgd (InR x3_3) <|
  if 9 ≤ x3_3 then
    some ((-1), u4)
  else
    xbd (f_X1_wordOf x3_3 u4) fun v7 u8 =>
    xgd (2000 ≤ v7.toNat ∧ v7.toNat < 2020) <|
    xbd (f_X8_spells x1 k2 v7.toNat u8) fun v10 u11 =>
    xgd (InR v10) <|
    if v10 = 0 then
      go2 (x3_3 + 1) u11
    else
      some (x3_3, u11)
def f_X1_sortOf (x1 : Int) (k2 : Nat) (u : uS) : Option (Int × uS) :=
  xgd (k2 < NN ∧ sT k2 = 100) <|
  xl2 (s_X1_sortOf_2 x1 k2) FU 0 u
def f_X1_begin (x1 : Int) (k2 : Nat) (u : uS) : Option (Int × uS) :=
  xgd (k2 < NN ∧ sT k2 = 100) <|
  xgd ((0 ≤ x1 ∧ x1 < 500)) <|
  xgd (InR (u 4 x1)) <|
  xlet (fun (s5 : Int) (u6 : uS) =>
      xgd (InR s5) <|
      if s5 = (-1) then
        some (1, u6)
      else
        xgd ((0 ≤ s5 ∧ s5 < 9)) <|
        xgd ((0 ≤ s5 ∧ s5 < 9)) <|
        xgd (InR (u6 8 s5) ∧ InR (gL_MOST.getD s5.toNat 0)) <|
        if u6 8 s5 < (gL_MOST.getD s5.toNat 0) then
          xgd ((0 ≤ s5 ∧ s5 < 9)) <|
          xgd ((0 ≤ s5 ∧ s5 < 9)) <|
          xlet (up u6 8 s5 (u6 8 s5 + 1)) fun u15 =>
          xlet (up u15 2 4 s5) fun u16 =>
          xlet (up u16 2 5 0) fun u17 =>
          some (0, u17)
        else
          xgd ((0 ≤ s5 ∧ s5 < 9)) <|
          xgd (InR (gL_MOST.getD s5.toNat 0)) <|
          if (gL_MOST.getD s5.toNat 0) = 1 then
            some (2, u6)
          else
            some (4, u6)
      ) fun j4 =>
  if u 4 x1 = 1 then
    xbd (f_X1_sortOf x1 k2 u) fun v22 u23 =>
    j4 v22 u23
  else
    j4 (-1) u
def f_X1_finish (k1 : Nat) (u : uS) : Option (Int × uS) :=
  xgd (k1 < NN ∧ sT k1 = 9) <|
  xgd (InR (u 2 4)) <|
  xlet (fun (u4 : uS) =>
      xlet (up u4 2 4 (-1)) fun u5 =>
      some (0, u5)
      ) fun j3 =>
  if u 2 4 < 0 ∨ 7 < u 2 4 then
    xlet (up u k1 9 (u 9 0)) fun u7 =>
    j3 u7
  else if u 2 4 = 0 then
    xbd (f_X5_putStation k1 (u 9 0) (u 9 1) u) fun _ u10 =>
    j3 u10
  else if u 2 4 = 1 then
    xbd (f_X2_place (k1 + 1) (u 9 0) (u 9 1) (u 9 2) (u 9 3) (u 9 4) u) fun _ u13 =>
    j3 u13
  else if u 2 4 = 2 then
    xlet (up u k1 2 (u 9 0)) fun u15 =>
    j3 u15
  else if u 2 4 = 3 then
    xlet (up u k1 3 (u 9 0)) fun u17 =>
    xlet (up u17 k1 4 (u17 9 1)) fun u18 =>
    j3 u18
  else if u 2 4 = 4 then
    xlet (up u k1 5 (u 9 0)) fun u20 =>
    xlet (up u20 k1 6 (u20 9 1)) fun u21 =>
    j3 u21
  else if u 2 4 = 5 then
    xlet (up u k1 7 (u 9 0)) fun u23 =>
    j3 u23
  else if u 2 4 = 6 then
    xlet (up u k1 8 (u 9 0)) fun u25 =>
    j3 u25
  else if u 2 4 = 7 then
    xbd (f_X6_put (k1 + 2) (u 9 0) (u 9 1) u) fun _ u28 =>
    j3 u28
  else none
def f_X1_highest (u : uS) : Option (Int × uS) :=
  xgd (InR (u 2 4)) <|
  xlet (fun (u3 : uS) =>
      xgd ((0 ≤ ((u3 2 4 * 5) + u3 2 5) ∧ ((u3 2 4 * 5) + u3 2 5) < 45)) <|
      some ((gL_HIGHEST.getD ((u3 2 4 * 5) + u3 2 5).toNat 0), u3)
      ) fun j2 =>
  if u 2 4 = 4 then
    xgd (InR (u 2 5)) <|
    if u 2 5 = 1 then
      some (u 9 0, u)
    else
      j2 u
  else
    j2 u
def f_X1_lowest (k1 : Nat) (u : uS) : Option (Int × uS) :=
  xgd (k1 < NN ∧ sT k1 = 9) <|
  xgd (InR (u 2 4)) <|
  xlet (fun (u4 : uS) =>
      xgd (InR (u4 2 4)) <|
      if u4 2 4 = 7 then
        xgd (InR (u4 2 5)) <|
        if u4 2 5 = 0 then
          xbd (f_X6_lowestNextAmplitude (k1 + 2) u4) fun v12 u13 =>
          some (v12, u13)
        else
          xbd (f_X6_lowestNextMagnitude (k1 + 2) u4) fun v10 u11 =>
          some (v10, u11)
      else
        xgd ((0 ≤ ((u4 2 4 * 5) + u4 2 5) ∧ ((u4 2 4 * 5) + u4 2 5) < 45)) <|
        some ((gL_LOWEST.getD ((u4 2 4 * 5) + u4 2 5).toNat 0), u4)
      ) fun j3 =>
  if u 2 4 = 3 then
    xgd (InR (u 2 5)) <|
    if u 2 5 = 1 then
      some (u 9 0, u)
    else
      j3 u
  else
    j3 u
def f_X1_takeItem (x1 : Int) (k2 : Nat) (u : uS) : Option (Int × uS) :=
  xgd (k2 < NN ∧ sT k2 = 9) <|
  xgd ((0 ≤ x1 ∧ x1 < 500)) <|
  xgd (InR (u 4 x1)) <|
  if u 4 x1 = 2 then
    xgd ((0 ≤ x1 ∧ x1 < 500)) <|
    xlet (u 7 x1) fun x3_6 =>
    xbd (f_X1_lowest k2 u) fun v7 u8 =>
    xgd (InR x3_6 ∧ InR v7) <|
    if x3_6 < v7 then
      some (3, u8)
    else
      xbd (f_X1_highest u8) fun v11 u12 =>
      xgd (InR x3_6 ∧ InR v11) <|
      if x3_6 ≤ v11 then
        xgd ((0 ≤ u12 2 5 ∧ u12 2 5 < 5)) <|
        xlet (up u12 9 (u12 2 5) x3_6) fun u16 =>
        xlet (up u16 2 5 (u16 2 5 + 1)) fun u17 =>
        some (0, u17)
      else
        some (3, u12)
  else
    some (1, u)
def f_X1_take (x1 : Int) (k2 : Nat) (k3 : Nat) (u : uS) : Option (Int × uS) :=
  xgd ((k2 < NN ∧ sT k2 = 100) ∧ (k3 < NN ∧ sT k3 = 9)) <|
  xgd (InR (u 2 4)) <|
  xlet (fun (u4 : uS) =>
      xbd (f_X1_begin x1 k2 u4) fun v5 u6 =>
      some (v5, u6)
      ) fun j3 =>
  if u 2 4 < 0 then
    j3 u
  else
    xgd (InR (u 2 4)) <|
    if u 2 4 < 9 then
      xgd ((0 ≤ u 2 4 ∧ u 2 4 < 9)) <|
      xgd (InR (u 2 5) ∧ InR (gL_ITEMS.getD (u 2 4).toNat 0)) <|
      xlet (fun (u13 : uS) =>
          xgd ((0 ≤ x1 ∧ x1 < 500)) <|
          xgd (InR (u13 4 x1)) <|
          if u13 4 x1 = 3 then
            xbd (f_X1_finish k3 u13) fun _ u18 =>
            some (0, u18)
          else
            some (1, u13)
          ) fun j12 =>
      if (gL_ITEMS.getD (u 2 4).toNat 0) ≤ u 2 5 then
        j12 u
      else
        xgd (InR (u 2 5)) <|
        if 5 ≤ u 2 5 then
          j12 u
        else
          xbd (f_X1_takeItem x1 k3 u) fun v22 u23 =>
          some (v22, u23)
    else
      j3 u
def s_X1_read_29 (j9 : uS → Option (Int × uS)) (k1 : Nat) (k3 : Nat) (j17 : Int → Int → uS → Option (Int × uS)) (go23 : Int → uS → Option (Int × uS)) (x4_24 : Int) (u25 : uS) : Option (Int × uS) :=
  xgd (InR x4_24 ∧ InR (u25 3 0)) <|
  if u25 3 0 ≤ x4_24 then
    j9 u25
  else
    xgd (InR x4_24) <|
    if 500 ≤ x4_24 then
      j9 u25
    else
      xbd (f_X1_take x4_24 k1 k3 u25) fun v30 u31 =>
      xgd (InR v30) <|
      if v30 = 0 then
        go23 (x4_24 + 1) u31
      else
        j17 x4_24 v30 u31
def f_X1_read (k1 : Nat) (x2 : Int) (k3 : Nat) (u : uS) : Option (Int × uS) :=
  xgd ((k1 < NN ∧ sT k1 = 100) ∧ (k3 < NN ∧ sT k3 = 9)) <|
  xbd (f_X5_reset k3 u) fun _ u3 =>
  xbd (f_J7_fill_53178 8 0 u3) fun _ u5 =>
  xlet (up u5 2 4 (-1)) fun u6 =>
  xbd (f_X8_split k1 x2 u6) fun _ u8 =>
  xlet (fun (u10 : uS) =>
      xgd (InR (u10 2 4)) <|
      if u10 2 4 = (-1) then
        xlet (up u10 2 0 (-1)) fun u13 =>
        xbd (f_X5_measure k3 u13) fun _ u15 =>
        some (0, u15)
      else
        xlet (up u10 2 0 x2) fun u16 =>
        some (1, u16)
      ) fun j9 =>
  xlet (fun (x4_18 : Int) (x5_19 : Int) (u20 : uS) =>
      xgd ((0 ≤ x4_18 ∧ x4_18 < 500)) <|
      xlet (up u20 2 0 (u20 5 x4_18)) fun u22 =>
      some (x5_19, u22)
      ) fun j17 =>
  xl2 (s_X1_read_29 j9 k1 k3 j17) FU 0 u8
def f_X7_clear (k0 : Nat) (u : uS) : Option (Int × uS) :=
  xgd (k0 < NN ∧ sT k0 = 11) <|
  xlet (up u k0 0 0) fun u2 =>
  xlet (up u2 k0 1 0) fun u3 =>
  xlet (up u3 k0 2 0) fun u4 =>
  xbd (f_J7_fill_53178 (k0 + 1) 0 u4) fun _ u6 =>
  xbd (f_J7_fill_53178 (k0 + 2) 0 u6) fun _ u8 =>
  xbd (f_J7_fill_53178 (k0 + 3) 0 u8) fun _ u10 =>
  xbd (f_J7_fill_53178 (k0 + 4) 0 u10) fun _ u12 =>
  xbd (f_J7_fill_53178 (k0 + 5) 0 u12) fun _ u14 =>
  xbd (f_J7_fill_53178 (k0 + 6) 0 u14) fun _ u16 =>
  xbd (f_J7_fill_53178 (k0 + 7) 0 u16) fun _ u18 =>
  some (0, u18)
def f_X9_adoptSpare (u : uS) : Option (Int × uS) :=
  xlet (u 0 5).toNat fun n1 =>
  xgd (n1 < NN ∧ sT n1 = 9) <|
  xlet (u 0 4).toNat fun n3 =>
  xgd (n3 < NN ∧ sT n3 = 9) <|
  xlet (up u 0 5 (n3 : Int)) fun u5 =>
  xlet (up u5 0 4 (n1 : Int)) fun u6 =>
  xbd (f_X7_clear 54 u6) fun _ u8 =>
  xbd (f_X4_forget u8) fun _ u10 =>
  some (0, u10)
def f_X9_parse (x1 : Int) (u : uS) : Option (Nat × Int × uS) :=
  xgd (InR x1) <|
  xlet (fun (u3 : uS) =>
      some (2, 0, u3)
      ) fun j2 =>
  if x1 < 0 then
    j2 u
  else
    xgd (InR x1 ∧ InR (u 0 1)) <|
    if x1 ≤ u 0 1 then
      xlet (up u 0 1 0) fun u7 =>
      xlet (u7 0 5).toNat fun n8 =>
      xgd (n8 < NN ∧ sT n8 = 9) <|
      xbd (f_X1_read 1 x1 n8 u7) fun v10 u11 =>
      xlet (up u11 0 2 (u11 2 0)) fun u12 =>
      xgd (InR v10) <|
      if v10 = 0 then
        xbd (f_X9_adoptSpare u12) fun _ u16 =>
        some (0, v10, u16)
      else
        some (0, v10, u12)
    else
      j2 u
def f_J5_length_8abf5 (u : uS) : Option (Int × uS) :=
  some (u 37 3, u)
def f_J5_isLatin1_aae02 (u : uS) : Option (Int × uS) :=
  if (1 : Int) = 0 then
    some (0, u)
  else
    xgd (InR (u 37 1)) <|
    if u 37 1 = 0 then
      some (1, u)
    else
      some (0, u)
def f_J1_canEncode_fc78d (x0 : Int) (u : uS) : Option (Int × uS) :=
  xgd (InR x0) <|
  if 255 < x0 then
    some (0, u)
  else
    some (1, u)
def f_J8_newLength_cabcc (x0 : Int) (x1 : Int) (x2 : Int) (u : uS) : Option (Int × uS) :=
  xgd (InR x1 ∧ InR x2) <|
  xlet ((x0 + (maxI x1 x2))) fun x3_2 =>
  xgd (InR x3_2) <|
  xlet (fun (u5 : uS) =>
      none
      ) fun j4 =>
  if x3_2 ≤ 0 then
    j4 u
  else
    xgd (InR x3_2) <|
    if 2147483639 < x3_2 then
      j4 u
    else
      some (x3_2, u)
def f_J5_newCapacity_0f7a4 (x1 : Int) (u : uS) : Option (Int × uS) :=
  xgd (0 ≤ u 1000 1 ∧ u 1000 1 < 2147483648) <|
  xlet (u 1000 1) fun x2_2 =>
  xgd (0 ≤ u 37 1 ∧ u 37 1 < 32) <|
  xlet ((shlI x1 (u 37 1))) fun x3_4 =>
  xlet ((x3_4 - x2_2)) fun x4_5 =>
  xgd (0 ≤ u 37 1 ∧ u 37 1 < 32) <|
  xbd (f_J8_newLength_cabcc x2_2 x4_5 (x2_2 + (shlI 2 (u 37 1))) u) fun v7 u8 =>
  xgd (InR v7) <|
  if v7 = 2147483647 then
    none
  else
    xgd (InR v7 ∧ (0 ≤ u8 37 1 ∧ u8 37 1 < 32)) <|
    some ((shrI v7 (u8 37 1)), u8)
def s_J6_stringSize_0f7a4_16 (j6 : uS → Option (Int × uS)) (x0_3 : Int) (j8 : Int → uS → Option (Int × uS)) (go11 : Int → Int → uS → Option (Int × uS)) (x2_12 : Int) (x3_13 : Int) (u14 : uS) : Option (Int × uS) :=
  xgd (InR x3_13) <|
  if 10 ≤ x3_13 then
    j6 u14
  else
    xgd (InR x0_3 ∧ InR x2_12) <|
    if x0_3 ≤ x2_12 then
      xlet ((10 * x2_12)) fun x2_19 =>
      go11 x2_19 (x3_13 + 1) u14
    else
      j8 x3_13 u14
def f_J6_stringSize_0f7a4 (x0 : Int) (u : uS) : Option (Int × uS) :=
  xgd (InR x0) <|
  xlet (fun (x0_3 : Int) (x1_4 : Int) (u5 : uS) =>
      xlet (fun (u7 : uS) =>
          some ((10 + x1_4), u7)
          ) fun j6 =>
      xlet (fun (x3_9 : Int) (u10 : uS) =>
          some ((x3_9 + x1_4), u10)
          ) fun j8 =>
      xl3 (s_J6_stringSize_0f7a4_16 j6 x0_3 j8) FU (-10) 1 u5
      ) fun j2 =>
  if x0 < 0 then
    j2 x0 1 u
  else
    xlet ((-x0)) fun x0_21 =>
    j2 x0_21 0 u
def s_J6_getChars_ba4f3_22 (j7 : Int → Int → uS → Option (Int × uS)) (go26 : Int → Int → uS → Option (Int × uS)) (x0_27 : Int) (x5_28 : Int) (u29 : uS) : Option (Int × uS) :=
  xgd (InR x0_27) <|
  if (-100) < x0_27 then
    j7 x0_27 x5_28 u29
  else
    xgd (InR x0_27) <|
    xlet ((Int.tdiv x0_27 100)) fun x3_33 =>
    xlet (((x3_33 * 100) - x0_27)) fun x4_34 =>
    xgd ((0 ≤ x4_34 ∧ x4_34 < 100)) <|
    xgd ((0 ≤ (x5_28 + (-1)) ∧ (x5_28 + (-1)) < u29 1000 1 ∧ u29 1000 1 < 2147483648) ∧ (-128 ≤ ((gL_DigitOnes.getD x4_34.toNat 0) : Int) ∧ ((gL_DigitOnes.getD x4_34.toNat 0) : Int) < 128)) <|
    xlet (up u29 38 (x5_28 + (-1)) (gL_DigitOnes.getD x4_34.toNat 0)) fun u37 =>
    xgd ((0 ≤ x4_34 ∧ x4_34 < 100)) <|
    xgd ((0 ≤ ((x5_28 + (-1)) + (-1)) ∧ ((x5_28 + (-1)) + (-1)) < u37 1000 1 ∧ u37 1000 1 < 2147483648) ∧ (-128 ≤ ((gL_DigitTens.getD x4_34.toNat 0) : Int) ∧ ((gL_DigitTens.getD x4_34.toNat 0) : Int) < 128)) <|
    xlet (up u37 38 ((x5_28 + (-1)) + (-1)) (gL_DigitTens.getD x4_34.toNat 0)) fun u40 =>
    go26 x3_33 ((x5_28 + (-1)) + (-1)) u40
def s_J6_getChars_ba4f3_22b (j42 : Int → Int → uS → Option (Int × uS)) (go61 : Int → Int → uS → Option (Int × uS)) (x0_62 : Int) (x5_63 : Int) (u64 : uS) : Option (Int × uS) :=
  xgd (InR x0_62) <|
  if (-100) < x0_62 then
    j42 x0_62 x5_63 u64
  else
    xgd (InR x0_62) <|
    xlet ((Int.tdiv x0_62 100)) fun x3_68 =>
    xlet (((x3_68 * 100) - x0_62)) fun x4_69 =>
    xgd ((0 ≤ x4_69 ∧ x4_69 < 100)) <|
    xgd ((0 ≤ (x5_63 + (-1)) ∧ (x5_63 + (-1)) < u64 1000 1 ∧ u64 1000 1 < 2147483648) ∧ (-128 ≤ ((gL_DigitOnes.getD x4_69.toNat 0) : Int) ∧ ((gL_DigitOnes.getD x4_69.toNat 0) : Int) < 128)) <|
    xlet (up u64 38 (x5_63 + (-1)) (gL_DigitOnes.getD x4_69.toNat 0)) fun u72 =>
    xgd ((0 ≤ x4_69 ∧ x4_69 < 100)) <|
    xgd ((0 ≤ ((x5_63 + (-1)) + (-1)) ∧ ((x5_63 + (-1)) + (-1)) < u72 1000 1 ∧ u72 1000 1 < 2147483648) ∧ (-128 ≤ ((gL_DigitTens.getD x4_69.toNat 0) : Int) ∧ ((gL_DigitTens.getD x4_69.toNat 0) : Int) < 128)) <|
    xlet (up u72 38 ((x5_63 + (-1)) + (-1)) (gL_DigitTens.getD x4_69.toNat 0)) fun u75 =>
    go61 x3_68 ((x5_63 + (-1)) + (-1)) u75
def f_J6_getChars_ba4f3 (x0 : Int) (x1 : Int) (u : uS) : Option (Int × uS) :=
  xgd (InR x0) <|
  xlet (fun (s3 : Int) (u4 : uS) =>
      xgd (InR s3) <|
      if s3 = 0 then
        xlet ((-x0)) fun x0_41 =>
        xlet (fun (x0_43 : Int) (x5_44 : Int) (u45 : uS) =>
            xgd ((0 ≤ (-x0_43) ∧ (-x0_43) < 100)) <|
            xgd ((0 ≤ (x5_44 + (-1)) ∧ (x5_44 + (-1)) < u45 1000 1 ∧ u45 1000 1 < 2147483648) ∧ (-128 ≤ ((gL_DigitOnes.getD (-x0_43).toNat 0) : Int) ∧ ((gL_DigitOnes.getD (-x0_43).toNat 0) : Int) < 128)) <|
            xlet (up u45 38 (x5_44 + (-1)) (gL_DigitOnes.getD (-x0_43).toNat 0)) fun u48 =>
            xgd (InR x0_43) <|
            xlet (fun (x5_51 : Int) (u52 : uS) =>
                xgd (InR s3) <|
                if s3 = 0 then
                  some (x5_51, u52)
                else
                  xgd ((0 ≤ (x5_51 + (-1)) ∧ (x5_51 + (-1)) < u52 1000 1 ∧ u52 1000 1 < 2147483648) ∧ (-128 ≤ (45 : Int) ∧ (45 : Int) < 128)) <|
                  xlet (up u52 38 (x5_51 + (-1)) 45) fun u56 =>
                  some ((x5_51 + (-1)), u56)
                ) fun j50 =>
            if (-9) ≤ x0_43 then
              j50 (x5_44 + (-1)) u48
            else
              xgd ((0 ≤ (-x0_43) ∧ (-x0_43) < 100)) <|
              xgd ((0 ≤ ((x5_44 + (-1)) + (-1)) ∧ ((x5_44 + (-1)) + (-1)) < u48 1000 1 ∧ u48 1000 1 < 2147483648) ∧ (-128 ≤ ((gL_DigitTens.getD (-x0_43).toNat 0) : Int) ∧ ((gL_DigitTens.getD (-x0_43).toNat 0) : Int) < 128)) <|
              xlet (up u48 38 ((x5_44 + (-1)) + (-1)) (gL_DigitTens.getD (-x0_43).toNat 0)) fun u60 =>
              j50 ((x5_44 + (-1)) + (-1)) u60
            ) fun j42 =>
        xl3 (s_J6_getChars_ba4f3_22b j42) FU x0_41 x1 u4
      else
        xlet (fun (x0_8 : Int) (x5_9 : Int) (u10 : uS) =>
            xgd ((0 ≤ (-x0_8) ∧ (-x0_8) < 100)) <|
            xgd ((0 ≤ (x5_9 + (-1)) ∧ (x5_9 + (-1)) < u10 1000 1 ∧ u10 1000 1 < 2147483648) ∧ (-128 ≤ ((gL_DigitOnes.getD (-x0_8).toNat 0) : Int) ∧ ((gL_DigitOnes.getD (-x0_8).toNat 0) : Int) < 128)) <|
            xlet (up u10 38 (x5_9 + (-1)) (gL_DigitOnes.getD (-x0_8).toNat 0)) fun u13 =>
            xgd (InR x0_8) <|
            xlet (fun (x5_16 : Int) (u17 : uS) =>
                xgd (InR s3) <|
                if s3 = 0 then
                  some (x5_16, u17)
                else
                  xgd ((0 ≤ (x5_16 + (-1)) ∧ (x5_16 + (-1)) < u17 1000 1 ∧ u17 1000 1 < 2147483648) ∧ (-128 ≤ (45 : Int) ∧ (45 : Int) < 128)) <|
                  xlet (up u17 38 (x5_16 + (-1)) 45) fun u21 =>
                  some ((x5_16 + (-1)), u21)
                ) fun j15 =>
            if (-9) ≤ x0_8 then
              j15 (x5_9 + (-1)) u13
            else
              xgd ((0 ≤ (-x0_8) ∧ (-x0_8) < 100)) <|
              xgd ((0 ≤ ((x5_9 + (-1)) + (-1)) ∧ ((x5_9 + (-1)) + (-1)) < u13 1000 1 ∧ u13 1000 1 < 2147483648) ∧ (-128 ≤ ((gL_DigitTens.getD (-x0_8).toNat 0) : Int) ∧ ((gL_DigitTens.getD (-x0_8).toNat 0) : Int) < 128)) <|
              xlet (up u13 38 ((x5_9 + (-1)) + (-1)) (gL_DigitTens.getD (-x0_8).toNat 0)) fun u25 =>
              j15 ((x5_9 + (-1)) + (-1)) u25
            ) fun j7 =>
        xl3 (s_J6_getChars_ba4f3_22 j7) FU x0 x1 u4
      ) fun j2 =>
  if 0 ≤ x0 then
    j2 0 u
  else
    j2 1 u
def f_J4_length_8abf5 (u : uS) : Option (Int × uS) :=
  xbd (f_J5_length_8abf5 u) fun v1 u2 =>
  some (v1, u2)
def f_J5_inflateIfNeededFor_a7421 (k1 : Nat) (u : uS) : Option (Int × uS) :=
  xgd (2000 ≤ k1 ∧ k1 < 2020) <|
  if (1 : Int) = 0 then
    some (0, u)
  else
    xbd (f_J0_coder_7d493 k1 u) fun v3 u4 =>
    xgd (InR (u 37 1) ∧ InR v3) <|
    if u 37 1 = v3 then
      some (0, u4)
    else
      none
def f_J0_getBytes_840e7 (k0 : Nat) (x2 : Int) (x3 : Int) (u : uS) : Option (Int × uS) :=
  xgd (2000 ≤ k0 ∧ k0 < 2020) <|
  xbd (f_J0_coder_7d493 k0 u) fun v2 u3 =>
  xgd (InR v2 ∧ InR x3) <|
  if v2 = x3 then
    xgd (0 ≤ x3 ∧ x3 < 32) <|
    xgd ((0 ≤ (shlI x2 x3) ∧ (shlI x2 x3) + ((strL k0).length : Int) ≤ u3 1000 1 ∧ u3 1000 1 < 2147483648)) <|
    xlet (upA u3 38 (fun j => if (shlI x2 x3) ≤ j ∧ j < (shlI x2 x3) + ((strL k0).length : Int) then (strL k0).getD (j - (shlI x2 x3)).toNat 0 else u3 38 j)) fun u12 =>
    some (0, u12)
  else
    none
def f_J5_putStringAt_47b60 (x1 : Int) (k2 : Nat) (u : uS) : Option (Int × uS) :=
  xgd (2000 ≤ k2 ∧ k2 < 2020) <|
  xbd (f_J5_inflateIfNeededFor_a7421 k2 u) fun _ u3 =>
  xbd (f_J0_getBytes_840e7 k2 x1 (u3 37 1) u3) fun _ u5 =>
  some (0, u5)
def f_J5_append_cf1ce (k1 : Nat) (u : uS) : Option (Int × uS) :=
  xgd (2000 ≤ k1 ∧ k1 < 2020) <|
  xbd (f_J0_length_8abf5 k1 u) fun v2 u3 =>
  xbd (f_J5_ensureCapacityInternal_d00df (u3 37 3 + v2) u3) fun _ u5 =>
  xbd (f_J5_putStringAt_47b60 (u5 37 3) k1 u5) fun _ u7 =>
  xlet (up u7 37 3 (u7 37 3 + v2)) fun u8 =>
  some ((37 : Int), u8)
def f_J5_append_3fe6f (x1 : Int) (u : uS) : Option (Int × uS) :=
  xbd (f_J5_ensureCapacityInternal_d00df (u 37 3 + 1) u) fun _ u2 =>
  xbd (f_J5_isLatin1_aae02 u2) fun v3 u4 =>
  xgd (InR v3) <|
  xlet (fun (u7 : uS) =>
      xbd (f_J5_isLatin1_aae02 u7) fun v8 u9 =>
      xgd (InR v8) <|
      xlet (fun (u12 : uS) =>
          xlet (up u12 37 3 (u12 37 3 + 1)) fun u13 =>
          none
          ) fun j11 =>
      if v8 = 0 then
        j11 u9
      else
        none
      ) fun j6 =>
  if v3 = 0 then
    j6 u4
  else
    xbd (f_J1_canEncode_fc78d x1 u4) fun v16 u17 =>
    xgd (InR v16) <|
    if v16 = 0 then
      j6 u17
    else
      xlet (up u17 37 3 (u17 37 3 + 1)) fun u20 =>
      xgd ((0 ≤ u17 37 3 ∧ u17 37 3 < u20 1000 1 ∧ u20 1000 1 < 2147483648) ∧ (-128 ≤ ((nar8 x1) : Int) ∧ ((nar8 x1) : Int) < 128)) <|
      xlet (up u20 38 (u17 37 3) (nar8 x1)) fun u22 =>
      some ((37 : Int), u22)
def f_J5_append_c97b9 (x1 : Int) (u : uS) : Option (Int × uS) :=
  xlet (u 37 3) fun x2_1 =>
  xbd (f_J6_stringSize_0f7a4 x1 u) fun v2 u3 =>
  xlet ((x2_1 + v2)) fun x3_4 =>
  xbd (f_J5_ensureCapacityInternal_d00df x3_4 u3) fun _ u6 =>
  xbd (f_J5_isLatin1_aae02 u6) fun v7 u8 =>
  xgd (InR v7) <|
  xlet (fun (u11 : uS) =>
      xlet (up u11 37 3 x3_4) fun u12 =>
      some ((37 : Int), u12)
      ) fun j10 =>
  if v7 = 0 then
    none
  else
    xbd (f_J6_getChars_ba4f3 x1 x3_4 u8) fun v14 u15 =>
    j10 u15
def f_J4_append_15ec4 (k1 : Nat) (u : uS) : Option (Int × uS) :=
  xgd (2000 ≤ k1 ∧ k1 < 2020) <|
  xbd (f_J5_append_cf1ce k1 u) fun v2 u3 =>
  xgd (v2 = 37) <|
  some ((37 : Int), u3)
def f_J4_append_cf468 (x1 : Int) (u : uS) : Option (Int × uS) :=
  xbd (f_J5_append_3fe6f x1 u) fun v1 u2 =>
  xgd (v1 = 37) <|
  some ((37 : Int), u2)
def f_J4_append_bf812 (x1 : Int) (u : uS) : Option (Int × uS) :=
  xbd (f_J5_append_c97b9 x1 u) fun v1 u2 =>
  xgd (v1 = 37) <|
  some ((37 : Int), u2)
