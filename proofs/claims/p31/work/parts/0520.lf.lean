/-! the functions of the law's methods, written by program out of their instructions -/
def f_L_draw (x1 : Int) (u : uS) : Option (Int × uS) :=
  xlet (up u 357 0 ((u 357 0 * 1664525) + 1013904223)) fun u1 =>
  xgd (InR (u1 357 0 % 4294967296 / 256) ∧ InR x1 ∧ x1 ≠ 0) <|
  some ((Int.tmod (u1 357 0 % 4294967296 / 256) x1), u1)
def s_X10_root_6 (x0 : Int) (go1 : Int → Int → uS → Option (Int × uS)) (x1_2 : Int) (x2_3 : Int) (u4 : uS) : Option (Int × uS) :=
  xgd (InR x1_2 ∧ InR x2_3) <|
  if x2_3 ≤ x1_2 then
    some (x1_2, u4)
  else
    xgd (InR ((x1_2 + x2_3) + 1)) <|
    xlet ((Int.tdiv ((x1_2 + x2_3) + 1) 2)) fun x3_8 =>
    xgd (InR (x3_8 * x3_8) ∧ InR x0) <|
    if x0 < (x3_8 * x3_8) then
      xlet ((x3_8 - 1)) fun x2_11 =>
      go1 x1_2 x2_11 u4
    else
      go1 x3_8 x2_3 u4
def f_X10_root (x0 : Int) (u : uS) : Option (Int × uS) :=
  xl3 (s_X10_root_6 x0) FU 0 4000 u
def f_X10_far (x0 : Int) (x1 : Int) (k2 : Nat) (u : uS) : Option (Int × uS) :=
  xbd (f_X10_root (((x0 - u k2 0) * (x0 - u k2 0)) + ((x1 - u k2 1) * (x1 - u k2 1))) u) fun v1 u2 =>
  some (v1, u2)
def f_X10_time (x1 : Int) (x2 : Int) (k3 : Nat) (u : uS) : Option (Int × uS) :=
  xbd (f_X10_far x1 x2 k3 u) fun v1 u2 =>
  xgd (InR (v1 * 10) ∧ InR (u2 264 16) ∧ u2 264 16 ≠ 0) <|
  some ((Int.tdiv (v1 * 10) (u2 264 16)), u2)
def s_X10_sum_16 (k1 : Nat) (go3 : Int → Int → uS → Option (Int × uS)) (x3_4 : Int) (x4_5 : Int) (u6 : uS) : Option (Int × uS) :=
  xgd (InR x4_5 ∧ InR (u6 264 9)) <|
  if u6 264 9 < x4_5 then
    some (x3_4, u6)
  else
    xgd ((0 ≤ x4_5 ∧ x4_5 < 400)) <|
    xlet ((x3_4 + u6 (k1 + 1) x4_5)) fun x3_10 =>
    go3 x3_10 (x4_5 + 1) u6
def f_X10_sum (k1 : Nat) (x2 : Int) (u : uS) : Option (Int × uS) :=
  xgd (InR ((u 264 9 - x2) + 1)) <|
  xlet ((maxI 1 ((u 264 9 - x2) + 1))) fun x4_2 =>
  xl3 (s_X10_sum_16 k1) FU 0 x4_2 u
def f_X10_ratio (k1 : Nat) (u : uS) : Option (Int × uS) :=
  xbd (f_X10_sum k1 (u 264 18) u) fun v1 u2 =>
  xgd (InR v1) <|
  xgd (InL v1) <|
  if cmpL v1 0 = 0 then
    some (0, u2)
  else
    xbd (f_X10_sum k1 (u2 264 17) u2) fun v6 u7 =>
    xgd (InR v6) <|
    xgd (InR (u7 264 18)) <|
    xgd (InR (u7 264 17)) <|
    xgd (InL ((v6 * u7 264 18) * 100) ∧ InL (v1 * u7 264 17) ∧ (v1 * u7 264 17) ≠ 0) <|
    some ((Int.tdiv ((v6 * u7 264 18) * 100) (v1 * u7 264 17)), u7)
def f_X10_fit (k1 : Nat) (k2 : Nat) (u : uS) : Option (Int × uS) :=
  xgd (InR (u k1 0) ∧ InR (u k2 0)) <|
  if u k1 0 = u k2 0 then
    some (0, u)
  else
    xgd (InR (u k1 4)) <|
    if u k1 4 = 0 then
      xgd (InR (u k2 4)) <|
      if u k2 4 = 0 then
        xgd (InR (u k1 1 - u k2 1)) <|
        xgd ((0 ≤ u k1 0 ∧ u k1 0 < 8)) <|
        xgd (0 ≤ u 265 (u k1 0)) <|
        xlet (u 265 (u k1 0)).toNat fun n10 =>
        xgd ((0 ≤ u k1 0 ∧ u k1 0 < 8)) <|
        xgd (0 ≤ u 265 (u k1 0)) <|
        xlet (u 265 (u k1 0)).toNat fun n14 =>
        xgd ((0 ≤ u k2 0 ∧ u k2 0 < 8)) <|
        xgd (0 ≤ u 265 (u k2 0)) <|
        xlet (u 265 (u k2 0)).toNat fun n18 =>
        xbd (f_X10_time (u n10 0) (u n14 1) n18 u) fun v20 u21 =>
        xgd (InR (absI (u k1 1 - u k2 1)) ∧ InR (v20 + u21 264 22)) <|
        if (v20 + u21 264 22) < (absI (u k1 1 - u k2 1)) then
          some (0, u21)
        else
          some (1, u21)
      else
        some (0, u)
    else
      some (0, u)
def s_X10_size_4 (x1 : Int) (go1 : Int → Int → uS → Option (Int × uS)) (x2_2 : Int) (x3_3 : Int) (u4 : uS) : Option (Int × uS) :=
  xgd (InR x3_3 ∧ InR (u4 264 7)) <|
  if u4 264 7 ≤ x3_3 then
    some (x2_2, u4)
  else
    xgd ((0 ≤ x3_3 ∧ x3_3 < 60)) <|
    xgd (0 ≤ u4 266 x3_3) <|
    xlet (u4 266 x3_3).toNat fun n9 =>
    xgd (InR (u4 n9 3) ∧ InR x1) <|
    if u4 n9 3 = x1 then
      go1 (x2_2 + 1) (x3_3 + 1) u4
    else
      go1 x2_2 (x3_3 + 1) u4
def f_X10_size (x1 : Int) (u : uS) : Option (Int × uS) :=
  xl3 (s_X10_size_4 x1) FU 0 0 u
def s_X10_retract_9 (x1 : Int) (go3 : Int → uS → Option (Int × uS)) (x2_4 : Int) (u5 : uS) : Option (Int × uS) :=
  xgd (InR x2_4 ∧ InR (u5 264 7)) <|
  if u5 264 7 ≤ x2_4 then
    some (0, u5)
  else
    xgd ((0 ≤ x2_4 ∧ x2_4 < 60)) <|
    xgd (0 ≤ u5 266 x2_4) <|
    xlet (u5 266 x2_4).toNat fun n10 =>
    xgd (InR (u5 n10 3) ∧ InR x1) <|
    if u5 n10 3 = x1 then
      xgd ((0 ≤ x2_4 ∧ x2_4 < 60)) <|
      xgd (0 ≤ u5 266 x2_4) <|
      xlet (u5 266 x2_4).toNat fun n16 =>
      xlet (up u5 n16 3 (-1)) fun u18 =>
      go3 (x2_4 + 1) u18
    else
      go3 (x2_4 + 1) u5
def f_X10_retract (x1 : Int) (u : uS) : Option (Int × uS) :=
  xgd ((0 ≤ x1 ∧ x1 < 20)) <|
  xlet (up u 267 x1 1) fun u2 =>
  xl2 (s_X10_retract_9 x1) FU 0 u2
def s_X10_rung_4 (x1 : Int) (go1 : Int → Int → uS → Option (Int × uS)) (x2_2 : Int) (x3_3 : Int) (u4 : uS) : Option (Int × uS) :=
  xgd (InR x3_3 ∧ InR (u4 264 10)) <|
  if u4 264 10 ≤ x3_3 then
    some (x2_2, u4)
  else
    xgd ((0 ≤ x3_3 ∧ x3_3 < 8)) <|
    xgd (InR x1 ∧ InR (u4 269 x3_3)) <|
    if x1 < u4 269 x3_3 then
      go1 x2_2 (x3_3 + 1) u4
    else
      xgd ((0 ≤ x3_3 ∧ x3_3 < 8)) <|
      xlet (u4 270 x3_3) fun x2_11 =>
      go1 x2_11 (x3_3 + 1) u4
def f_X10_rung (x1 : Int) (u : uS) : Option (Int × uS) :=
  xl3 (s_X10_rung_4 x1) FU (-1) 0 u
def s_X10_vote_234 (x3_9 : Int) (j16 : uS → Option (Int × uS)) (go21 : Int → uS → Option (Int × uS)) (x4_22 : Int) (u23 : uS) : Option (Int × uS) :=
  xgd (InR x4_22 ∧ InR x3_9) <|
  if x3_9 ≤ x4_22 then
    j16 u23
  else
    xgd ((0 ≤ x4_22 ∧ x4_22 < 60)) <|
    xgd (0 ≤ u23 293 x4_22) <|
    xlet (u23 293 x4_22).toNat fun n29 =>
    xlet (up u23 n29 3 (u23 264 8)) fun u32 =>
    go21 (x4_22 + 1) u32
def s_X10_vote_155 (x3_34 : Int) (j50 : Int → uS → Option (Int × uS)) (x4_35 : Int) (go63 : Int → Int → uS → Option (Int × uS)) (x5_64 : Int) (x6_65 : Int) (u66 : uS) : Option (Int × uS) :=
  xgd (InR x6_65 ∧ InR x3_34) <|
  if x3_34 ≤ x6_65 then
    j50 x5_64 u66
  else
    xgd (InR x5_64) <|
    if x5_64 = 0 then
      j50 x5_64 u66
    else
      xgd ((0 ≤ x6_65 ∧ x6_65 < 60)) <|
      xgd (0 ≤ u66 293 x6_65) <|
      xlet (u66 293 x6_65).toNat fun n74 =>
      xgd ((0 ≤ x4_35 ∧ x4_35 < 60)) <|
      xgd (0 ≤ u66 266 x4_35) <|
      xlet (u66 266 x4_35).toNat fun n79 =>
      xbd (f_X10_fit n74 n79 u66) fun v82 u83 =>
      go63 v82 (x6_65 + 1) u83
def s_X10_vote_108 (j8 : Int → uS → Option (Int × uS)) (go33 : Int → Int → uS → Option (Int × uS)) (x3_34 : Int) (x4_35 : Int) (u36 : uS) : Option (Int × uS) :=
  xgd (InR x4_35 ∧ InR (u36 264 7 - 1)) <|
  if (u36 264 7 - 1) ≤ x4_35 then
    j8 x3_34 u36
  else
    xgd ((0 ≤ x4_35 ∧ x4_35 < 60)) <|
    xgd (0 ≤ u36 266 x4_35) <|
    xlet (u36 266 x4_35).toNat fun n42 =>
    xgd (InR (u36 n42 3)) <|
    xlet (fun (s47 : Int) (u48 : uS) =>
        xlet (fun (x5_51 : Int) (u52 : uS) =>
            xgd (InR x5_51) <|
            if x5_51 = 0 then
              go33 x3_34 (x4_35 + 1) u52
            else
              xgd ((0 ≤ x4_35 ∧ x4_35 < 60)) <|
              xgd (0 ≤ u52 266 x4_35) <|
              xlet (u52 266 x4_35).toNat fun n58 =>
              xgd ((0 ≤ x3_34 ∧ x3_34 < 60)) <|
              xlet (up u52 293 x3_34 (n58 : Int)) fun u62 =>
              go33 (x3_34 + 1) (x4_35 + 1) u62
            ) fun j50 =>
        xl3 (s_X10_vote_155 x3_34 j50 x4_35) FU s47 0 u48
        ) fun j46 =>
    xlet (fun (u85 : uS) =>
        j46 0 u85
        ) fun j84 =>
    if 0 ≤ u36 n42 3 then
      j84 u36
    else
      xgd ((0 ≤ x4_35 ∧ x4_35 < 60)) <|
      xgd (0 ≤ u36 266 x4_35) <|
      xlet (u36 266 x4_35).toNat fun n90 =>
      xgd (InR (u36 n90 4)) <|
      if u36 n90 4 = 0 then
        j46 1 u36
      else
        j84 u36
def s_X10_vote_28 (j109 : Int → uS → Option (Int × uS)) (x2_100 : Int) (k1 : Nat) (go114 : Int → Int → uS → Option (Int × uS)) (x3_115 : Int) (x4_116 : Int) (u117 : uS) : Option (Int × uS) :=
  xgd (InR x4_116 ∧ InR (u117 264 7)) <|
  if u117 264 7 ≤ x4_116 then
    j109 x3_115 u117
  else
    xgd ((0 ≤ x4_116 ∧ x4_116 < 60)) <|
    xgd (0 ≤ u117 266 x4_116) <|
    xlet (u117 266 x4_116).toNat fun n122 =>
    xgd (InR (u117 n122 3) ∧ InR x2_100) <|
    if u117 n122 3 = x2_100 then
      xgd ((0 ≤ x4_116 ∧ x4_116 < 60)) <|
      xgd (0 ≤ u117 266 x4_116) <|
      xlet (u117 266 x4_116).toNat fun n129 =>
      xbd (f_X10_fit k1 n129 u117) fun v132 u133 =>
      xgd (InR v132) <|
      if v132 = 0 then
        go114 0 (x4_116 + 1) u133
      else
        go114 x3_115 (x4_116 + 1) u133
    else
      go114 x3_115 (x4_116 + 1) u117
def s_X10_vote_2 (j1 : uS → Option (Int × uS)) (j95 : Int → uS → Option (Int × uS)) (k1 : Nat) (go99 : Int → uS → Option (Int × uS)) (x2_100 : Int) (u101 : uS) : Option (Int × uS) :=
  xgd (InR x2_100 ∧ InR (u101 264 8)) <|
  if u101 264 8 ≤ x2_100 then
    j1 u101
  else
    xgd ((0 ≤ x2_100 ∧ x2_100 < 20)) <|
    xgd (InR (u101 267 x2_100)) <|
    xlet (fun (s107 : Int) (u108 : uS) =>
        xlet (fun (x3_110 : Int) (u111 : uS) =>
            xgd (InR x3_110) <|
            if x3_110 = 0 then
              go99 (x2_100 + 1) u111
            else
              j95 x2_100 u111
            ) fun j109 =>
        xl3 (s_X10_vote_28 j109 x2_100 k1) FU s107 0 u108
        ) fun j106 =>
    if u101 267 x2_100 = 0 then
      j106 1 u101
    else
      j106 0 u101
def f_X10_vote (k1 : Nat) (u : uS) : Option (Int × uS) :=
  xlet (fun (u2 : uS) =>
      xgd (mkOk u2) <|
      xlet (upA u2 293 (fun _ => -1)) fun u5 =>
      xlet (up u5 293 0 (k1 : Int)) fun u7 =>
      xlet (fun (x3_9 : Int) (u10 : uS) =>
          xgd (InR x3_9 ∧ InR (u10 264 21)) <|
          if x3_9 < u10 264 21 then
            some (0, u10)
          else
            xgd (InR (u10 264 8)) <|
            if u10 264 8 = 20 then
              some (0, u10)
            else
              xlet (fun (u17 : uS) =>
                  xlet (up u17 264 8 (u17 264 8 + 1)) fun u18 =>
                  xgd ((0 ≤ u17 264 8 ∧ u17 264 8 < 20)) <|
                  xlet (up u18 268 (u17 264 8) (u18 264 9)) fun u20 =>
                  some (0, u20)
                  ) fun j16 =>
              xl2 (s_X10_vote_234 x3_9 j16) FU 0 u10
          ) fun j8 =>
      xl3 (s_X10_vote_108 j8) FU 1 0 u7
      ) fun j1 =>
  xlet (fun (x2_96 : Int) (u97 : uS) =>
      xlet (up u97 k1 3 x2_96) fun u98 =>
      some (0, u98)
      ) fun j95 =>
  xl2 (s_X10_vote_2 j1 j95 k1) FU 0 u
def s_X10_pass_51 (go4 : Int → uS → Option (Int × uS)) (x1_5 : Int) (u6 : uS) : Option (Int × uS) :=
  xgd (InR x1_5 ∧ InR (u6 264 6)) <|
  if u6 264 6 ≤ x1_5 then
    some (0, u6)
  else
    xgd ((0 ≤ x1_5 ∧ x1_5 < 8)) <|
    xgd (0 ≤ u6 265 x1_5) <|
    xlet (u6 265 x1_5).toNat fun n11 =>
    xgd (InR (u6 n11 4)) <|
    if u6 n11 4 = 0 then
      xgd (InR (u6 264 9) ∧ InR (u6 264 18)) <|
      if u6 264 9 < u6 264 18 then
        go4 (x1_5 + 1) u6
      else
        xgd (InR (u6 n11 5)) <|
        if u6 n11 5 = 0 then
          xbd (f_X10_ratio n11 u6) fun v20 u21 =>
          xgd (InR v20 ∧ InR (u21 264 19)) <|
          if v20 < u21 264 19 then
            go4 (x1_5 + 1) u21
          else
            xgd (InR (u21 264 7)) <|
            if 60 ≤ u21 264 7 then
              go4 (x1_5 + 1) u21
            else
              xlet (up u21 n11 4 1) fun u26 =>
              xlet (up u26 n11 3 (u26 264 7)) fun u27 =>
              xgd ((0 ≤ u27 264 7 ∧ u27 264 7 < 60) ∧ (∀ j9 : Nat, j9 < 60 → u27 266 (j9 : Int) ≠ 294 + u27 264 7) ∧ mkOk u27) <|
              xlet (294 + u27 264 7).toNat fun n29 =>
              xlet (upA u27 n29 (fun j => if j = 3 then -1 else 0)) fun u31 =>
              xlet (up u31 n29 0 x1_5) fun u33 =>
              xlet (up u33 n29 1 (u33 264 9)) fun u34 =>
              xlet (up u34 n29 2 (u34 n11 2)) fun u35 =>
              xlet (up u35 264 7 (u35 264 7 + 1)) fun u36 =>
              xgd ((0 ≤ u35 264 7 ∧ u35 264 7 < 60)) <|
              xlet (up u36 266 (u35 264 7) (n29 : Int)) fun u38 =>
              xbd (f_X10_vote n29 u38) fun _ u40 =>
              go4 (x1_5 + 1) u40
        else
          go4 (x1_5 + 1) u6
    else
      xgd ((0 ≤ u6 n11 3 ∧ u6 n11 3 < 60)) <|
      xgd (0 ≤ u6 266 (u6 n11 3)) <|
      xlet (u6 266 (u6 n11 3)).toNat fun n45 =>
      xgd ((0 ≤ u6 n11 3 ∧ u6 n11 3 < 60)) <|
      xgd (0 ≤ u6 266 (u6 n11 3)) <|
      xlet (u6 266 (u6 n11 3)).toNat fun n49 =>
      xgd (InR (u6 n49 2) ∧ InR (u6 n11 2)) <|
      xlet (up u6 n45 2 (maxI (u6 n49 2) (u6 n11 2))) fun u52 =>
      xbd (f_X10_ratio n11 u52) fun v53 u54 =>
      xgd (InR v53 ∧ InR (u54 264 20)) <|
      xlet (fun (s57 : Int) (u58 : uS) =>
          xgd ((s57 = 0 ∨ s57 = 1)) <|
          xlet (up u58 n11 4 s57) fun u60 =>
          go4 (x1_5 + 1) u60
          ) fun j56 =>
      if v53 < u54 264 20 then
        j56 0 u54
      else
        j56 1 u54
def s_X10_pass_12 (j2 : uS → Option (Int × uS)) (go62 : Int → uS → Option (Int × uS)) (x1_63 : Int) (u64 : uS) : Option (Int × uS) :=
  xgd (InR x1_63 ∧ InR (u64 264 6)) <|
  if u64 264 6 ≤ x1_63 then
    j2 u64
  else
    xgd ((0 ≤ x1_63 ∧ x1_63 < 8)) <|
    xgd (0 ≤ u64 265 x1_63) <|
    xlet (u64 265 x1_63).toNat fun n69 =>
    xgd ((0 ≤ x1_63 ∧ x1_63 < 8)) <|
    xgd (0 ≤ u64 265 x1_63) <|
    xlet (u64 265 x1_63).toNat fun n74 =>
    xgd ((0 ≤ u64 264 9 ∧ u64 264 9 < 400)) <|
    xlet (up u64 (n69 + 1) (u64 264 9) (u64 n74 2)) fun u78 =>
    go62 (x1_63 + 1) u78
def f_X10_pass (u : uS) : Option (Int × uS) :=
  xlet (up u 264 9 (u 264 9 + 1)) fun u1 =>
  xlet (fun (u3 : uS) =>
      xl2 (s_X10_pass_51) 9 0 u3
      ) fun j2 =>
  xl2 (s_X10_pass_12 j2) FU 0 u1
def s_X10_mute_106 (go20 : Int → Int → uS → Option (Int × uS)) (x3_21 : Int) (x4_22 : Int) (u23 : uS) : Option (Int × uS) :=
  xgd (InR x4_22 ∧ InR (u23 264 8)) <|
  if u23 264 8 ≤ x4_22 then
    some (x3_21, u23)
  else
    xgd ((0 ≤ x4_22 ∧ x4_22 < 20)) <|
    xgd (InR (u23 292 x4_22)) <|
    if u23 292 x4_22 = 0 then
      go20 x3_21 (x4_22 + 1) u23
    else
      xbd (f_X10_size x4_22 u23) fun v30 u31 =>
      xgd (InR v30 ∧ InR (u31 264 21)) <|
      if v30 < u31 264 21 then
        xbd (f_X10_retract x4_22 u31) fun _ u35 =>
        go20 (x3_21 + 1) (x4_22 + 1) u35
      else
        go20 x3_21 (x4_22 + 1) u31
def s_X10_mute_27 (j17 : uS → Option (Int × uS)) (x1 : Int) (go36 : Int → uS → Option (Int × uS)) (x3_37 : Int) (u38 : uS) : Option (Int × uS) :=
  xgd (InR x3_37 ∧ InR (u38 264 7)) <|
  if u38 264 7 ≤ x3_37 then
    j17 u38
  else
    xgd ((0 ≤ x3_37 ∧ x3_37 < 60)) <|
    xgd (0 ≤ u38 266 x3_37) <|
    xlet (u38 266 x3_37).toNat fun n44 =>
    xgd (InR (u38 n44 0) ∧ InR x1) <|
    if u38 n44 0 = x1 then
      xgd ((0 ≤ x3_37 ∧ x3_37 < 60)) <|
      xgd (0 ≤ u38 266 x3_37) <|
      xlet (u38 266 x3_37).toNat fun n51 =>
      xgd (InR (u38 n51 3)) <|
      xlet (fun (u56 : uS) =>
          xgd ((0 ≤ x3_37 ∧ x3_37 < 60)) <|
          xgd (0 ≤ u56 266 x3_37) <|
          xlet (u56 266 x3_37).toNat fun n60 =>
          xlet (up u56 n60 3 (-1)) fun u63 =>
          xgd ((0 ≤ x3_37 ∧ x3_37 < 60)) <|
          xgd (0 ≤ u63 266 x3_37) <|
          xlet (u63 266 x3_37).toNat fun n66 =>
          xlet (up u63 n66 4 1) fun u69 =>
          go36 (x3_37 + 1) u69
          ) fun j55 =>
      if u38 n51 3 < 0 then
        j55 u38
      else
        xgd ((0 ≤ x3_37 ∧ x3_37 < 60)) <|
        xgd (0 ≤ u38 266 x3_37) <|
        xlet (u38 266 x3_37).toNat fun n73 =>
        xgd ((0 ≤ u38 n73 3 ∧ u38 n73 3 < 20)) <|
        xlet (up u38 292 (u38 n73 3) 1) fun u77 =>
        j55 u77
    else
      go36 (x3_37 + 1) u38
def f_X10_mute (x1 : Int) (u : uS) : Option (Int × uS) :=
  xgd ((0 ≤ x1 ∧ x1 < 8)) <|
  xgd (0 ≤ u 265 x1) <|
  xlet (u 265 x1).toNat fun n3 =>
  xlet (up u n3 5 1) fun u6 =>
  xgd ((0 ≤ x1 ∧ x1 < 8)) <|
  xgd (0 ≤ u6 265 x1) <|
  xlet (u6 265 x1).toNat fun n9 =>
  xlet (up u6 n9 4 0) fun u12 =>
  xgd (mkOk u12) <|
  xlet (upA u12 292 (fun _ => 0)) fun u15 =>
  xlet (fun (u18 : uS) =>
      xl3 (s_X10_mute_106) FU 0 0 u18
      ) fun j17 =>
  xl2 (s_X10_mute_27 j17 x1) FU 0 u15
def s_X10_fitAt_124 (j12 : Int → uS → Option (Int × uS)) (x2 : Int) (x3_2 : Int) (x4_4 : Int) (x6_11 : Int) (go21 : Int → Int → uS → Option (Int × uS)) (x7_22 : Int) (x8_23 : Int) (u24 : uS) : Option (Int × uS) :=
  xgd (InR x8_23 ∧ InR (u24 264 7)) <|
  if u24 264 7 ≤ x8_23 then
    j12 x7_22 u24
  else
    xgd ((0 ≤ x8_23 ∧ x8_23 < 60)) <|
    xgd (0 ≤ u24 266 x8_23) <|
    xlet (u24 266 x8_23).toNat fun n29 =>
    xgd (InR (u24 n29 3) ∧ InR x2) <|
    if u24 n29 3 = x2 then
      xgd ((0 ≤ x8_23 ∧ x8_23 < 60)) <|
      xgd (0 ≤ u24 266 x8_23) <|
      xlet (u24 266 x8_23).toNat fun n36 =>
      xgd ((0 ≤ x8_23 ∧ x8_23 < 60)) <|
      xgd (0 ≤ u24 266 x8_23) <|
      xlet (u24 266 x8_23).toNat fun n41 =>
      xgd ((0 ≤ u24 n41 0 ∧ u24 n41 0 < 8)) <|
      xgd (0 ≤ u24 265 (u24 n41 0)) <|
      xlet (u24 265 (u24 n41 0)).toNat fun n46 =>
      xbd (f_X10_time x3_2 x4_4 n46 u24) fun v49 u50 =>
      xgd (InR ((u24 n36 1 - v49) - x6_11)) <|
      xlet ((x7_22 + (absI ((u24 n36 1 - v49) - x6_11)))) fun x7_52 =>
      go21 x7_52 (x8_23 + 1) u50
    else
      go21 x7_22 (x8_23 + 1) u24
def s_X10_fitAt_41 (j5 : Int → uS → Option (Int × uS)) (x2 : Int) (x3_2 : Int) (x4_4 : Int) (go53 : Int → Int → uS → Option (Int × uS)) (x5_54 : Int) (x6_55 : Int) (u56 : uS) : Option (Int × uS) :=
  xgd (InR x6_55 ∧ InR (u56 264 7)) <|
  if u56 264 7 ≤ x6_55 then
    j5 x5_54 u56
  else
    xgd ((0 ≤ x6_55 ∧ x6_55 < 60)) <|
    xgd (0 ≤ u56 266 x6_55) <|
    xlet (u56 266 x6_55).toNat fun n61 =>
    xgd (InR (u56 n61 3) ∧ InR x2) <|
    if u56 n61 3 = x2 then
      xgd ((0 ≤ x6_55 ∧ x6_55 < 60)) <|
      xgd (0 ≤ u56 266 x6_55) <|
      xlet (u56 266 x6_55).toNat fun n68 =>
      xgd ((0 ≤ x6_55 ∧ x6_55 < 60)) <|
      xgd (0 ≤ u56 266 x6_55) <|
      xlet (u56 266 x6_55).toNat fun n73 =>
      xgd ((0 ≤ u56 n73 0 ∧ u56 n73 0 < 8)) <|
      xgd (0 ≤ u56 265 (u56 n73 0)) <|
      xlet (u56 265 (u56 n73 0)).toNat fun n78 =>
      xbd (f_X10_time x3_2 x4_4 n78 u56) fun v81 u82 =>
      xlet ((x5_54 + (u56 n68 1 - v81))) fun x5_83 =>
      go53 x5_83 (x6_55 + 1) u82
    else
      go53 x5_54 (x6_55 + 1) u56
def f_X10_fitAt (x1 : Int) (x2 : Int) (u : uS) : Option (Int × uS) :=
  xgd (InR x1 ∧ InR (u 264 13) ∧ u 264 13 ≠ 0) <|
  xlet ((u 264 11 + ((Int.tmod x1 (u 264 13)) * u 264 15))) fun x3_2 =>
  xgd (InR x1 ∧ InR (u 264 13) ∧ u 264 13 ≠ 0) <|
  xlet ((u 264 12 + ((Int.tdiv x1 (u 264 13)) * u 264 15))) fun x4_4 =>
  xlet (fun (x5_6 : Int) (u7 : uS) =>
      xbd (f_X10_size x2 u7) fun v8 u9 =>
      xgd (InR x5_6 ∧ InR v8 ∧ v8 ≠ 0) <|
      xlet ((Int.tdiv x5_6 v8)) fun x6_11 =>
      xlet (fun (x7_13 : Int) (u14 : uS) =>
          xgd (mkOk u14) <|
          xlet (upA u14 354 (fun _ => 0)) fun u17 =>
          xlet (up u17 354 0 x6_11) fun u19 =>
          xlet (up u19 354 1 x7_13) fun u20 =>
          some ((354 : Int), u20)
          ) fun j12 =>
      xl3 (s_X10_fitAt_124 j12 x2 x3_2 x4_4 x6_11) FU 0 0 u9
      ) fun j5 =>
  xl3 (s_X10_fitAt_41 j5 x2 x3_2 x4_4) FU 0 0 u
def s_X10_node_14 (x1 : Int) (go7 : Int → Int → Int → uS → Option (Int × uS)) (x2_8 : Int) (x3_9 : Int) (x4_10 : Int) (u11 : uS) : Option (Int × uS) :=
  xgd (InR x4_10 ∧ InR (u11 264 13 * u11 264 14)) <|
  if (u11 264 13 * u11 264 14) ≤ x4_10 then
    some (x2_8, u11)
  else
    xgd (x4_10 < 16) <|
    xbd (f_X10_fitAt x4_10 x1 u11) fun v15 u16 =>
    xgd (v15 = 354) <|
    xlet (u16 354 1) fun x5_20 =>
    xgd (InR x5_20 ∧ InR x3_9) <|
    if x5_20 < x3_9 then
      go7 x4_10 x5_20 (x4_10 + 1) u16
    else
      go7 x2_8 x3_9 (x4_10 + 1) u16
def f_X10_node (x1 : Int) (u : uS) : Option (Int × uS) :=
  xbd (f_X10_fitAt 0 x1 u) fun v1 u2 =>
  xgd (v1 = 354) <|
  xlet (u2 354 1) fun x3_6 =>
  xl4 (s_X10_node_14 x1) 17 0 x3_6 1 u2
def s_X10_magnitude_123 (j48 : Int → uS → Option (Int × uS)) (v46 : Int) (go54 : Int → uS → Option (Int × uS)) (x9_55 : Int) (u56 : uS) : Option (Int × uS) :=
  xgd (InR x9_55) <|
  if x9_55 ≤ 0 then
    j48 x9_55 u56
  else
    xgd ((0 ≤ (x9_55 - 1) ∧ (x9_55 - 1) < 60)) <|
    xgd (InR (u56 355 (x9_55 - 1)) ∧ InR v46) <|
    if u56 355 (x9_55 - 1) ≤ v46 then
      j48 x9_55 u56
    else
      xgd ((0 ≤ (x9_55 - 1) ∧ (x9_55 - 1) < 60)) <|
      xgd ((0 ≤ x9_55 ∧ x9_55 < 60)) <|
      xlet (up u56 355 x9_55 (u56 355 (x9_55 - 1))) fun u65 =>
      go54 (x9_55 + (-1)) u65
def s_X10_magnitude_47 (j9 : Int → uS → Option (Int × uS)) (x1 : Int) (x3_2 : Int) (x4_4 : Int) (go15 : Int → Int → uS → Option (Int × uS)) (x6_16 : Int) (x7_17 : Int) (u18 : uS) : Option (Int × uS) :=
  xgd (InR x7_17 ∧ InR (u18 264 7)) <|
  if u18 264 7 ≤ x7_17 then
    j9 x6_16 u18
  else
    xgd ((0 ≤ x7_17 ∧ x7_17 < 60)) <|
    xgd (0 ≤ u18 266 x7_17) <|
    xlet (u18 266 x7_17).toNat fun n24 =>
    xgd (InR (u18 n24 3) ∧ InR x1) <|
    if u18 n24 3 = x1 then
      xgd ((0 ≤ x7_17 ∧ x7_17 < 60)) <|
      xgd (0 ≤ u18 266 x7_17) <|
      xlet (u18 266 x7_17).toNat fun n31 =>
      xgd ((0 ≤ x7_17 ∧ x7_17 < 60)) <|
      xgd (0 ≤ u18 266 x7_17) <|
      xlet (u18 266 x7_17).toNat fun n36 =>
      xgd ((0 ≤ u18 n36 0 ∧ u18 n36 0 < 8)) <|
      xgd (0 ≤ u18 265 (u18 n36 0)) <|
      xlet (u18 265 (u18 n36 0)).toNat fun n41 =>
      xbd (f_X10_far x3_2 x4_4 n41 u18) fun v44 u45 =>
      xbd (f_X10_rung (u18 n31 2 + (u18 264 23 * v44)) u45) fun v46 u47 =>
      xlet (fun (x9_49 : Int) (u50 : uS) =>
          xgd ((0 ≤ x9_49 ∧ x9_49 < 60)) <|
          xlet (up u50 355 x9_49 v46) fun u53 =>
          go15 (x6_16 + 1) (x7_17 + 1) u53
          ) fun j48 =>
      xl2 (s_X10_magnitude_123 j48 v46) FU x6_16 u47
    else
      go15 x6_16 (x7_17 + 1) u18
def f_X10_magnitude (x1 : Int) (x2 : Int) (u : uS) : Option (Int × uS) :=
  xgd (InR x2 ∧ InR (u 264 13) ∧ u 264 13 ≠ 0) <|
  xlet ((u 264 11 + ((Int.tmod x2 (u 264 13)) * u 264 15))) fun x3_2 =>
  xgd (InR x2 ∧ InR (u 264 13) ∧ u 264 13 ≠ 0) <|
  xlet ((u 264 12 + ((Int.tdiv x2 (u 264 13)) * u 264 15))) fun x4_4 =>
  xgd (mkOk u) <|
  xlet (upA u 355 (fun _ => 0)) fun u7 =>
  xlet (fun (x6_10 : Int) (u11 : uS) =>
      xgd (InR (x6_10 - 1)) <|
      xgd ((0 ≤ (Int.tdiv (x6_10 - 1) 2) ∧ (Int.tdiv (x6_10 - 1) 2) < 60)) <|
      some (u11 355 (Int.tdiv (x6_10 - 1) 2), u11)
      ) fun j9 =>
  xl3 (s_X10_magnitude_47 j9 x1 x3_2 x4_4) FU 0 0 u7
def f_L_mutes (x1 : Int) (u : uS) : Option (Int × uS) :=
  match f_X9_mute x1 u with
  | none => none
  | some q => xgd (q.1 = 0 ∨ q.1 = 3) <| some (if q.1 = 0 then q.2.1 else -3, q.2.2)
def f_L_unmutes (x1 : Int) (u : uS) : Option (Int × uS) :=
  match f_X9_unmute x1 u with
  | none => none
  | some q => xgd (q.1 = 0 ∨ q.1 = 3) <| some (if q.1 = 0 then q.2.1 else -3, q.2.2)
def f_L_retracts (x1 : Int) (u : uS) : Option (Int × uS) :=
  match f_X9_retract x1 u with
  | none => none
  | some q => xgd (q.1 = 0 ∨ q.1 = 3) <| some (if q.1 = 0 then q.2.1 else -3, q.2.2)
def s_L_acts_298 (x5_14 : Int) (j16 : uS → Option (Int × uS)) (go22 : Int → uS → Option (Int × uS)) (x7_23 : Int) (u24 : uS) : Option (Int × uS) :=
  xgd (InR x7_23 ∧ InR x5_14) <|
  if x5_14 ≤ x7_23 then
    j16 u24
  else
    xbd (f_X10_pass u24) fun _ u28 =>
    go22 (x7_23 + 1) u28
def f_L_acts (u : uS) : Option (Int × uS) :=
  xbd (f_L_draw (u 264 6) u) fun v1 u2 =>
  xgd ((0 ≤ v1 ∧ v1 < 8)) <|
  xgd (0 ≤ u2 265 v1) <|
  xlet (u2 265 v1).toNat fun n5 =>
  xbd (f_L_draw 12 u2) fun v8 u9 =>
  xgd (InR v8) <|
  if v8 < 0 ∨ 6 < v8 then
    xbd (f_L_draw 4 u9) fun v12 u13 =>
    xlet ((1 + v12)) fun x5_14 =>
    xlet (u13 264 7) fun x6_15 =>
    xlet (fun (u17 : uS) =>
        xb0 (f_X9_pass x5_14 u17) fun v18 u19 =>
        xgd (InR v18 ∧ InR (u19 264 7 - x6_15)) <|
        if v18 = (u19 264 7 - x6_15) then
          some (1, u19)
        else
          some (0, u19)
        ) fun j16 =>
    xl2 (s_L_acts_298 x5_14 j16) 5 0 u13
  else if v8 = 0 then
    xbd (f_L_draw 3 u9) fun v31 u32 =>
    xgd (InR v31) <|
    xlet (fun (s35 : Int) (u36 : uS) =>
        xlet (u36 n5 2) fun x6_37 =>
        xlet (up u36 n5 2 s35) fun u38 =>
        xb0 (f_X9_setLevel v1 s35 u38) fun v39 u40 =>
        xgd (InR v39 ∧ InR x6_37) <|
        if v39 = x6_37 then
          some (1, u40)
        else
          some (0, u40)
        ) fun j34 =>
    if v31 = 0 then
      xbd (f_L_draw 10 u32) fun v46 u47 =>
      j34 v46 u47
    else
      xbd (f_L_draw 200 u32) fun v44 u45 =>
      j34 v44 u45
  else if v8 = 1 then
    xbd (f_L_draw 3 u9) fun v49 u50 =>
    xgd (InR v49) <|
    xlet (fun (s53 : Int) (u54 : uS) =>
        xlet (u54 n5 2) fun x6_55 =>
        xlet (up u54 n5 2 s53) fun u56 =>
        xb0 (f_X9_setLevel v1 s53 u56) fun v57 u58 =>
        xgd (InR v57 ∧ InR x6_55) <|
        if v57 = x6_55 then
          some (1, u58)
        else
          some (0, u58)
        ) fun j52 =>
    if v49 = 0 then
      xbd (f_L_draw 10 u50) fun v64 u65 =>
      j52 v64 u65
    else
      xbd (f_L_draw 200 u50) fun v62 u63 =>
      j52 v62 u63
  else if v8 = 2 then
    xbd (f_L_draw 3 u9) fun v67 u68 =>
    xgd (InR v67) <|
    xlet (fun (s71 : Int) (u72 : uS) =>
        xlet (u72 n5 2) fun x6_73 =>
        xlet (up u72 n5 2 s71) fun u74 =>
        xb0 (f_X9_setLevel v1 s71 u74) fun v75 u76 =>
        xgd (InR v75 ∧ InR x6_73) <|
        if v75 = x6_73 then
          some (1, u76)
        else
          some (0, u76)
        ) fun j70 =>
    if v67 = 0 then
      xbd (f_L_draw 10 u68) fun v82 u83 =>
      j70 v82 u83
    else
      xbd (f_L_draw 200 u68) fun v80 u81 =>
      j70 v80 u81
  else if v8 = 3 then
    xbd (f_L_draw 3 u9) fun v85 u86 =>
    xgd (InR v85) <|
    xlet (fun (s89 : Int) (u90 : uS) =>
        xlet (u90 n5 2) fun x6_91 =>
        xlet (up u90 n5 2 s89) fun u92 =>
        xb0 (f_X9_setLevel v1 s89 u92) fun v93 u94 =>
        xgd (InR v93 ∧ InR x6_91) <|
        if v93 = x6_91 then
          some (1, u94)
        else
          some (0, u94)
        ) fun j88 =>
    if v85 = 0 then
      xbd (f_L_draw 10 u86) fun v100 u101 =>
      j88 v100 u101
    else
      xbd (f_L_draw 200 u86) fun v98 u99 =>
      j88 v98 u99
  else if v8 = 4 then
    xlet (u9 n5 5) fun x5_103 =>
    xgd (InR x5_103) <|
    xlet (fun (s106 : Int) (u107 : uS) =>
        xbd (f_L_mutes v1 u107) fun v108 u109 =>
        xgd (InR v108 ∧ InR s106) <|
        if v108 = s106 then
          some (1, u109)
        else
          some (0, u109)
        ) fun j105 =>
    if x5_103 = 0 then
      xbd (f_X10_mute v1 u9) fun v113 u114 =>
      j105 v113 u114
    else
      j105 (-3) u9
  else if v8 = 5 then
    xgd (InR (u9 n5 5)) <|
    xlet (fun (s119 : Int) (u120 : uS) =>
        xlet (up u120 n5 5 0) fun u121 =>
        xbd (f_L_unmutes v1 u121) fun v122 u123 =>
        xgd (InR v122 ∧ InR s119) <|
        if v122 = s119 then
          some (1, u123)
        else
          some (0, u123)
        ) fun j118 =>
    if u9 n5 5 = 0 then
      j118 (-3) u9
    else
      xbd (f_X10_ratio n5 u9) fun v127 u128 =>
      j118 v127 u128
  else if v8 = 6 then
    xbd (f_L_draw 20 u9) fun v130 u131 =>
    xgd (InR v130 ∧ InR (u131 264 8)) <|
    if v130 < u131 264 8 then
      xgd ((0 ≤ v130 ∧ v130 < 20)) <|
      xgd (InR (u131 267 v130)) <|
      xlet (fun (s137 : Int) (u138 : uS) =>
          xgd ((0 ≤ v130 ∧ v130 < 20)) <|
          xgd (InR (u138 267 v130)) <|
          xlet (fun (u142 : uS) =>
              xbd (f_L_retracts v130 u142) fun v143 u144 =>
              xgd (InR v143 ∧ InR s137) <|
              if v143 = s137 then
                some (1, u144)
              else
                some (0, u144)
              ) fun j141 =>
          if u138 267 v130 = 0 then
            xbd (f_X10_retract v130 u138) fun _ u149 =>
            j141 u149
          else
            j141 u138
          ) fun j136 =>
      if u131 267 v130 = 0 then
        xbd (f_X10_size v130 u131) fun v151 u152 =>
        j136 v151 u152
      else
        j136 (-3) u131
    else
      some (1, u131)
  else none
def s_L_agrees_346 (j22 : Int → uS → Option (Int × uS)) (go29 : Int → Int → uS → Option (Int × uS)) (x3_30 : Int) (x4_31 : Int) (u32 : uS) : Option (Int × uS) :=
  xgd (InR x4_31 ∧ InR (u32 264 8)) <|
  if u32 264 8 ≤ x4_31 then
    j22 x3_30 u32
  else
    xgd (x4_31 < 20) <|
    xb0 (f_X9_event x4_31 0 u32) fun v36 u37 =>
    xgd ((0 ≤ x4_31 ∧ x4_31 < 20)) <|
    xgd (InR (u37 267 x4_31)) <|
    xlet (fun (s41 : Int) (u42 : uS) =>
        xgd (InR v36 ∧ InR s41) <|
        if v36 = s41 then
          xb0 (f_X9_event x4_31 1 u42) fun v45 u46 =>
          xbd (f_X10_size x4_31 u46) fun v47 u48 =>
          xgd (InR v45 ∧ InR v47) <|
          if v45 = v47 then
            xb0 (f_X9_event x4_31 2 u48) fun v51 u52 =>
            xgd ((0 ≤ x4_31 ∧ x4_31 < 20)) <|
            xgd (InR v51 ∧ InR (u52 268 x4_31)) <|
            if v51 = u52 268 x4_31 then
              xgd ((0 ≤ x4_31 ∧ x4_31 < 20)) <|
              xgd (InR (u52 267 x4_31)) <|
              xlet (fun (s59 : Int) (u60 : uS) =>
                  xb0 (f_X9_event x4_31 3 u60) fun v61 u62 =>
                  xgd (InR v61 ∧ InR s59) <|
                  if v61 = s59 then
                    xgd ((0 ≤ x4_31 ∧ x4_31 < 20)) <|
                    xgd (InR (u62 267 x4_31)) <|
                    if u62 267 x4_31 = 0 then
                      xbd (f_X10_fitAt s59 x4_31 u62) fun v68 u69 =>
                      xgd (v68 = 354) <|
                      xb0 (f_X9_event x4_31 4 u69) fun v73 u74 =>
                      xgd (InR v73 ∧ InR (u74 354 0)) <|
                      if v73 = u74 354 0 then
                        xb0 (f_X9_event x4_31 5 u74) fun v77 u78 =>
                        xgd (InR v77 ∧ InR (u78 354 1)) <|
                        if v77 = u78 354 1 then
                          xb0 (f_X9_misfit s59 x4_31 u78) fun v81 u82 =>
                          xgd (InR v81 ∧ InR (u82 354 1)) <|
                          if v81 = u82 354 1 then
                            xb0 (f_X9_event x4_31 6 u82) fun v85 u86 =>
                            xbd (f_X10_magnitude x4_31 s59 u86) fun v87 u88 =>
                            xgd (InR v85 ∧ InR v87) <|
                            if v85 = v87 then
                              go29 (x3_30 + 1) (x4_31 + 1) u88
                            else
                              some (0, u88)
                          else
                            some (0, u82)
                        else
                          some (0, u78)
                      else
                        some (0, u74)
                    else
                      go29 x3_30 (x4_31 + 1) u62
                  else
                    some (0, u62)
                  ) fun j58 =>
              if u52 267 x4_31 = 0 then
                xbd (f_X10_node x4_31 u52) fun v94 u95 =>
                j58 v94 u95
              else
                j58 (-1) u52
            else
              some (0, u52)
          else
            some (0, u48)
        else
          some (0, u42)
        ) fun j40 =>
    if u37 267 x4_31 = 0 then
      j40 0 u37
    else
      j40 1 u37
def s_L_agrees_218 (j20 : uS → Option (Int × uS)) (go98 : Int → uS → Option (Int × uS)) (x3_99 : Int) (u100 : uS) : Option (Int × uS) :=
  xgd (InR x3_99 ∧ InR (u100 264 7)) <|
  if u100 264 7 ≤ x3_99 then
    j20 u100
  else
    xgd (x3_99 < 60) <|
    xgd ((0 ≤ x3_99 ∧ x3_99 < 60)) <|
    xgd (0 ≤ u100 266 x3_99) <|
    xlet (u100 266 x3_99).toNat fun n106 =>
    xb0 (f_X9_pick x3_99 0 u100) fun v109 u110 =>
    xgd (InR v109 ∧ InR (u110 n106 0)) <|
    if v109 = u110 n106 0 then
      xb0 (f_X9_pick x3_99 1 u110) fun v113 u114 =>
      xgd (InR v113 ∧ InR (u114 n106 1)) <|
      if v113 = u114 n106 1 then
        xb0 (f_X9_pick x3_99 2 u114) fun v117 u118 =>
        xgd (InR v117 ∧ InR (u118 n106 2)) <|
        if v117 = u118 n106 2 then
          xb0 (f_X9_pick x3_99 3 u118) fun v121 u122 =>
          xgd (InR v121 ∧ InR (u122 n106 3)) <|
          if v121 = u122 n106 3 then
            xb0 (f_X9_pick x3_99 4 u122) fun v125 u126 =>
            xgd (InR (u126 n106 4)) <|
            xlet (fun (s129 : Int) (u130 : uS) =>
                xgd (InR v125 ∧ InR s129) <|
                if v125 = s129 then
                  xb0 (f_X9_fits x3_99 0 u130) fun v133 u134 =>
                  xgd (0 ≤ u134 266 0) <|
                  xlet (u134 266 0).toNat fun n136 =>
                  xbd (f_X10_fit n106 n136 u134) fun v139 u140 =>
                  xgd (InR v133 ∧ InR v139) <|
                  if v133 = v139 then
                    go98 (x3_99 + 1) u140
                  else
                    some (0, u140)
                else
                  some (0, u130)
                ) fun j128 =>
            if u126 n106 4 = 0 then
              j128 0 u126
            else
              j128 1 u126
          else
            some (0, u122)
        else
          some (0, u118)
      else
        some (0, u114)
    else
      some (0, u110)
def s_L_agrees_170 (go144 : Int → Int → uS → Option (Int × uS)) (x2_158 : Int) (x3_146 : Int) (go188 : Int → uS → Option (Int × uS)) (x6_189 : Int) (u190 : uS) : Option (Int × uS) :=
  xgd (InR x6_189) <|
  if 8 ≤ x6_189 then
    go144 x2_158 (x3_146 + 1) u190
  else
    xgd (x6_189 < 8) <|
    xb0 (f_X9_station x3_146 x6_189 u190) fun v195 u196 =>
    xgd ((0 ≤ x6_189 ∧ x6_189 < 8)) <|
    xgd (InR v195 ∧ InR (u196 356 x6_189)) <|
    if v195 = u196 356 x6_189 then
      go188 (x6_189 + 1) u196
    else
      some (0, u196)
def s_L_agrees_41 (j13 : Int → uS → Option (Int × uS)) (go144 : Int → Int → uS → Option (Int × uS)) (x2_145 : Int) (x3_146 : Int) (u147 : uS) : Option (Int × uS) :=
  xgd (InR x3_146 ∧ InR (u147 264 6)) <|
  if u147 264 6 ≤ x3_146 then
    j13 x2_145 u147
  else
    xgd (x3_146 < 8) <|
    xgd ((0 ≤ x3_146 ∧ x3_146 < 8)) <|
    xgd (0 ≤ u147 265 x3_146) <|
    xlet (u147 265 x3_146).toNat fun n153 =>
    xgd (InR (u147 n153 4)) <|
    xlet (fun (x2_158 : Int) (u159 : uS) =>
        xgd (mkOk u159) <|
        xlet (upA u159 356 (fun _ => 0)) fun u162 =>
        xlet (up u162 356 0 (u162 n153 0)) fun u164 =>
        xlet (up u164 356 1 (u164 n153 1)) fun u165 =>
        xlet (up u165 356 2 (u165 n153 2)) fun u166 =>
        xbd (f_X10_sum n153 (u166 264 17) u166) fun v167 u168 =>
        xlet (up u168 356 3 v167) fun u169 =>
        xbd (f_X10_sum n153 (u169 264 18) u169) fun v170 u171 =>
        xlet (up u171 356 4 v170) fun u172 =>
        xbd (f_X10_ratio n153 u172) fun v173 u174 =>
        xlet (up u174 356 5 v173) fun u175 =>
        xgd (InR (u175 n153 4)) <|
        xlet (fun (s178 : Int) (u179 : uS) =>
            xlet (up u179 356 6 s178) fun u181 =>
            xgd (InR (u181 n153 5)) <|
            xlet (fun (s184 : Int) (u185 : uS) =>
                xlet (up u185 356 7 s184) fun u187 =>
                xl2 (s_L_agrees_170 go144 x2_158 x3_146) 9 0 u187
                ) fun j183 =>
            if u181 n153 5 = 0 then
              j183 0 u181
            else
              j183 1 u181
            ) fun j177 =>
        if u175 n153 4 = 0 then
          j177 0 u175
        else
          j177 1 u175
        ) fun j157 =>
    if u147 n153 4 = 0 then
      j157 x2_145 u147
    else
      j157 (x2_145 + 1) u147
def f_L_agrees (u : uS) : Option (Int × uS) :=
  xbd (f_X9_tick u) fun v1 u2 =>
  xgd (InR v1 ∧ InR (u2 264 9)) <|
  if v1 = u2 264 9 then
    xb0 (f_X9_size 3 u2) fun v5 u6 =>
    xgd (InR v5 ∧ InR (u6 264 7)) <|
    if v5 = u6 264 7 then
      xb0 (f_X9_size 4 u6) fun v9 u10 =>
      xgd (InR v9 ∧ InR (u10 264 8)) <|
      if v9 = u10 264 8 then
        xlet (fun (x2_14 : Int) (u15 : uS) =>
            xbd (f_X9_triggered u15) fun v16 u17 =>
            xgd (InR v16 ∧ InR x2_14) <|
            if v16 = x2_14 then
              xlet (fun (u21 : uS) =>
                  xlet (fun (x3_23 : Int) (u24 : uS) =>
                      xb0 (f_X9_size 5 u24) fun v25 u26 =>
                      xgd (InR v25 ∧ InR x3_23) <|
                      if v25 = x3_23 then
                        some (1, u26)
                      else
                        some (0, u26)
                      ) fun j22 =>
                  xl3 (s_L_agrees_346 j22) 21 0 0 u21
                  ) fun j20 =>
              xl2 (s_L_agrees_218 j20) 61 0 u17
            else
              some (0, u17)
            ) fun j13 =>
        xl3 (s_L_agrees_41 j13) 9 0 0 u10
      else
        some (0, u10)
    else
      some (0, u6)
  else
    some (0, u2)
