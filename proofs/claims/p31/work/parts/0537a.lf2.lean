/-! the functions of feeds, net and plays, written by program -/
def s_L_feeds_20 (j13 : uS → Option (Int × uS)) (x3_3 : Int) (go20 : Int → uS → Option (Int × uS)) (x5_21 : Int) (u22 : uS) : Option (Int × uS) :=
  xgd (InR x5_21) <|
  if 20 ≤ x5_21 then
    j13 u22
  else
    xgd (InR x5_21) <|
    xgd (InR x5_21) <|
    xgd ((0 ≤ (Int.tdiv x5_21 4) ∧ (Int.tdiv x5_21 4) < 5)) <|
    xbd (f_dlen u22) fun v29 u30 =>
    xgd (InR (x3_3 + x5_21) ∧ InR v29) <|
    xlet (fun (s33 : Int) (u34 : uS) =>
        xgd ((0 ≤ (Int.tdiv x5_21 4) ∧ (Int.tdiv x5_21 4) < 5)) <|
        xlet (up u34 291 (Int.tdiv x5_21 4) (orI (shlI (u22 291 (Int.tdiv x5_21 4)) 8) s33)) fun u37 =>
        go20 (x5_21 + 1) u37
        ) fun j32 =>
    if v29 ≤ (x3_3 + x5_21) then
      j32 32 u30
    else
      xbd (f_dchr (x3_3 + x5_21) u30) fun v39 u40 =>
      j32 v39 u40
def s_L_feeds_4 (go1 : Int → Int → uS → Option (Int × uS)) (x2_2 : Int) (x3_3 : Int) (u4 : uS) : Option (Int × uS) :=
  xbd (f_dlen u4) fun v5 u6 =>
  xgd (InR x3_3 ∧ InR v5) <|
  if v5 ≤ x3_3 then
    some (1, u6)
  else
    xgd (mkOk u6) <|
    xlet (upA u6 291 (fun _ => 0)) fun u11 =>
    xlet (fun (u14 : uS) =>
        xbd (f_X9_append (u14 291 0) (u14 291 1) (u14 291 2) (u14 291 3) (u14 291 4) u14) fun v16 u17 =>
        xgd (InR v16 ∧ InR (x2_2 + 20)) <|
        if v16 = (x2_2 + 20) then
          go1 (x2_2 + 20) (x3_3 + 20) u17
        else
          some (0, u17)
        ) fun j13 =>
    xl2 (s_L_feeds_20 j13 x3_3) FU 0 u11
def f_L_feeds (u : uS) : Option (Int × uS) :=
  xl3 (s_L_feeds_4) 20 0 0 u
def s_L_net_460 (go210 : Int → uS → Option (Int × uS)) (x3_211 : Int) (u212 : uS) : Option (Int × uS) :=
  xgd (InR x3_211 ∧ InR (u212 264 10)) <|
  if u212 264 10 ≤ x3_211 then
    some ((264 : Int), u212)
  else
    xgd (x3_211 < 4) <|
    xgd (InR x3_211) <|
    xlet (fun (s219 : Int) (u220 : uS) =>
        xbd (f_L_draw 60 u220) fun v223 u224 =>
        xgd ((0 ≤ x3_211 ∧ x3_211 < 8)) <|
        xlet (up u224 269 x3_211 (s219 + v223)) fun u226 =>
        xgd (InR x3_211) <|
        xlet (fun (s229 : Int) (u230 : uS) =>
            xbd (f_L_draw 20 u230) fun v233 u234 =>
            xgd ((0 ≤ x3_211 ∧ x3_211 < 8)) <|
            xlet (up u234 270 x3_211 (s229 + v233)) fun u236 =>
            xbd (f_J4_append_15ec4 2019 u236) fun v237 u238 =>
            xgd (v237 = 37) <|
            xgd ((0 ≤ x3_211 ∧ x3_211 < 8)) <|
            xbd (f_J4_append_bf812 (u238 269 x3_211) u238) fun v242 u243 =>
            xgd (v242 = 37) <|
            xbd (f_J4_append_cf468 32 u243) fun v246 u247 =>
            xgd (v246 = 37) <|
            xgd ((0 ≤ x3_211 ∧ x3_211 < 8)) <|
            xbd (f_J4_append_bf812 (u247 270 x3_211) u247) fun v251 u252 =>
            xgd (v251 = 37) <|
            xbd (f_J4_append_cf468 59 u252) fun v255 u256 =>
            xgd (v255 = 37) <|
            go210 (x3_211 + 1) u256
            ) fun j228 =>
        if x3_211 = 0 then
          j228 0 u226
        else
          xgd ((0 ≤ (x3_211 - 1) ∧ (x3_211 - 1) < 8)) <|
          j228 (u226 270 (x3_211 - 1)) u226
        ) fun j218 =>
    if x3_211 = 0 then
      j218 0 u212
    else
      xgd ((0 ≤ (x3_211 - 1) ∧ (x3_211 - 1) < 8)) <|
      j218 (u212 269 (x3_211 - 1) + 1) u212
def s_L_net_22 (j8 : uS → Option (Int × uS)) (go263 : Int → uS → Option (Int × uS)) (x3_264 : Int) (u265 : uS) : Option (Int × uS) :=
  xgd (InR x3_264 ∧ InR (u265 264 6)) <|
  if u265 264 6 ≤ x3_264 then
    j8 u265
  else
    xgd (x3_264 < 8) <|
    xgd ((0 ≤ x3_264 ∧ x3_264 < 8) ∧ (∀ j9 : Nat, j9 < 8 → u265 265 (j9 : Int) ≠ 271 + 2 * x3_264) ∧ mkOk u265) <|
    xlet (271 + 2 * x3_264).toNat fun n271 =>
    xlet (upA (upA u265 n271 (fun j => if j = 3 then -1 else 0)) (n271 + 1) (fun _ => 0)) fun u275 =>
    xgd ((0 ≤ x3_264 ∧ x3_264 < 8)) <|
    xlet (up u275 265 x3_264 (n271 : Int)) fun u280 =>
    xgd ((0 ≤ x3_264 ∧ x3_264 < 8)) <|
    xgd (0 ≤ u280 265 x3_264) <|
    xlet (u280 265 x3_264).toNat fun n283 =>
    xbd (f_L_draw 200 u280) fun v285 u286 =>
    xlet (up u286 n283 0 v285) fun u287 =>
    xgd ((0 ≤ x3_264 ∧ x3_264 < 8)) <|
    xgd (0 ≤ u287 265 x3_264) <|
    xlet (u287 265 x3_264).toNat fun n290 =>
    xbd (f_L_draw 200 u287) fun v292 u293 =>
    xlet (up u293 n290 1 v292) fun u294 =>
    xbd (f_J4_append_15ec4 2009 u294) fun v295 u296 =>
    xgd (v295 = 37) <|
    xgd ((0 ≤ x3_264 ∧ x3_264 < 8)) <|
    xgd (0 ≤ u296 265 x3_264) <|
    xlet (u296 265 x3_264).toNat fun n301 =>
    xbd (f_J4_append_bf812 (u296 n301 0) u296) fun v303 u304 =>
    xgd (v303 = 37) <|
    xbd (f_J4_append_cf468 32 u304) fun v307 u308 =>
    xgd (v307 = 37) <|
    xgd ((0 ≤ x3_264 ∧ x3_264 < 8)) <|
    xgd (0 ≤ u308 265 x3_264) <|
    xlet (u308 265 x3_264).toNat fun n313 =>
    xbd (f_J4_append_bf812 (u308 n313 1) u308) fun v315 u316 =>
    xgd (v315 = 37) <|
    xbd (f_J4_append_cf468 59 u316) fun v319 u320 =>
    xgd (v319 = 37) <|
    go263 (x3_264 + 1) u320
def f_L_net (u : uS) : Option (Int × uS) :=
  xgd (mkOk u) <|
  xlet (ntU u) fun u3 =>
  xbd (f_L_draw 7 u3) fun v5 u6 =>
  xlet (up u6 264 6 (2 + v5)) fun u7 =>
  xlet (fun (u9 : uS) =>
      xbd (f_L_draw 100 u9) fun v11 u12 =>
      xlet (up u12 264 11 v11) fun u13 =>
      xbd (f_L_draw 100 u13) fun v14 u15 =>
      xlet (up u15 264 12 v14) fun u16 =>
      xbd (f_L_draw 4 u16) fun v17 u18 =>
      xlet (up u18 264 13 (1 + v17)) fun u19 =>
      xbd (f_L_draw 4 u19) fun v20 u21 =>
      xlet (up u21 264 14 (1 + v20)) fun u22 =>
      xbd (f_L_draw 60 u22) fun v23 u24 =>
      xlet (up u24 264 15 (1 + v23)) fun u25 =>
      xbd (f_L_draw 400 u25) fun v26 u27 =>
      xlet (up u27 264 16 (1 + v26)) fun u28 =>
      xbd (f_L_draw 4 u28) fun v29 u30 =>
      xlet (up u30 264 17 (1 + v29)) fun u31 =>
      xbd (f_L_draw 8 u31) fun v32 u33 =>
      xlet (up u33 264 18 (u31 264 17 + v32)) fun u34 =>
      xbd (f_L_draw 250 u34) fun v35 u36 =>
      xlet (up u36 264 19 (50 + v35)) fun u37 =>
      xbd (f_L_draw (u37 264 19 + 1) u37) fun v38 u39 =>
      xlet (up u39 264 20 v38) fun u40 =>
      xbd (f_L_draw 4 u40) fun v41 u42 =>
      xlet (up u42 264 21 (1 + v41)) fun u43 =>
      xbd (f_L_draw 6 u43) fun v44 u45 =>
      xlet (up u45 264 22 v44) fun u46 =>
      xbd (f_L_draw 4 u46) fun v47 u48 =>
      xlet (up u48 264 23 v47) fun u49 =>
      xgd (mkOk u49) <|
      xlet (sbU2 u49) fun u54 =>
      xbd (f_J4_append_15ec4 2010 u54) fun v57 u58 =>
      xgd (v57 = 37) <|
      xbd (f_J4_append_bf812 (u58 264 11) u58) fun v62 u63 =>
      xgd (v62 = 37) <|
      xbd (f_J4_append_15ec4 2011 u63) fun v67 u68 =>
      xgd (v67 = 37) <|
      xbd (f_J4_append_bf812 (u68 264 12) u68) fun v72 u73 =>
      xgd (v72 = 37) <|
      xbd (f_J4_append_15ec4 2011 u73) fun v77 u78 =>
      xgd (v77 = 37) <|
      xbd (f_J4_append_bf812 (u78 264 13) u78) fun v82 u83 =>
      xgd (v82 = 37) <|
      xbd (f_J4_append_15ec4 2011 u83) fun v87 u88 =>
      xgd (v87 = 37) <|
      xbd (f_J4_append_bf812 (u88 264 14) u88) fun v92 u93 =>
      xgd (v92 = 37) <|
      xbd (f_J4_append_15ec4 2011 u93) fun v97 u98 =>
      xgd (v97 = 37) <|
      xbd (f_J4_append_bf812 (u98 264 15) u98) fun v102 u103 =>
      xgd (v102 = 37) <|
      xbd (f_J4_append_15ec4 2012 u103) fun v107 u108 =>
      xgd (v107 = 37) <|
      xbd (f_J4_append_bf812 (u108 264 16) u108) fun v112 u113 =>
      xgd (v112 = 37) <|
      xbd (f_J4_append_15ec4 2013 u113) fun v117 u118 =>
      xgd (v117 = 37) <|
      xbd (f_J4_append_bf812 (u118 264 17) u118) fun v122 u123 =>
      xgd (v122 = 37) <|
      xbd (f_J4_append_15ec4 2011 u123) fun v127 u128 =>
      xgd (v127 = 37) <|
      xbd (f_J4_append_bf812 (u128 264 18) u128) fun v132 u133 =>
      xgd (v132 = 37) <|
      xbd (f_J4_append_15ec4 2014 u133) fun v137 u138 =>
      xgd (v137 = 37) <|
      xbd (f_J4_append_bf812 (u138 264 19) u138) fun v142 u143 =>
      xgd (v142 = 37) <|
      xbd (f_J4_append_15ec4 2011 u143) fun v147 u148 =>
      xgd (v147 = 37) <|
      xbd (f_J4_append_bf812 (u148 264 20) u148) fun v152 u153 =>
      xgd (v152 = 37) <|
      xbd (f_J4_append_15ec4 2015 u153) fun v157 u158 =>
      xgd (v157 = 37) <|
      xbd (f_J4_append_bf812 (u158 264 21) u158) fun v162 u163 =>
      xgd (v162 = 37) <|
      xbd (f_J4_append_15ec4 2016 u163) fun v167 u168 =>
      xgd (v167 = 37) <|
      xbd (f_J4_append_bf812 (u168 264 22) u168) fun v172 u173 =>
      xgd (v172 = 37) <|
      xbd (f_J4_append_15ec4 2017 u173) fun v177 u178 =>
      xgd (v177 = 37) <|
      xbd (f_J4_append_bf812 (u178 264 23) u178) fun v182 u183 =>
      xgd (v182 = 37) <|
      xbd (f_J4_append_15ec4 2018 u183) fun v187 u188 =>
      xgd (v187 = 37) <|
      xbd (f_toString u188) fun _ u193 =>
      xgd (mkOk u193) <|
      xlet (sbU3 u193) fun u200 =>
      xbd (fd_J4_append u200) fun v203 u204 =>
      xgd (v203 = 37) <|
      xbd (f_L_draw 5 u204) fun v207 u208 =>
      xlet (up u208 264 10 v207) fun u209 =>
      xl2 (s_L_net_460) 5 0 u209
      ) fun j8 =>
  xl2 (s_L_net_22 j8) 9 0 u7
def s_L_plays_82 (j38 : uS → Option (Int × uS)) (go82 : Int → uS → Option (Int × uS)) (x4_83 : Int) (u84 : uS) : Option (Int × uS) :=
  xgd (InR x4_83) <|
  if 40 ≤ x4_83 then
    j38 u84
  else
    xgd (x4_83 < 40) <|
    xbd (f_L_acts u84) fun v89 u90 =>
    xgd (InR v89) <|
    if v89 = 0 then
      some (0, u90)
    else
      xbd (f_L_agrees u90) fun v95 u96 =>
      xgd (InR v95) <|
      if v95 = 0 then
        some (0, u96)
      else
        go82 (x4_83 + 1) u96
def f_L_plays (u : uS) : Option (Int × uS) :=
  xgd (mkOk u) <|
  xlet (sbU u) fun u2 =>
  xbd (f_L_net u2) fun v3 u4 =>
  xgd (v3 = 264) <|
  xbd (f_toString u4) fun _ u9 =>
  xbd (f_L_feeds u9) fun v14 u15 =>
  xgd (InR v14) <|
  if v14 = 0 then
    some (0, u15)
  else
    xbd (f_J4_length_8abf5 u15) fun v20 u21 =>
    xb0 (f_X9_parse v20 u21) fun v22 u23 =>
    xgd (InR v22) <|
    if v22 = 0 then
      xb0 (f_X9_size 0 u23) fun v26 u27 =>
      xgd (InR v26 ∧ InR (u27 264 6)) <|
      if v26 = u27 264 6 then
        xb0 (f_X9_size 1 u27) fun v30 u31 =>
        xgd (InR v30 ∧ InR (u31 264 13 * u31 264 14)) <|
        if v30 = (u31 264 13 * u31 264 14) then
          xb0 (f_X9_size 2 u31) fun v34 u35 =>
          xgd (InR v34 ∧ InR (u35 264 10)) <|
          if v34 = u35 264 10 then
            xlet (fun (u39 : uS) =>
                xbd (f_L_draw 500 u39) fun v41 u42 =>
                xbd (f_L_draw (u42 264 6) u42) fun v43 u44 =>
                xbd (f_L_draw (u44 264 13 * u44 264 14) u44) fun v45 u46 =>
                xb0 (f_X9_ladder v41 u46) fun v47 u48 =>
                xbd (f_X10_rung v41 u48) fun v49 u50 =>
                xgd (InR v47 ∧ InR v49) <|
                if v47 = v49 then
                  xb0 (f_X9_travel v45 v43 u50) fun v53 u54 =>
                  xgd (InR v45 ∧ InR (u54 264 13) ∧ u54 264 13 ≠ 0) <|
                  xgd (InR v45 ∧ InR (u54 264 13) ∧ u54 264 13 ≠ 0) <|
                  xgd ((0 ≤ v43 ∧ v43 < 8)) <|
                  xgd (0 ≤ u54 265 v43) <|
                  xlet (u54 265 v43).toNat fun n59 =>
                  xbd (f_X10_time (u54 264 11 + ((Int.tmod v45 (u54 264 13)) * u54 264 15)) (u54 264 12 + ((Int.tdiv v45 (u54 264 13)) * u54 264 15)) n59 u54) fun v61 u62 =>
                  xgd (InR v53 ∧ InR v61) <|
                  if v53 = v61 then
                    xb0 (f_X9_between v43 0 u62) fun v65 u66 =>
                    xgd ((0 ≤ v43 ∧ v43 < 8)) <|
                    xgd (0 ≤ u66 265 v43) <|
                    xlet (u66 265 v43).toNat fun n69 =>
                    xgd ((0 ≤ v43 ∧ v43 < 8)) <|
                    xgd (0 ≤ u66 265 v43) <|
                    xlet (u66 265 v43).toNat fun n73 =>
                    xgd (0 ≤ u66 265 0) <|
                    xlet (u66 265 0).toNat fun n76 =>
                    xbd (f_X10_time (u66 n69 0) (u66 n73 1) n76 u66) fun v78 u79 =>
                    xgd (InR v65 ∧ InR v78) <|
                    if v65 = v78 then
                      some (1, u79)
                    else
                      some (0, u79)
                  else
                    some (0, u62)
                else
                  some (0, u50)
                ) fun j38 =>
            xl2 (s_L_plays_82 j38) 41 0 u35
          else
            some (0, u35)
        else
          some (0, u31)
      else
        some (0, u27)
    else
      some (0, u23)
